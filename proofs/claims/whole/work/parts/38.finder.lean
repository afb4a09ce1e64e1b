/-! THE FINDER -/
theorem c_word {z : Sg} {n t : Nat} (h : bkOK z n) (ht : t ≤ 26) (hT : z.F 22 1 = nI t) (c : Int32) : EM mDesk_word 6 0 0 [.ref 3, .int c] (hp z) (Det (some (.int (if wOK z t c then wNum z n t else (-1)))) (hp (if (if wOK z t c then wNum z n t else (-1)) = -1 then (if wOK z t c then wPut (wBook z n t) (wNum z n t) c else z) else (if inB 0 0 ((if wOK z t c then wPut (wBook z n t) (wNum z n t) c else z).F 22 1) then stF (if wOK z t c then wPut (wBook z n t) (wNum z n t) c else z) 22 1 0 else (if wOK z t c then wPut (wBook z n t) (wNum z n t) c else z))))) := by
  refine E_aload_n dX10_word_0 rfl ?_
  refine E_getf 5 dX10_word_1 fl_X10_49 (by decide) (hg_3 _) rfl ?_
  refine E_aload_n dX10_word_4 rfl ?_
  refine E_getf 4 dX10_word_5 fl_X10_42 (by decide) (hg_3 _) rfl ?_
  refine E_iload_n dX10_word_8 rfl ?_
  refine E_V2 dX10_word_9 cv_X10_154 (by decide) (hg_24 _) rfl rfl (Nat.le_of_ble_eq_true rfl) (Nat.le_of_ble_eq_true rfl) (c_Book_take h ht hT c) (by decide) (Nat.zero_le _) (Nat.zero_le _) ?_
  generalize (if wOK z t c then wNum z n t else (-1)) = w
  generalize (if wOK z t c then wPut (wBook z n t) (wNum z n t) c else z) = z1
  refine E_istore_n dX10_word_12 (by decide) rfl ?_
  refine E_iload_n dX10_word_13 rfl ?_
  refine E_iconst (v := (-1)) dX10_word_14 rfl ?_
  refine E_icmp_eq 27 dX10_word_15 (by decide) (fun c_15 => ?_) (fun c_15 => ?_)
  · refine E_iload_n dX10_word_27 rfl ?_
    exact E_iret dX10_word_28 rfl rfl ⟨rfl, by first | rw [if_pos c_15] | rw [if_neg c_15]⟩
  · refine E_aload_n dX10_word_18 rfl ?_
    refine E_getf 4 dX10_word_19 fl_X10_42 (by decide) (hg_3 _) rfl ?_
    refine E_iconst (v := 0) dX10_word_22 rfl ?_
    refine E_V1 dX10_word_23 cv_X10_151 (by decide) (hg_22 _) rfl rfl (Nat.le_of_ble_eq_true rfl) (Nat.le_of_ble_eq_true rfl) (c_cut z1 0) (by decide) (Nat.zero_le _) (Nat.zero_le _) ?_
    refine E_pop dX10_word_26 rfl ?_
    refine E_iload_n dX10_word_27 rfl ?_
    exact E_iret dX10_word_28 rfl rfl ⟨rfl, by first | rw [if_pos c_15] | rw [if_neg c_15]⟩
abbrev isB (z : Sg) (w u : Int32) (p : Nat) : Prop := if u = z.A 31 p then bg z 27 (z.A 30 p) < bg z 27 w else u < z.A 31 p
theorem c_isBetter {z : Sg} {n : Nat} (h : bkOK z n) (w u : Int32) (p : Nat) (hpl : p < 40) : EM mFinder_isBetter 2 0 0 [.ref 28, .int w, .int u, .int (nI p)] (hp z) (Det (some (.int (b2i (isB z w u p)))) (hp z)) := by
  have hcl : (nI p).toNatClampNeg = p := nI_clamp (by omega)
  refine E_iload_n dX2_isBetter_0 rfl ?_
  refine E_aload_n dX2_isBetter_1 rfl ?_
  refine E_getf 5 dX2_isBetter_2 fl_X2_20 (by decide) (hg_28 _) rfl ?_
  refine E_iload_n dX2_isBetter_5 rfl ?_
  refine E_iald dX2_isBetter_6 (by decide) (hg_31 _) (vp_in_nI (by omega) (by omega)) ?_
  rw [hcl]
  refine E_icmp_eq 26 dX2_isBetter_7 (by decide) (fun c_7 => ?_) (fun c_7 => ?_)
  · refine E_aload_n dX2_isBetter_26 rfl ?_
    refine E_getf 0 dX2_isBetter_27 fl_X2_23 (by decide) (hg_28 _) rfl ?_
    refine E_iload_n dX2_isBetter_30 rfl ?_
    refine E_V1 dX2_isBetter_31 cv_X2_87 (by decide) (hg_24 _) rfl rfl (Nat.le_of_ble_eq_true rfl) (Nat.le_of_ble_eq_true rfl) (c_timesOf z (bk_le h) w) (by decide) (Nat.zero_le _) (Nat.zero_le _) ?_
    refine E_aload_n dX2_isBetter_34 rfl ?_
    refine E_getf 0 dX2_isBetter_35 fl_X2_23 (by decide) (hg_28 _) rfl ?_
    refine E_aload_n dX2_isBetter_38 rfl ?_
    refine E_getf 4 dX2_isBetter_39 fl_X2_17 (by decide) (hg_28 _) rfl ?_
    refine E_iload_n dX2_isBetter_42 rfl ?_
    refine E_iald dX2_isBetter_43 (by decide) (hg_30 _) (vp_in_nI (by omega) (by omega)) ?_
    rw [hcl]
    refine E_V1 dX2_isBetter_44 cv_X2_87 (by decide) (hg_24 _) rfl rfl (Nat.le_of_ble_eq_true rfl) (Nat.le_of_ble_eq_true rfl) (c_timesOf z (bk_le h) _) (by decide) (Nat.zero_le _) (Nat.zero_le _) ?_
    refine E_icmp_le 54 dX2_isBetter_47 (by decide) (fun c_47 => ?_) (fun c_47 => ?_)
    · refine E_iconst (v := 0) dX2_isBetter_54 rfl ?_
      exact E_iret dX2_isBetter_55 rfl rfl ⟨by first | exact si_f (p := isB z w u p) (by unfold isB; rw [if_pos c_7, i32_lt]; rw [i32_le] at c_47; exact Int.not_lt.mpr c_47) | exact si_t (p := isB z w u p) (by unfold isB; rw [if_pos c_7, i32_lt]; rw [i32_le] at c_47; exact Int.not_le.mp c_47), rfl⟩
    · refine E_iconst (v := 1) dX2_isBetter_50 rfl ?_
      refine E_goto 55 dX2_isBetter_51 (by decide) ?_
      exact E_iret dX2_isBetter_55 rfl rfl ⟨by first | exact si_f (p := isB z w u p) (by unfold isB; rw [if_pos c_7, i32_lt]; rw [i32_le] at c_47; exact Int.not_lt.mpr c_47) | exact si_t (p := isB z w u p) (by unfold isB; rw [if_pos c_7, i32_lt]; rw [i32_le] at c_47; exact Int.not_le.mp c_47), rfl⟩
  · refine E_iload_n dX2_isBetter_10 rfl ?_
    refine E_aload_n dX2_isBetter_11 rfl ?_
    refine E_getf 5 dX2_isBetter_12 fl_X2_20 (by decide) (hg_28 _) rfl ?_
    refine E_iload_n dX2_isBetter_15 rfl ?_
    refine E_iald dX2_isBetter_16 (by decide) (hg_31 _) (vp_in_nI (by omega) (by omega)) ?_
    rw [hcl]
    refine E_icmp_ge 24 dX2_isBetter_17 (by decide) (fun c_17 => ?_) (fun c_17 => ?_)
    · refine E_iconst (v := 0) dX2_isBetter_24 rfl ?_
      exact E_iret dX2_isBetter_25 rfl rfl ⟨by first | exact si_f (p := isB z w u p) (by unfold isB; rw [if_neg c_7, i32_lt]; rw [i32_le] at c_17; exact Int.not_lt.mpr c_17) | exact si_t (p := isB z w u p) (by unfold isB; rw [if_neg c_7, i32_lt]; rw [i32_le] at c_17; exact Int.not_le.mp c_17), rfl⟩
    · refine E_iconst (v := 1) dX2_isBetter_20 rfl ?_
      refine E_goto 25 dX2_isBetter_21 (by decide) ?_
      exact E_iret dX2_isBetter_25 rfl rfl ⟨by first | exact si_f (p := isB z w u p) (by unfold isB; rw [if_neg c_7, i32_lt]; rw [i32_le] at c_17; exact Int.not_lt.mpr c_17) | exact si_t (p := isB z w u p) (by unfold isB; rw [if_neg c_7, i32_lt]; rw [i32_le] at c_17; exact Int.not_le.mp c_17), rfl⟩
def ePut (z : Sg) (w u : Int32) (p : Nat) : Sg := stF (stA (stA z 30 (upd (z.A 30) p w)) 31 (upd (z.A 31) p u)) 28 6 (z.F 28 6 + 1)
def eSh (z : Sg) (p : Nat) : Sg := stA (stA z 30 (upd (z.A 30) (p + 1) (z.A 30 p))) 31 (upd (z.A 31) (p + 1) (z.A 31 p))
def esh (w u : Int32) : Nat → Sg → Sg
  | 0, z => ePut z w u 0
  | p + 1, z => if isB z w u p then esh w u p (eSh z p) else ePut z w u (p + 1)
theorem bk_eSh {z : Sg} {n : Nat} (h : bkOK z n) (p : Nat) : bkOK (eSh z p) n := h
theorem l_esh {n : Nat} (w u : Int32) : ∀ (p : Nat) (z : Sg), p < 40 → bkOK z n → E mFinder_enlist 3 0 0 15 [(0, .ref 28), (1, .int w), (2, .int u), (3, .int (nI p))] [] (hp z) (Det none (hp (esh w u p z))) := by
  intro p
  induction p with
  | zero =>
    intro z hpl hk
    refine E_iload_n dX2_enlist_15 rfl ?_
    refine E_if_le 65 dX2_enlist_16 (by decide) (fun c_16 => ?_) (fun c_16 => ?_)
    · refine E_aload_n dX2_enlist_65 rfl ?_
      refine E_getf 4 dX2_enlist_66 fl_X2_17 (by decide) (hg_28 _) rfl ?_
      refine E_iload_n dX2_enlist_69 rfl ?_
      refine E_iload_n dX2_enlist_70 rfl ?_
      refine E_iast dX2_enlist_71 (by decide) (hg_30 _) (vp_in_nI (n := 0) (by decide) (by decide)) ?_
      rw [hs_30]
      refine E_aload_n dX2_enlist_72 rfl ?_
      refine E_getf 5 dX2_enlist_73 fl_X2_20 (by decide) (hg_28 _) rfl ?_
      refine E_iload_n dX2_enlist_76 rfl ?_
      refine E_iload_n dX2_enlist_77 rfl ?_
      refine E_iast (f := z.A 31) dX2_enlist_78 (by decide) (hg_31 _) (vp_in_nI (n := 0) (by decide) (by decide)) ?_
      rw [hs_31]
      refine E_aload_n dX2_enlist_79 rfl ?_
      refine E_dup dX2_enlist_80 rfl ?_
      refine E_getf 6 (v := .int (z.F 28 6)) dX2_enlist_81 fl_X2_35 (by decide) (hg_28 _) rfl ?_
      refine E_iconst (v := 1) dX2_enlist_84 rfl ?_
      refine E_iadd dX2_enlist_85 ?_
      refine E_put 6 dX2_enlist_86 fp_X2_35 (fitsV_int _) (by decide) (hg_28 _) (Nat.le_of_ble_eq_true rfl) ?_
      rw [hs_28_6]
      exact E_vret dX2_enlist_89 rfl ⟨rfl, rfl⟩
    · exact absurd (by decide) c_16
  | succ p ih =>
    intro z hpl hk
    have hcl : (nI (p + 1)).toNatClampNeg = p + 1 := nI_clamp (by omega)
    have hcl2 : (nI p).toNatClampNeg = p := nI_clamp (by omega)
    refine E_iload_n dX2_enlist_15 rfl ?_
    refine E_if_le 65 dX2_enlist_16 (by decide) (fun c_16 => ?_) (fun c_16 => ?_)
    · exact absurd c_16 (nI_nle (by omega) (by omega))
    · refine E_aload_n dX2_enlist_19 rfl ?_
      refine E_iload_n dX2_enlist_20 rfl ?_
      refine E_iload_n dX2_enlist_21 rfl ?_
      refine E_iload_n dX2_enlist_22 rfl ?_
      refine E_iconst (v := 1) dX2_enlist_23 rfl ?_
      refine E_isub dX2_enlist_24 ?_
      rw [nI_pred]
      refine E_V3 dX2_enlist_25 cv_X2_83 (by decide) (hg_28 _) rfl rfl (Nat.le_of_ble_eq_true rfl) (Nat.le_of_ble_eq_true rfl) (c_isBetter hk w u p (by omega)) (by decide) (Nat.zero_le _) (Nat.zero_le _) ?_
      refine E_if_eq 65 dX2_enlist_28 (by decide) (fun c_28 => ?_) (fun c_28 => ?_)
      · refine E_aload_n dX2_enlist_65 rfl ?_
        refine E_getf 4 dX2_enlist_66 fl_X2_17 (by decide) (hg_28 _) rfl ?_
        refine E_iload_n dX2_enlist_69 rfl ?_
        refine E_iload_n dX2_enlist_70 rfl ?_
        refine E_iast dX2_enlist_71 (by decide) (hg_30 _) (vp_in_nI (by omega) (by omega)) ?_
        rw [hs_30]
        rw [hcl]
        refine E_aload_n dX2_enlist_72 rfl ?_
        refine E_getf 5 dX2_enlist_73 fl_X2_20 (by decide) (hg_28 _) rfl ?_
        refine E_iload_n dX2_enlist_76 rfl ?_
        refine E_iload_n dX2_enlist_77 rfl ?_
        refine E_iast (f := z.A 31) dX2_enlist_78 (by decide) (hg_31 _) (vp_in_nI (by omega) (by omega)) ?_
        rw [hs_31]
        rw [hcl]
        refine E_aload_n dX2_enlist_79 rfl ?_
        refine E_dup dX2_enlist_80 rfl ?_
        refine E_getf 6 (v := .int (z.F 28 6)) dX2_enlist_81 fl_X2_35 (by decide) (hg_28 _) rfl ?_
        refine E_iconst (v := 1) dX2_enlist_84 rfl ?_
        refine E_iadd dX2_enlist_85 ?_
        refine E_put 6 dX2_enlist_86 fp_X2_35 (fitsV_int _) (by decide) (hg_28 _) (Nat.le_of_ble_eq_true rfl) ?_
        rw [hs_28_6]
        exact E_vret dX2_enlist_89 rfl ⟨rfl, by rw [esh, if_neg (b2i_e0 c_28)]; rfl⟩
      · refine E_aload_n dX2_enlist_31 rfl ?_
        refine E_getf 4 dX2_enlist_32 fl_X2_17 (by decide) (hg_28 _) rfl ?_
        refine E_iload_n dX2_enlist_35 rfl ?_
        refine E_aload_n dX2_enlist_36 rfl ?_
        refine E_getf 4 dX2_enlist_37 fl_X2_17 (by decide) (hg_28 _) rfl ?_
        refine E_iload_n dX2_enlist_40 rfl ?_
        refine E_iconst (v := 1) dX2_enlist_41 rfl ?_
        refine E_isub dX2_enlist_42 ?_
        rw [nI_pred]
        refine E_iald dX2_enlist_43 (by decide) (hg_30 _) (vp_in_nI (by omega) (by omega)) ?_
        rw [hcl2]
        refine E_iast dX2_enlist_44 (by decide) (hg_30 _) (vp_in_nI (by omega) (by omega)) ?_
        rw [hs_30]
        rw [hcl]
        refine E_aload_n dX2_enlist_45 rfl ?_
        refine E_getf 5 dX2_enlist_46 fl_X2_20 (by decide) (hg_28 _) rfl ?_
        refine E_iload_n dX2_enlist_49 rfl ?_
        refine E_aload_n dX2_enlist_50 rfl ?_
        refine E_getf 5 dX2_enlist_51 fl_X2_20 (by decide) (hg_28 _) rfl ?_
        refine E_iload_n dX2_enlist_54 rfl ?_
        refine E_iconst (v := 1) dX2_enlist_55 rfl ?_
        refine E_isub dX2_enlist_56 ?_
        rw [nI_pred]
        refine E_iald (f := z.A 31) dX2_enlist_57 (by decide) (hg_31 _) (vp_in_nI (by omega) (by omega)) ?_
        rw [hcl2]
        refine E_iast (f := z.A 31) dX2_enlist_58 (by decide) (hg_31 _) (vp_in_nI (by omega) (by omega)) ?_
        rw [hs_31]
        rw [hcl]
        refine E_iincL (-1) dX2_enlist_59 rfl rfl (by decide) rfl ?_
        rw [pk_m1]
        refine E_goto 15 dX2_enlist_62 (by decide) ?_
        refine E.pick [1, 2, 3, 0] rfl ?_
        rw [esh, if_pos (b2i_ne c_28)]
        exact ih (eSh z p) (by omega) (bk_eSh hk p)
def enl (z : Sg) (w u : Int32) (f : Nat) : Sg := if f < 40 then esh w u f z else z
theorem c_enlist {z : Sg} {n f : Nat} (h : bkOK z n) (hf : z.F 28 6 = nI f) (hf2 : f ≤ 40) (w u : Int32) : EM mFinder_enlist 3 0 0 [.ref 28, .int w, .int u] (hp z) (Det none (hp (enl z w u f))) := by
  refine E_aload_n dX2_enlist_0 rfl ?_
  refine E_getf 6 dX2_enlist_1 fl_X2_35 (by decide) (hg_28 _) rfl ?_
  rw [hf]
  refine E_bipush (v := 40) dX2_enlist_4 rfl ?_
  refine E_icmp_lt 10 dX2_enlist_6 (by decide) (fun c_6 => ?_) (fun c_6 => ?_)
  · refine E_aload_n dX2_enlist_10 rfl ?_
    refine E_getf 6 dX2_enlist_11 fl_X2_35 (by decide) (hg_28 _) rfl ?_
    rw [hf]
    refine E_istore_n dX2_enlist_14 (by decide) rfl ?_
    refine E.pick [1, 2, 3, 0] rfl ?_
    have hlt : f < 40 := (nI_ltI (b := 40) (by omega) (by omega)).mp c_6
    rw [enl, if_pos hlt]
    exact l_esh w u f z hlt h
  · exact E_vret dX2_enlist_9 rfl ⟨rfl, by rw [enl, if_neg (fun h9 => c_6 (nI_lt (b := 40) h9 (by omega)))]⟩
def rwZ (z : Sg) (r : List Int32) : Sg := if wr r ≤ 12 then cpl z r (wr r) 0 else z
theorem c_readWritten {z : Sg} {r : List Int32} (hr : r.length ≤ 200) (hc : ch z.D z.T r) : EM mFinder_readWritten 2 0 0 [.ref 28] (hp z) (Det (some (.int (nI (wr r)))) (hp (rwZ z r))) := by
  have hwl := wr_le r
  by_cases h : wr r ≤ 12
  · rw [rwZ, if_pos h]
    refine E_aload_n dX2_readWritten_0 rfl ?_
    refine E_getf 2 dX2_readWritten_1 fl_X2_31 (by decide) (hg_28 _) rfl ?_
    refine E_V0 dX2_readWritten_4 cv_X2_66 (by decide) (hg_18 _) rfl rfl (Nat.le_of_ble_eq_true rfl) (Nat.le_of_ble_eq_true rfl) (c_written z r hr hc) (by decide) (Nat.zero_le _) (Nat.zero_le _) ?_
    refine E_istore_n dX2_readWritten_7 (by decide) rfl ?_
    refine E_iload_n dX2_readWritten_8 rfl ?_
    refine E_bipush (v := 12) dX2_readWritten_9 rfl ?_
    refine E_icmp_gt 26 dX2_readWritten_11 (by decide) (fun c_11 => ?_) (fun c_11 => ?_)
    · exact absurd c_11 (by rw [i32_lt, nI_toInt (by omega)]; simp only [Int32.reduceToInt]; omega)
    · refine E_aload_n dX2_readWritten_14 rfl ?_
      refine E_getf 2 dX2_readWritten_15 fl_X2_31 (by decide) (hg_28 _) rfl ?_
      refine E_iload_n dX2_readWritten_18 rfl ?_
      refine E_aload_n dX2_readWritten_19 rfl ?_
      refine E_getf 3 dX2_readWritten_20 fl_X2_9 (by decide) (hg_28 _) rfl ?_
      refine E_V2 dX2_readWritten_23 cv_X2_70 (by decide) (hg_18 _) rfl rfl (Nat.le_of_ble_eq_true rfl) (Nat.le_of_ble_eq_true rfl) (c_copyLast z r (wr r) h hwl hc) (by decide) (Nat.zero_le _) (Nat.zero_le _) ?_
      refine E_iload_n dX2_readWritten_26 rfl ?_
      exact E_iret dX2_readWritten_27 rfl rfl ⟨rfl, rfl⟩
  · rw [rwZ, if_neg h]
    refine E_aload_n dX2_readWritten_0 rfl ?_
    refine E_getf 2 dX2_readWritten_1 fl_X2_31 (by decide) (hg_28 _) rfl ?_
    refine E_V0 dX2_readWritten_4 cv_X2_66 (by decide) (hg_18 _) rfl rfl (Nat.le_of_ble_eq_true rfl) (Nat.le_of_ble_eq_true rfl) (c_written z r hr hc) (by decide) (Nat.zero_le _) (Nat.zero_le _) ?_
    refine E_istore_n dX2_readWritten_7 (by decide) rfl ?_
    refine E_iload_n dX2_readWritten_8 rfl ?_
    refine E_bipush (v := 12) dX2_readWritten_9 rfl ?_
    refine E_icmp_gt 26 dX2_readWritten_11 (by decide) (fun c_11 => ?_) (fun c_11 => ?_)
    · refine E_iload_n dX2_readWritten_26 rfl ?_
      exact E_iret dX2_readWritten_27 rfl rfl ⟨rfl, rfl⟩
    · exact absurd (by rw [i32_lt, nI_toInt (by omega)]; simp only [Int32.reduceToInt]; omega) c_11
abbrev fsC (z : Sg) (k W : Nat) : Prop := ¬ z.A 26 W ≤ nI k ∧ k ≤ 12 ∧ ∀ i, i < k → z.A 25 (12 * W + i) = z.A 29 i
def sfl (k : Nat) : Nat → Nat → Nat → Sg → Sg
  | 0, _, _, z => z
  | m + 1, W, f, z => if fsC z k W then sfl k m (W + 1) (f + 1) (enl z (nI W) 0 f) else sfl k m (W + 1) f z
theorem F_esh (w u : Int32) : ∀ (p : Nat) (z : Sg), (esh w u p z).F = (stF z 28 6 (z.F 28 6 + 1)).F
  | 0, z => rfl
  | p + 1, z => by
    rw [esh]
    split
    · rw [F_esh]; rfl
    · rfl
theorem A_esh (w u : Int32) {a : Nat} (h1 : ¬ a = 30) (h2 : ¬ a = 31) : ∀ (p : Nat) (z : Sg), (esh w u p z).A a = z.A a
  | 0, z => by rw [esh, ePut, A_stF, A_stA, if_neg h2, A_stA, if_neg h1]
  | p + 1, z => by
    rw [esh]
    split
    · rw [A_esh w u h1 h2, eSh, A_stA, if_neg h2, A_stA, if_neg h1]
    · rw [ePut, A_stF, A_stA, if_neg h2, A_stA, if_neg h1]
theorem D_esh (w u : Int32) : ∀ (p : Nat) (z : Sg), (esh w u p z).D = z.D
  | 0, z => rfl
  | p + 1, z => by
    rw [esh]
    split
    · rw [D_esh]; rfl
    · rfl
theorem bk_enl {z : Sg} {n f : Nat} (h : bkOK z n) (w u : Int32) : bkOK (enl z w u f) n := by
  unfold enl
  split
  · refine ⟨?_, h.2.1, fun W hW => ?_⟩
    · rw [F_esh, F_stF, if_neg (by decide)]; exact h.1
    · rw [A_esh w u (by decide) (by decide)]; exact h.2.2 W hW
  · exact h
theorem F28_enl {z : Sg} {f : Nat} (hf : z.F 28 6 = nI f) (hlt : f < 40) (w u : Int32) : (enl z w u f).F 28 6 = nI (f + 1) := by
  rw [enl, if_pos hlt, F_esh, F_stF, if_pos rfl, if_pos rfl, hf, nI_1]
theorem l_sfl {n k : Nat} (hk : k ≤ 200) : ∀ (m W f : Nat) (z : Sg), W + m = n → f ≤ W → bkOK z n → z.F 28 6 = nI f → E mFinder_seekForeseen 4 0 0 12 [(0, .ref 28), (1, .int (nI k)), (2, .int (nI W))] [] (hp z) (Det none (hp (sfl k m W f z))) := by
  intro m
  induction m with
  | zero =>
    intro W f z hW hf h hF
    have hn := h.2.1
    refine E_iload_n dX2_seekForeseen_12 rfl ?_
    refine E_aload_n dX2_seekForeseen_13 rfl ?_
    refine E_getf 0 dX2_seekForeseen_14 fl_X2_23 (by decide) (hg_28 _) rfl ?_
    refine E_V0 dX2_seekForeseen_17 cv_X2_43 (by decide) (hg_24 _) rfl rfl (Nat.le_of_ble_eq_true rfl) (Nat.le_of_ble_eq_true rfl) (c_Book_size z) (by decide) (Nat.zero_le _) (Nat.zero_le _) ?_
    rw [h.1]
    refine E_icmp_ge 63 dX2_seekForeseen_20 (by decide) (fun c_20 => ?_) (fun c_20 => ?_)
    · exact E_vret dX2_seekForeseen_63 rfl ⟨rfl, rfl⟩
    · exact absurd (nI_le (by omega) (by omega)) c_20
  | succ m ih =>
    intro W f z hW hf h hF
    have hn := h.2.1
    obtain ⟨L, hL1, hL2, hL⟩ := h.2.2 W (by omega)
    refine E_iload_n dX2_seekForeseen_12 rfl ?_
    refine E_aload_n dX2_seekForeseen_13 rfl ?_
    refine E_getf 0 dX2_seekForeseen_14 fl_X2_23 (by decide) (hg_28 _) rfl ?_
    refine E_V0 dX2_seekForeseen_17 cv_X2_43 (by decide) (hg_24 _) rfl rfl (Nat.le_of_ble_eq_true rfl) (Nat.le_of_ble_eq_true rfl) (c_Book_size z) (by decide) (Nat.zero_le _) (Nat.zero_le _) ?_
    rw [h.1]
    refine E_icmp_ge 63 dX2_seekForeseen_20 (by decide) (fun c_20 => ?_) (fun c_20 => ?_)
    · exact absurd c_20 (nI_ge (by omega) (by omega))
    · refine E_aload_n dX2_seekForeseen_23 rfl ?_
      refine E_getf 0 dX2_seekForeseen_24 fl_X2_23 (by decide) (hg_28 _) rfl ?_
      refine E_iload_n dX2_seekForeseen_27 rfl ?_
      refine E_V1 dX2_seekForeseen_28 cv_X2_46 (by decide) (hg_24 _) rfl rfl (Nat.le_of_ble_eq_true rfl) (Nat.le_of_ble_eq_true rfl) (c_sizeOfN h (show W < n by omega)) (by decide) (Nat.zero_le _) (Nat.zero_le _) ?_
      refine E_iload_n dX2_seekForeseen_31 rfl ?_
      refine E_icmp_le 57 dX2_seekForeseen_32 (by decide) (fun c_32 => ?_) (fun c_32 => ?_)
      · refine E_iincL 1 dX2_seekForeseen_57 rfl rfl (by decide) rfl ?_
        rw [nI_1]
        refine E_goto 12 dX2_seekForeseen_60 (by decide) ?_
        refine E.pick [1, 2, 0] rfl ?_
        rw [sfl]
        first | exact (by rw [if_neg (show ¬ fsC z k W from fun h9 => h9.1 c_32)]; exact ih (W + 1) f z (by omega) (by omega) h hF) | exact (by rw [if_neg (show ¬ fsC z k W from fun h9 => b2i_e0 c_48 ⟨by have h8 := h9.1; rw [hL, nI_leI (by omega) (by omega)] at h8; omega, h9.2⟩)]; exact ih (W + 1) f z (by omega) (by omega) h hF) | exact (by rw [if_pos (show fsC z k W from ⟨c_32, (b2i_ne c_48).2⟩)]; exact ih (W + 1) (f + 1) _ (by omega) (by omega) (bk_enl h _ _) (F28_enl hF (by omega) _ _))
      · refine E_aload_n dX2_seekForeseen_35 rfl ?_
        refine E_getf 0 dX2_seekForeseen_36 fl_X2_23 (by decide) (hg_28 _) rfl ?_
        refine E_iload_n dX2_seekForeseen_39 rfl ?_
        refine E_aload_n dX2_seekForeseen_40 rfl ?_
        refine E_getf 3 dX2_seekForeseen_41 fl_X2_9 (by decide) (hg_28 _) rfl ?_
        refine E_iload_n dX2_seekForeseen_44 rfl ?_
        refine E_V3 dX2_seekForeseen_45 cv_X2_50 (by decide) (hg_24 _) rfl rfl (Nat.le_of_ble_eq_true rfl) (Nat.le_of_ble_eq_true rfl) (c_beginsWith (by decide) (by decide) (hg_29 z) h (show W < n by omega) hL hL2 hk) (by decide) (Nat.zero_le _) (Nat.zero_le _) ?_
        refine E_if_eq 57 dX2_seekForeseen_48 (by decide) (fun c_48 => ?_) (fun c_48 => ?_)
        · refine E_iincL 1 dX2_seekForeseen_57 rfl rfl (by decide) rfl ?_
          rw [nI_1]
          refine E_goto 12 dX2_seekForeseen_60 (by decide) ?_
          refine E.pick [1, 2, 0] rfl ?_
          rw [sfl]
          first | exact (by rw [if_neg (show ¬ fsC z k W from fun h9 => h9.1 c_32)]; exact ih (W + 1) f z (by omega) (by omega) h hF) | exact (by rw [if_neg (show ¬ fsC z k W from fun h9 => b2i_e0 c_48 ⟨by have h8 := h9.1; rw [hL, nI_leI (by omega) (by omega)] at h8; omega, h9.2⟩)]; exact ih (W + 1) f z (by omega) (by omega) h hF) | exact (by rw [if_pos (show fsC z k W from ⟨c_32, (b2i_ne c_48).2⟩)]; exact ih (W + 1) (f + 1) _ (by omega) (by omega) (bk_enl h _ _) (F28_enl hF (by omega) _ _))
        · refine E_aload_n dX2_seekForeseen_51 rfl ?_
          refine E_iload_n dX2_seekForeseen_52 rfl ?_
          refine E_iconst (v := 0) dX2_seekForeseen_53 rfl ?_
          refine E_V2 dX2_seekForeseen_54 cv_X2_54 (by decide) (hg_28 _) rfl rfl (Nat.le_of_ble_eq_true rfl) (Nat.le_of_ble_eq_true rfl) (c_enlist h hF (by omega) _ _) (by decide) (Nat.zero_le _) (Nat.zero_le _) ?_
          refine E_iincL 1 dX2_seekForeseen_57 rfl rfl (by decide) rfl ?_
          rw [nI_1]
          refine E_goto 12 dX2_seekForeseen_60 (by decide) ?_
          refine E.pick [1, 2, 0] rfl ?_
          rw [sfl]
          first | exact (by rw [if_neg (show ¬ fsC z k W from fun h9 => h9.1 c_32)]; exact ih (W + 1) f z (by omega) (by omega) h hF) | exact (by rw [if_neg (show ¬ fsC z k W from fun h9 => b2i_e0 c_48 ⟨by have h8 := h9.1; rw [hL, nI_leI (by omega) (by omega)] at h8; omega, h9.2⟩)]; exact ih (W + 1) f z (by omega) (by omega) h hF) | exact (by rw [if_pos (show fsC z k W from ⟨c_32, (b2i_ne c_48).2⟩)]; exact ih (W + 1) (f + 1) _ (by omega) (by omega) (bk_enl h _ _) (F28_enl hF (by omega) _ _))
def zsf (z : Sg) (r : List Int32) (n : Nat) : Sg := sfl (wr r) n 0 0 (rwZ (stF z 28 6 0) r)
theorem bk_rwZ {z : Sg} {n : Nat} (h : bkOK z n) (r : List Int32) : bkOK (rwZ z r) n := by
  unfold rwZ
  split
  · exact h
  · exact h
theorem F_rwZ (z : Sg) (r : List Int32) : (rwZ z r).F = z.F := by
  unfold rwZ
  split <;> rfl
theorem c_seekForeseen {z : Sg} {n : Nat} {r : List Int32} (h : bkOK z n) (hr : r.length ≤ 200) (hc : ch z.D z.T r) : EM mFinder_seekForeseen 4 0 0 [.ref 28] (hp z) (Det none (hp (zsf z r n))) := by
  have hwl := wr_le r
  have hb : bkOK (rwZ (stF z 28 6 0) r) n := bk_rwZ (z := stF z 28 6 0) h r
  refine E_aload_n dX2_seekForeseen_0 rfl ?_
  refine E_iconst (v := 0) dX2_seekForeseen_1 rfl ?_
  refine E_put 6 dX2_seekForeseen_2 fp_X2_35 (fitsV_int _) (by decide) (hg_28 _) (Nat.le_of_ble_eq_true rfl) ?_
  rw [hs_28_6]
  refine E_aload_n dX2_seekForeseen_5 rfl ?_
  refine E_V0 dX2_seekForeseen_6 cv_X2_39 (by decide) (hg_28 _) rfl rfl (Nat.le_of_ble_eq_true rfl) (Nat.le_of_ble_eq_true rfl) (c_readWritten (z := stF z 28 6 0) hr hc) (by decide) (Nat.zero_le _) (Nat.zero_le _) ?_
  refine E_istore_n dX2_seekForeseen_9 (by decide) rfl ?_
  refine E_iconst (v := 0) dX2_seekForeseen_10 rfl ?_
  refine E_istore_n dX2_seekForeseen_11 (by decide) rfl ?_
  refine E.pick [2, 1, 0] rfl ?_
  exact l_sfl (by omega) n 0 0 (rwZ (stF z 28 6 0) r) (by omega) (by omega) hb (by rw [F_rwZ]; rfl)
def nbD (z : Sg) (x v : Int32) : Prop := isL x ∧ isL v ∧ ((z.A 16 (x - 97).toNatClampNeg >>> ((v - 97) &&& 31)) &&& 1) = 1
abbrev nbP (z : Sg) (x v : Int32) : Prop := isL x ∧ isL v ∧ ((z.A 16 (x - 97).toNatClampNeg >>> ((v - 97) &&& 31)) &&& 1) = 1
/-- how many places are unlike, or none: the desk's way -/
def slp (z : Sg) (W : Nat) : Nat → Nat → Nat → Int32
  | 0, _, u => nI u
  | m + 1, i, u => if z.A 25 (12 * W + i) = z.A 29 i then slp z W m (i + 1) u else if 2 < u + 1 ∨ ¬ nbP z (z.A 25 (12 * W + i)) (z.A 29 i) then -1 else slp z W m (i + 1) (u + 1)
theorem l_slp {z : Sg} {n W k : Nat} (h : bkOK z n) (hW : W < n) (hL : z.A 26 W = nI k) (hk : k ≤ 12) : ∀ (m i u : Nat), i + m = k → u ≤ i → E mFinder_slipsOf 3 0 0 5 [(0, .ref 28), (1, .int (nI W)), (2, .int (nI k)), (3, .int (nI u)), (4, .int (nI i))] [] (hp z) (Det (some (.int (slp z W m i u))) (hp z)) := by
  intro m
  induction m with
  | zero =>
    intro i u hi hu
    refine E_iload dX2_slipsOf_5 rfl ?_
    refine E_iload_n dX2_slipsOf_7 rfl ?_
    refine E_icmp_ge 77 dX2_slipsOf_8 (by decide) (fun c_8 => ?_) (fun c_8 => ?_)
    · refine E_iload_n dX2_slipsOf_77 rfl ?_
      exact E_iret dX2_slipsOf_78 rfl rfl ⟨rfl, rfl⟩
    · exact absurd (nI_le (by omega) (by omega)) c_8
  | succ m ih =>
    intro i u hi hu
    have hcl : (nI i).toNatClampNeg = i := nI_clamp (by omega)
    refine E_iload dX2_slipsOf_5 rfl ?_
    refine E_iload_n dX2_slipsOf_7 rfl ?_
    refine E_icmp_ge 77 dX2_slipsOf_8 (by decide) (fun c_8 => ?_) (fun c_8 => ?_)
    · exact absurd c_8 (nI_ge (by omega) (by omega))
    · refine E_iload dX2_slipsOf_11 rfl ?_
      refine E_bipush (v := 12) dX2_slipsOf_13 rfl ?_
      refine E_icmp_ge 77 dX2_slipsOf_15 (by decide) (fun c_15 => ?_) (fun c_15 => ?_)
      · exact absurd c_15 (nI_ge (b := 12) (by omega) (by omega))
      · refine E_aload_n dX2_slipsOf_18 rfl ?_
        refine E_getf 0 dX2_slipsOf_19 fl_X2_23 (by decide) (hg_28 _) rfl ?_
        refine E_iload_n dX2_slipsOf_22 rfl ?_
        refine E_iload dX2_slipsOf_23 rfl ?_
        refine E_V2 dX2_slipsOf_25 cv_X2_74 (by decide) (hg_24 _) rfl rfl (Nat.le_of_ble_eq_true rfl) (Nat.le_of_ble_eq_true rfl) (c_signOf (i := i) h hW hL hk (by omega)) (by decide) (Nat.zero_le _) (Nat.zero_le _) ?_
        refine E_istore dX2_slipsOf_28 (by decide) rfl ?_
        refine E_iload dX2_slipsOf_30 rfl ?_
        refine E_aload_n dX2_slipsOf_32 rfl ?_
        refine E_getf 3 dX2_slipsOf_33 fl_X2_9 (by decide) (hg_28 _) rfl ?_
        refine E_iload dX2_slipsOf_36 rfl ?_
        refine E_iald dX2_slipsOf_38 (by decide) (hg_29 _) (vp_in_nI (by omega) (by omega)) ?_
        rw [hcl]
        refine E_icmp_eq 71 dX2_slipsOf_39 (by decide) (fun c_39 => ?_) (fun c_39 => ?_)
        · refine E_iincL 1 dX2_slipsOf_71 rfl rfl (by decide) rfl ?_
          rw [nI_1]
          refine E_goto 5 dX2_slipsOf_74 (by decide) ?_
          refine E.pick [2, 3, 4, 5, 0] rfl ?_
          rw [slp]
          first | exact (by rw [if_pos c_39]; exact ih (i + 1) u (by omega) (by omega)) | exact (by rw [if_neg c_39, if_neg (show ¬ (2 < u + 1 ∨ ¬ nbP z (z.A 25 (12 * W + i)) (z.A 29 i)) from fun h9 => h9.elim (fun h8 => c_47 (nI_lt (a := 2) h8 (by omega))) (fun h8 => h8 (b2i_ne c_66)))]; exact ih (i + 1) (u + 1) (by omega) (by omega))
        · refine E_iincL 1 dX2_slipsOf_42 rfl rfl (by decide) rfl ?_
          rw [nI_1]
          refine E_iload_n dX2_slipsOf_45 rfl ?_
          refine E_iconst (v := 2) dX2_slipsOf_46 rfl ?_
          refine E_icmp_gt 69 dX2_slipsOf_47 (by decide) (fun c_47 => ?_) (fun c_47 => ?_)
          · refine E_iconst (v := (-1)) dX2_slipsOf_69 rfl ?_
            exact E_iret dX2_slipsOf_70 rfl rfl ⟨by first | (rw [slp, if_neg c_39, if_pos (show 2 < u + 1 ∨ ¬ nbP z (z.A 25 (12 * W + i)) (z.A 29 i) from Or.inl ((nI_ltI (a := 2) (by omega) (by omega)).mp c_47))]) | (rw [slp, if_neg c_39, if_pos (show 2 < u + 1 ∨ ¬ nbP z (z.A 25 (12 * W + i)) (z.A 29 i) from Or.inr (b2i_e0 c_66))]), rfl⟩
          · refine E_aload_n dX2_slipsOf_50 rfl ?_
            refine E_getf 1 dX2_slipsOf_51 fl_X2_27 (by decide) (hg_28 _) rfl ?_
            refine E_iload dX2_slipsOf_54 rfl ?_
            refine E_aload_n dX2_slipsOf_56 rfl ?_
            refine E_getf 3 dX2_slipsOf_57 fl_X2_9 (by decide) (hg_28 _) rfl ?_
            refine E_iload dX2_slipsOf_60 rfl ?_
            refine E_iald dX2_slipsOf_62 (by decide) (hg_29 _) (vp_in_nI (by omega) (by omega)) ?_
            rw [hcl]
            refine E_V2 dX2_slipsOf_63 cv_X2_77 (by decide) (hg_6 _) rfl rfl (Nat.le_of_ble_eq_true rfl) (Nat.le_of_ble_eq_true rfl) (c_areNeighbours z _ _) (by decide) (Nat.zero_le _) (Nat.zero_le _) ?_
            refine E_if_ne 71 dX2_slipsOf_66 (by decide) (fun c_66 => ?_) (fun c_66 => ?_)
            · refine E_iincL 1 dX2_slipsOf_71 rfl rfl (by decide) rfl ?_
              rw [nI_1]
              refine E_goto 5 dX2_slipsOf_74 (by decide) ?_
              refine E.pick [3, 4, 5, 1, 0] rfl ?_
              rw [slp]
              first | exact (by rw [if_pos c_39]; exact ih (i + 1) u (by omega) (by omega)) | exact (by rw [if_neg c_39, if_neg (show ¬ (2 < u + 1 ∨ ¬ nbP z (z.A 25 (12 * W + i)) (z.A 29 i)) from fun h9 => h9.elim (fun h8 => c_47 (nI_lt (a := 2) h8 (by omega))) (fun h8 => h8 (b2i_ne c_66)))]; exact ih (i + 1) (u + 1) (by omega) (by omega))
            · refine E_iconst (v := (-1)) dX2_slipsOf_69 rfl ?_
              exact E_iret dX2_slipsOf_70 rfl rfl ⟨by first | (rw [slp, if_neg c_39, if_pos (show 2 < u + 1 ∨ ¬ nbP z (z.A 25 (12 * W + i)) (z.A 29 i) from Or.inl ((nI_ltI (a := 2) (by omega) (by omega)).mp c_47))]) | (rw [slp, if_neg c_39, if_pos (show 2 < u + 1 ∨ ¬ nbP z (z.A 25 (12 * W + i)) (z.A 29 i) from Or.inr (b2i_e0 c_66))]), rfl⟩
theorem c_slipsOf {z : Sg} {n W k : Nat} (h : bkOK z n) (hW : W < n) (hL : z.A 26 W = nI k) (hk : k ≤ 12) : EM mFinder_slipsOf 3 0 0 [.ref 28, .int (nI W), .int (nI k)] (hp z) (Det (some (.int (slp z W k 0 0))) (hp z)) := by
  refine E_iconst (v := 0) dX2_slipsOf_0 rfl ?_
  refine E_istore_n dX2_slipsOf_1 (by decide) rfl ?_
  refine E_iconst (v := 0) dX2_slipsOf_2 rfl ?_
  refine E_istore dX2_slipsOf_3 (by decide) rfl ?_
  refine E.pick [2, 3, 4, 1, 0] rfl ?_
  exact l_slp h hW hL hk k 0 0 (by omega) (by omega)
abbrev ofC (z : Sg) (k W : Nat) : Prop := z.A 26 W = nI k ∧ ¬ slp z W k 0 0 = -1
def sof (k : Nat) : Nat → Nat → Nat → Sg → Sg
  | 0, _, _, z => z
  | m + 1, W, f, z => if ofC z k W then sof k m (W + 1) (f + 1) (enl z (nI W) (slp z W k 0 0) f) else sof k m (W + 1) f z
theorem l_sof {n k : Nat} (hk : k ≤ 200) : ∀ (m W f : Nat) (z : Sg), W + m = n → f ≤ W → bkOK z n → z.F 28 6 = nI f → E mFinder_seekOffered 5 0 0 33 [(0, .ref 28), (1, .int (nI k)), (2, .int (nI W))] [] (hp z) (Det none (hp (sof k m W f z))) := by
  intro m
  induction m with
  | zero =>
    intro W f z hW hf h hF
    have hn := h.2.1
    refine E_iload_n dX2_seekOffered_33 rfl ?_
    refine E_aload_n dX2_seekOffered_34 rfl ?_
    refine E_getf 0 dX2_seekOffered_35 fl_X2_23 (by decide) (hg_28 _) rfl ?_
    refine E_V0 dX2_seekOffered_38 cv_X2_43 (by decide) (hg_24 _) rfl rfl (Nat.le_of_ble_eq_true rfl) (Nat.le_of_ble_eq_true rfl) (c_Book_size z) (by decide) (Nat.zero_le _) (Nat.zero_le _) ?_
    rw [h.1]
    refine E_icmp_ge 84 dX2_seekOffered_41 (by decide) (fun c_41 => ?_) (fun c_41 => ?_)
    · exact E_vret dX2_seekOffered_84 rfl ⟨rfl, rfl⟩
    · exact absurd (nI_le (by omega) (by omega)) c_41
  | succ m ih =>
    intro W f z hW hf h hF
    have hn := h.2.1
    obtain ⟨L, hL1, hL2, hL⟩ := h.2.2 W (by omega)
    refine E_iload_n dX2_seekOffered_33 rfl ?_
    refine E_aload_n dX2_seekOffered_34 rfl ?_
    refine E_getf 0 dX2_seekOffered_35 fl_X2_23 (by decide) (hg_28 _) rfl ?_
    refine E_V0 dX2_seekOffered_38 cv_X2_43 (by decide) (hg_24 _) rfl rfl (Nat.le_of_ble_eq_true rfl) (Nat.le_of_ble_eq_true rfl) (c_Book_size z) (by decide) (Nat.zero_le _) (Nat.zero_le _) ?_
    rw [h.1]
    refine E_icmp_ge 84 dX2_seekOffered_41 (by decide) (fun c_41 => ?_) (fun c_41 => ?_)
    · exact absurd c_41 (nI_ge (by omega) (by omega))
    · refine E_aload_n dX2_seekOffered_44 rfl ?_
      refine E_getf 0 dX2_seekOffered_45 fl_X2_23 (by decide) (hg_28 _) rfl ?_
      refine E_iload_n dX2_seekOffered_48 rfl ?_
      refine E_V1 dX2_seekOffered_49 cv_X2_46 (by decide) (hg_24 _) rfl rfl (Nat.le_of_ble_eq_true rfl) (Nat.le_of_ble_eq_true rfl) (c_sizeOfN h (show W < n by omega)) (by decide) (Nat.zero_le _) (Nat.zero_le _) ?_
      refine E_iload_n dX2_seekOffered_52 rfl ?_
      refine E_icmp_ne 65 dX2_seekOffered_53 (by decide) (fun c_53 => ?_) (fun c_53 => ?_)
      · refine E_iconst (v := (-1)) dX2_seekOffered_65 rfl ?_
        refine E_istore_n dX2_seekOffered_66 (by decide) rfl ?_
        refine E_iload_n dX2_seekOffered_67 rfl ?_
        refine E_iconst (v := (-1)) dX2_seekOffered_68 rfl ?_
        refine E_icmp_eq 78 dX2_seekOffered_69 (by decide) (fun c_69 => ?_) (fun c_69 => ?_)
        · refine E_iincL 1 dX2_seekOffered_78 rfl rfl (by decide) rfl ?_
          rw [nI_1]
          refine E_goto 33 dX2_seekOffered_81 (by decide) ?_
          refine E.pick [2, 3, 0] rfl ?_
          rw [sof]
          first | exact (by rw [if_neg (show ¬ ofC z k W from fun h9 => c_53 h9.1)]; exact ih (W + 1) f z (by omega) (by omega) h hF) | exact (by rw [if_neg (show ¬ ofC z k W from fun h9 => h9.2 c_69)]; exact ih (W + 1) f z (by omega) (by omega) h hF) | exact (by rw [if_pos (show ofC z k W from ⟨c_53, c_69⟩)]; exact ih (W + 1) (f + 1) _ (by omega) (by omega) (bk_enl h _ _) (F28_enl hF (by omega) _ _)) | exact absurd rfl c_69
        · refine E_aload_n dX2_seekOffered_72 rfl ?_
          refine E_iload_n dX2_seekOffered_73 rfl ?_
          refine E_iload_n dX2_seekOffered_74 rfl ?_
          refine E_V2 dX2_seekOffered_75 cv_X2_54 (by decide) (hg_28 _) rfl rfl (Nat.le_of_ble_eq_true rfl) (Nat.le_of_ble_eq_true rfl) (c_enlist h hF (by omega) _ _) (by decide) (Nat.zero_le _) (Nat.zero_le _) ?_
          refine E_iincL 1 dX2_seekOffered_78 rfl rfl (by decide) rfl ?_
          rw [nI_1]
          refine E_goto 33 dX2_seekOffered_81 (by decide) ?_
          refine E.pick [2, 3, 0] rfl ?_
          rw [sof]
          first | exact (by rw [if_neg (show ¬ ofC z k W from fun h9 => c_53 h9.1)]; exact ih (W + 1) f z (by omega) (by omega) h hF) | exact (by rw [if_neg (show ¬ ofC z k W from fun h9 => h9.2 c_69)]; exact ih (W + 1) f z (by omega) (by omega) h hF) | exact (by rw [if_pos (show ofC z k W from ⟨c_53, c_69⟩)]; exact ih (W + 1) (f + 1) _ (by omega) (by omega) (bk_enl h _ _) (F28_enl hF (by omega) _ _)) | exact absurd rfl c_69
      · refine E_aload_n dX2_seekOffered_56 rfl ?_
        refine E_iload_n dX2_seekOffered_57 rfl ?_
        refine E_iload_n dX2_seekOffered_58 rfl ?_
        refine E_V2 dX2_seekOffered_59 cv_X2_62 (by decide) (hg_28 _) rfl rfl (Nat.le_of_ble_eq_true rfl) (Nat.le_of_ble_eq_true rfl) (c_slipsOf h (show W < n by omega) c_53 (by have h8 := c_53; rw [hL, nI_eq (by omega) (by omega)] at h8; omega)) (by decide) (Nat.zero_le _) (Nat.zero_le _) ?_
        refine E_goto 66 dX2_seekOffered_62 (by decide) ?_
        refine E_istore_n dX2_seekOffered_66 (by decide) rfl ?_
        refine E_iload_n dX2_seekOffered_67 rfl ?_
        refine E_iconst (v := (-1)) dX2_seekOffered_68 rfl ?_
        refine E_icmp_eq 78 dX2_seekOffered_69 (by decide) (fun c_69 => ?_) (fun c_69 => ?_)
        · refine E_iincL 1 dX2_seekOffered_78 rfl rfl (by decide) rfl ?_
          rw [nI_1]
          refine E_goto 33 dX2_seekOffered_81 (by decide) ?_
          refine E.pick [2, 3, 0] rfl ?_
          rw [sof]
          first | exact (by rw [if_neg (show ¬ ofC z k W from fun h9 => c_53 h9.1)]; exact ih (W + 1) f z (by omega) (by omega) h hF) | exact (by rw [if_neg (show ¬ ofC z k W from fun h9 => h9.2 c_69)]; exact ih (W + 1) f z (by omega) (by omega) h hF) | exact (by rw [if_pos (show ofC z k W from ⟨c_53, c_69⟩)]; exact ih (W + 1) (f + 1) _ (by omega) (by omega) (bk_enl h _ _) (F28_enl hF (by omega) _ _)) | exact absurd rfl c_69
        · refine E_aload_n dX2_seekOffered_72 rfl ?_
          refine E_iload_n dX2_seekOffered_73 rfl ?_
          refine E_iload_n dX2_seekOffered_74 rfl ?_
          refine E_V2 dX2_seekOffered_75 cv_X2_54 (by decide) (hg_28 _) rfl rfl (Nat.le_of_ble_eq_true rfl) (Nat.le_of_ble_eq_true rfl) (c_enlist h hF (by omega) _ _) (by decide) (Nat.zero_le _) (Nat.zero_le _) ?_
          refine E_iincL 1 dX2_seekOffered_78 rfl rfl (by decide) rfl ?_
          rw [nI_1]
          refine E_goto 33 dX2_seekOffered_81 (by decide) ?_
          refine E.pick [2, 3, 0] rfl ?_
          rw [sof]
          first | exact (by rw [if_neg (show ¬ ofC z k W from fun h9 => c_53 h9.1)]; exact ih (W + 1) f z (by omega) (by omega) h hF) | exact (by rw [if_neg (show ¬ ofC z k W from fun h9 => h9.2 c_69)]; exact ih (W + 1) f z (by omega) (by omega) h hF) | exact (by rw [if_pos (show ofC z k W from ⟨c_53, c_69⟩)]; exact ih (W + 1) (f + 1) _ (by omega) (by omega) (bk_enl h _ _) (F28_enl hF (by omega) _ _)) | exact absurd rfl c_69
def zso1 (z : Sg) (r : List Int32) : Sg := rwZ (stF z 28 6 0) r
def zso (z : Sg) (r : List Int32) (n : Nat) : Sg := if wr r = 0 ∨ ¬ fnd (zso1 z r) 29 12 (wr r) n 0 = -1 then zso1 z r else sof (wr r) n 0 0 (zso1 z r)
theorem c_seekOffered {z : Sg} {n : Nat} {r : List Int32} (h : bkOK z n) (hr : r.length ≤ 200) (hc : ch z.D z.T r) : EM mFinder_seekOffered 5 0 0 [.ref 28] (hp z) (Det none (hp (zso z r n))) := by
  have hwl := wr_le r
  have hb : bkOK (zso1 z r) n := bk_rwZ (z := stF z 28 6 0) h r
  have hF : (zso1 z r).F 28 6 = nI 0 := by unfold zso1; rw [F_rwZ]; rfl
  refine E_aload_n dX2_seekOffered_0 rfl ?_
  refine E_iconst (v := 0) dX2_seekOffered_1 rfl ?_
  refine E_put 6 dX2_seekOffered_2 fp_X2_35 (fitsV_int _) (by decide) (hg_28 _) (Nat.le_of_ble_eq_true rfl) ?_
  rw [hs_28_6]
  refine E_aload_n dX2_seekOffered_5 rfl ?_
  refine E_V0 dX2_seekOffered_6 cv_X2_39 (by decide) (hg_28 _) rfl rfl (Nat.le_of_ble_eq_true rfl) (Nat.le_of_ble_eq_true rfl) (c_readWritten (z := stF z 28 6 0) hr hc) (by decide) (Nat.zero_le _) (Nat.zero_le _) ?_
  refine (show E mFinder_seekOffered 5 0 0 9 [(0, .ref 28)] [.int (nI (wr r))] (hp (zso1 z r)) _ from ?_)
  refine E_istore_n dX2_seekOffered_9 (by decide) rfl ?_
  refine E_iload_n dX2_seekOffered_10 rfl ?_
  refine E_if_eq 30 dX2_seekOffered_11 (by decide) (fun c_11 => ?_) (fun c_11 => ?_)
  · exact E_vret dX2_seekOffered_30 rfl ⟨rfl, by first | rw [zso, if_pos (Or.inl (by rcases Nat.eq_zero_or_pos (wr r) with h9 | h9; exact h9; exact absurd c_11 (nI_ne0 h9 (by omega))))] | rw [zso, if_pos (Or.inr c_27)]⟩
  · refine E_aload_n dX2_seekOffered_14 rfl ?_
    refine E_getf 0 dX2_seekOffered_15 fl_X2_23 (by decide) (hg_28 _) rfl ?_
    refine E_aload_n dX2_seekOffered_18 rfl ?_
    refine E_getf 3 dX2_seekOffered_19 fl_X2_9 (by decide) (hg_28 _) rfl ?_
    refine E_iload_n dX2_seekOffered_22 rfl ?_
    refine E_V2 dX2_seekOffered_23 cv_X2_58 (by decide) (hg_24 _) rfl rfl (Nat.le_of_ble_eq_true rfl) (Nat.le_of_ble_eq_true rfl) (c_find (by decide) (by decide) (hg_29 (zso1 z r)) hb (by omega)) (by decide) (Nat.zero_le _) (Nat.zero_le _) ?_
    refine E_iconst (v := (-1)) dX2_seekOffered_26 rfl ?_
    refine E_icmp_eq 31 dX2_seekOffered_27 (by decide) (fun c_27 => ?_) (fun c_27 => ?_)
    · refine E_iconst (v := 0) dX2_seekOffered_31 rfl ?_
      refine E_istore_n dX2_seekOffered_32 (by decide) rfl ?_
      refine E.pick [2, 1, 0] rfl ?_
      rw [zso, if_neg (show ¬ (wr r = 0 ∨ ¬ fnd (zso1 z r) 29 12 (wr r) n 0 = -1) from fun h9 => h9.elim (fun h8 => c_11 (by rw [h8]; rfl)) (fun h8 => h8 c_27))]
      exact l_sof (by omega) n 0 0 (zso1 z r) (by omega) (by omega) hb hF
    · exact E_vret dX2_seekOffered_30 rfl ⟨rfl, by first | rw [zso, if_pos (Or.inl (by rcases Nat.eq_zero_or_pos (wr r) with h9 | h9; exact h9; exact absurd c_11 (nI_ne0 h9 (by omega))))] | rw [zso, if_pos (Or.inr c_27)]⟩
