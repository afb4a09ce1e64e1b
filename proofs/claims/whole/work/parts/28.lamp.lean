/-! THE LAMP: pass, change, take, tell; the model's ticks -/
def fin (z : Sg) (nx : Int32) : Sg := stF (stF (stF z 17 5 (z.F 17 4)) 17 4 nx) 17 6 (z.F 17 2)
abbrev rdOK (z : Sg) : Prop := ¬ z.F 17 3 = 0 ∧ ¬ z.F 17 7 + 1 < z.A 5 1
def chg (z : Sg) : Sg := if tg z 14 (z.F 17 4) (-1) = -1 then (if rdOK z then zct (stF z 17 7 (z.F 17 7 + 1)) 0 else fin (stF z 17 7 (z.F 17 7 + 1)) (tg z 12 (z.F 17 3) (-1))) else fin z (tg z 14 (z.F 17 4) (-1))
theorem c_Lamp_change (z : Sg) (hs : (z.F 6 10).toInt ≤ 60) : EM mLamp_change 3 0 0 [.ref 17] (hp z) (Det none (hp (chg z))) := by
  refine E_aload_n dX3_change_0 rfl ?_
  refine E_getf 0 dX3_change_1 fl_X3_9 (by decide) (hg_17 _) rfl ?_
  refine E_aload_n dX3_change_4 rfl ?_
  refine E_getf 4 dX3_change_5 fl_X3_33 (by decide) (hg_17 _) rfl ?_
  refine E_V1 dX3_change_8 cv_X3_67 (by decide) (hg_6 _) rfl rfl (Nat.le_of_ble_eq_true rfl) (Nat.le_of_ble_eq_true rfl) (c_behind z hs _) (by decide) (Nat.zero_le _) (Nat.zero_le _) ?_
  refine E_istore_n dX3_change_11 (by decide) rfl ?_
  refine E_iload_n dX3_change_12 rfl ?_
  refine E_iconst (v := (-1)) dX3_change_13 rfl ?_
  refine E_icmp_ne 67 dX3_change_14 (by decide) (fun c_14 => ?_) (fun c_14 => ?_)
  · refine E_aload_n dX3_change_67 rfl ?_
    refine E_aload_n dX3_change_68 rfl ?_
    refine E_getf 4 dX3_change_69 fl_X3_33 (by decide) (hg_17 _) rfl ?_
    refine E_put 5 dX3_change_72 fp_X3_36 (fitsV_int _) (by decide) (hg_17 _) (Nat.le_of_ble_eq_true rfl) ?_
    rw [hs_17_5]
    refine E_aload_n dX3_change_75 rfl ?_
    refine E_iload_n dX3_change_76 rfl ?_
    refine E_put 4 dX3_change_77 fp_X3_33 (fitsV_int _) (by decide) (hg_17 _) (Nat.le_of_ble_eq_true rfl) ?_
    rw [hs_17_4]
    refine E_aload_n dX3_change_80 rfl ?_
    refine E_aload_n dX3_change_81 rfl ?_
    refine E_getf 2 (v := .int (z.F 17 2)) dX3_change_82 fl_X3_39 (by decide) (hg_17 _) rfl ?_
    refine E_put 6 dX3_change_85 fp_X3_42 (fitsV_int _) (by decide) (hg_17 _) (Nat.le_of_ble_eq_true rfl) ?_
    rw [hs_17_6]
    exact E_vret dX3_change_88 rfl ⟨rfl, by first | rw [chg, if_neg c_14]; rfl | rw [chg, if_pos c_14, if_neg (show ¬ rdOK z from fun h => h.1 c_31)]; rfl | rw [chg, if_pos c_14, if_neg (show ¬ rdOK z from fun h => h.2 c_46)]; rfl⟩
  · refine E_aload_n dX3_change_17 rfl ?_
    refine E_dup dX3_change_18 rfl ?_
    refine E_getf 7 dX3_change_19 fl_X3_45 (by decide) (hg_17 _) rfl ?_
    refine E_iconst (v := 1) dX3_change_22 rfl ?_
    refine E_iadd dX3_change_23 ?_
    refine E_put 7 dX3_change_24 fp_X3_45 (fitsV_int _) (by decide) (hg_17 _) (Nat.le_of_ble_eq_true rfl) ?_
    rw [hs_17_7]
    refine E_aload_n dX3_change_27 rfl ?_
    refine E_getf 3 (v := .int (z.F 17 3)) dX3_change_28 fl_X3_23 (by decide) (hg_17 _) rfl ?_
    refine E_if_eq 55 dX3_change_31 (by decide) (fun c_31 => ?_) (fun c_31 => ?_)
    · refine E_aload_n dX3_change_55 rfl ?_
      refine E_getf 0 dX3_change_56 fl_X3_9 (by decide) (hg_17 _) rfl ?_
      refine E_aload_n dX3_change_59 rfl ?_
      refine E_getf 3 (v := .int (z.F 17 3)) dX3_change_60 fl_X3_23 (by decide) (hg_17 _) rfl ?_
      refine E_V1 (r := some (.int (tg z 12 (z.F 17 3) (-1)))) dX3_change_63 cv_X3_27 (by decide) (hg_6 _) rfl rfl (Nat.le_of_ble_eq_true rfl) (Nat.le_of_ble_eq_true rfl) (c_firstIn (stF z 17 7 (z.F 17 7 + 1)) hs _) (by decide) (Nat.zero_le _) (Nat.zero_le _) ?_
      refine E_istore_n dX3_change_66 (by decide) rfl ?_
      refine E_aload_n dX3_change_67 rfl ?_
      refine E_aload_n dX3_change_68 rfl ?_
      refine E_getf 4 (v := .int (z.F 17 4)) dX3_change_69 fl_X3_33 (by decide) (hg_17 _) rfl ?_
      refine E_put 5 dX3_change_72 fp_X3_36 (fitsV_int _) (by decide) (hg_17 _) (Nat.le_of_ble_eq_true rfl) ?_
      rw [hs_17_5]
      refine E_aload_n dX3_change_75 rfl ?_
      refine E_iload_n dX3_change_76 rfl ?_
      refine E_put 4 dX3_change_77 fp_X3_33 (fitsV_int _) (by decide) (hg_17 _) (Nat.le_of_ble_eq_true rfl) ?_
      rw [hs_17_4]
      refine E_aload_n dX3_change_80 rfl ?_
      refine E_aload_n dX3_change_81 rfl ?_
      refine E_getf 2 (v := .int (z.F 17 2)) dX3_change_82 fl_X3_39 (by decide) (hg_17 _) rfl ?_
      refine E_put 6 dX3_change_85 fp_X3_42 (fitsV_int _) (by decide) (hg_17 _) (Nat.le_of_ble_eq_true rfl) ?_
      rw [hs_17_6]
      exact E_vret dX3_change_88 rfl ⟨rfl, by first | rw [chg, if_neg c_14]; rfl | rw [chg, if_pos c_14, if_neg (show ¬ rdOK z from fun h => h.1 c_31)]; rfl | rw [chg, if_pos c_14, if_neg (show ¬ rdOK z from fun h => h.2 c_46)]; rfl⟩
    · refine E_aload_n dX3_change_34 rfl ?_
      refine E_getf 7 (v := .int (z.F 17 7 + 1)) dX3_change_35 fl_X3_45 (by decide) (hg_17 _) rfl ?_
      refine E_aload_n dX3_change_38 rfl ?_
      refine E_getf 1 dX3_change_39 fl_X3_15 (by decide) (hg_17 _) rfl ?_
      refine E_iconst (v := 1) dX3_change_42 rfl ?_
      refine E_V1 (r := some (.int (z.A 5 1))) dX3_change_43 cv_X3_53 (by decide) (hg_4 _) rfl rfl (Nat.le_of_ble_eq_true rfl) (Nat.le_of_ble_eq_true rfl) (c_get _ 1 (by decide)) (by decide) (Nat.zero_le _) (Nat.zero_le _) ?_
      refine E_icmp_lt 55 dX3_change_46 (by decide) (fun c_46 => ?_) (fun c_46 => ?_)
      · refine E_aload_n dX3_change_55 rfl ?_
        refine E_getf 0 dX3_change_56 fl_X3_9 (by decide) (hg_17 _) rfl ?_
        refine E_aload_n dX3_change_59 rfl ?_
        refine E_getf 3 (v := .int (z.F 17 3)) dX3_change_60 fl_X3_23 (by decide) (hg_17 _) rfl ?_
        refine E_V1 (r := some (.int (tg z 12 (z.F 17 3) (-1)))) dX3_change_63 cv_X3_27 (by decide) (hg_6 _) rfl rfl (Nat.le_of_ble_eq_true rfl) (Nat.le_of_ble_eq_true rfl) (c_firstIn (stF z 17 7 (z.F 17 7 + 1)) hs _) (by decide) (Nat.zero_le _) (Nat.zero_le _) ?_
        refine E_istore_n dX3_change_66 (by decide) rfl ?_
        refine E_aload_n dX3_change_67 rfl ?_
        refine E_aload_n dX3_change_68 rfl ?_
        refine E_getf 4 (v := .int (z.F 17 4)) dX3_change_69 fl_X3_33 (by decide) (hg_17 _) rfl ?_
        refine E_put 5 dX3_change_72 fp_X3_36 (fitsV_int _) (by decide) (hg_17 _) (Nat.le_of_ble_eq_true rfl) ?_
        rw [hs_17_5]
        refine E_aload_n dX3_change_75 rfl ?_
        refine E_iload_n dX3_change_76 rfl ?_
        refine E_put 4 dX3_change_77 fp_X3_33 (fitsV_int _) (by decide) (hg_17 _) (Nat.le_of_ble_eq_true rfl) ?_
        rw [hs_17_4]
        refine E_aload_n dX3_change_80 rfl ?_
        refine E_aload_n dX3_change_81 rfl ?_
        refine E_getf 2 (v := .int (z.F 17 2)) dX3_change_82 fl_X3_39 (by decide) (hg_17 _) rfl ?_
        refine E_put 6 dX3_change_85 fp_X3_42 (fitsV_int _) (by decide) (hg_17 _) (Nat.le_of_ble_eq_true rfl) ?_
        rw [hs_17_6]
        exact E_vret dX3_change_88 rfl ⟨rfl, by first | rw [chg, if_neg c_14]; rfl | rw [chg, if_pos c_14, if_neg (show ¬ rdOK z from fun h => h.1 c_31)]; rfl | rw [chg, if_pos c_14, if_neg (show ¬ rdOK z from fun h => h.2 c_46)]; rfl⟩
      · refine E_aload_n dX3_change_49 rfl ?_
        refine E_iconst (v := 0) dX3_change_50 rfl ?_
        refine E_V1 dX3_change_51 cv_X3_19 (by decide) (hg_17 _) rfl rfl (Nat.le_of_ble_eq_true rfl) (Nat.le_of_ble_eq_true rfl) (c_comeTo (stF z 17 7 (z.F 17 7 + 1)) hs 0) (by decide) (Nat.zero_le _) (Nat.zero_le _) ?_
        exact E_vret dX3_change_54 rfl ⟨rfl, by rw [chg, if_pos c_14, if_pos (show rdOK z from ⟨c_31, c_46⟩)]⟩
def due (z : Sg) : Int32 := if z.F 17 2 + 1 < z.F 17 6 + z.A 5 0 then z.F 17 6 + z.A 5 0 else z.F 17 2 + 1
abbrev idle (goal : Int32) (z : Sg) : Prop := z.F 17 4 = -1 ∨ goal < due z
def psb (goal : Int32) (z : Sg) : Sg := if idle goal z then stF z 17 2 goal else chg (stF z 17 2 (due z))
def ps : Nat → Int32 → Sg → Sg
  | 0, _, z => z
  | m + 1, goal, z => if goal ≤ z.F 17 2 then z else ps m goal (psb goal z)
theorem F6_chg (z : Sg) : (chg z).F 6 10 = z.F 6 10 := by
  unfold chg
  split
  · split <;> rfl
  · rfl
theorem F6_psb (g : Int32) (z : Sg) : (psb g z).F 6 10 = z.F 6 10 := by
  unfold psb
  split
  · rfl
  · rw [F6_chg]; rfl
theorem l_ps {N : Nat} (hN : N ≤ 1000) (goal : Int32) : ∀ (m i : Nat) (z : Sg), i + m = N → (z.F 6 10).toInt ≤ 60 → E mLamp_pass 4 0 0 34 [(0, .ref 17), (1, .int (nI N)), (2, .int goal), (3, .int (nI i))] [] (hp z) (Det (some (.int ((ps m goal z).F 17 4))) (hp (ps m goal z))) := by
  intro m
  induction m with
  | zero =>
    intro i z hi hs
    refine E_iload_n dX3_pass_34 rfl ?_
    refine E_iload_n dX3_pass_35 rfl ?_
    refine E_icmp_ge 109 dX3_pass_36 (by decide) (fun c_36 => ?_) (fun c_36 => ?_)
    · refine E_aload_n dX3_pass_109 rfl ?_
      refine E_getf 4 dX3_pass_110 fl_X3_33 (by decide) (hg_17 _) rfl ?_
      exact E_iret dX3_pass_113 rfl rfl ⟨rfl, rfl⟩
    · exact absurd (nI_le (by omega) (by omega)) c_36
  | succ m ih =>
    intro i z hi hs
    refine E_iload_n dX3_pass_34 rfl ?_
    refine E_iload_n dX3_pass_35 rfl ?_
    refine E_icmp_ge 109 dX3_pass_36 (by decide) (fun c_36 => ?_) (fun c_36 => ?_)
    · exact absurd c_36 (nI_ge (by omega) (by omega))
    · refine E_aload_n dX3_pass_39 rfl ?_
      refine E_getf 2 dX3_pass_40 fl_X3_39 (by decide) (hg_17 _) rfl ?_
      refine E_iload_n dX3_pass_43 rfl ?_
      refine E_icmp_ge 109 dX3_pass_44 (by decide) (fun c_44 => ?_) (fun c_44 => ?_)
      · refine E_aload_n dX3_pass_109 rfl ?_
        refine E_getf 4 dX3_pass_110 fl_X3_33 (by decide) (hg_17 _) rfl ?_
        exact E_iret dX3_pass_113 rfl rfl ⟨by rw [ps, if_pos c_44], by rw [ps, if_pos c_44]⟩
      · refine E_aload_n dX3_pass_47 rfl ?_
        refine E_getf 2 dX3_pass_48 fl_X3_39 (by decide) (hg_17 _) rfl ?_
        refine E_iconst (v := 1) dX3_pass_51 rfl ?_
        refine E_iadd dX3_pass_52 ?_
        refine E_aload_n dX3_pass_53 rfl ?_
        refine E_getf 6 dX3_pass_54 fl_X3_42 (by decide) (hg_17 _) rfl ?_
        refine E_aload_n dX3_pass_57 rfl ?_
        refine E_getf 1 dX3_pass_58 fl_X3_15 (by decide) (hg_17 _) rfl ?_
        refine E_iconst (v := 0) dX3_pass_61 rfl ?_
        refine E_V1 (r := some (.int (z.A 5 0))) dX3_pass_62 cv_X3_53 (by decide) (hg_4 _) rfl rfl (Nat.le_of_ble_eq_true rfl) (Nat.le_of_ble_eq_true rfl) (c_get _ 0 (by decide)) (by decide) (Nat.zero_le _) (Nat.zero_le _) ?_
        refine E_iadd dX3_pass_65 ?_
        refine E_mmax dX3_pass_66 mt_X3_58 (by decide) (Nat.le_of_ble_eq_true rfl) ?_
        refine (show E mLamp_pass 4 0 0 69 [(0, .ref 17), (1, .int (nI N)), (2, .int goal), (3, .int (nI i))] [.int (due z)] (hp z) _ from ?_)
        refine E_istore dX3_pass_69 (by decide) rfl ?_
        refine E_aload_n dX3_pass_71 rfl ?_
        refine E_getf 4 dX3_pass_72 fl_X3_33 (by decide) (hg_17 _) rfl ?_
        refine E_iconst (v := (-1)) dX3_pass_75 rfl ?_
        refine E_icmp_eq 85 dX3_pass_76 (by decide) (fun c_76 => ?_) (fun c_76 => ?_)
        · refine E_aload_n dX3_pass_85 rfl ?_
          refine E_iload_n dX3_pass_86 rfl ?_
          refine E_put 2 dX3_pass_87 fp_X3_39 (fitsV_int _) (by decide) (hg_17 _) (Nat.le_of_ble_eq_true rfl) ?_
          rw [hs_17_2]
          refine E_goto 103 dX3_pass_90 (by decide) ?_
          refine E_iincL 1 dX3_pass_103 rfl rfl (by decide) rfl ?_
          rw [nI_1]
          refine E_goto 34 dX3_pass_106 (by decide) ?_
          refine E.pick [2, 3, 4, 0] rfl ?_
          rw [ps, if_neg c_44]
          first | exact (by rw [psb, if_pos (show idle goal z from Or.inl c_76)]; exact ih (i + 1) _ (by omega) hs) | exact (by rw [psb, if_pos (show idle goal z from Or.inr (by rw [i32_lt]; rw [i32_le] at c_82; omega))]; exact ih (i + 1) _ (by omega) hs) | exact (by rw [psb, if_neg (show ¬ idle goal z from fun h => h.elim c_76 (fun h => by rw [i32_lt] at h; rw [i32_le] at c_82; omega))]; exact ih (i + 1) _ (by omega) (by rw [F6_chg]; exact hs))
        · refine E_iload dX3_pass_79 rfl ?_
          refine E_iload_n dX3_pass_81 rfl ?_
          refine E_icmp_le 93 dX3_pass_82 (by decide) (fun c_82 => ?_) (fun c_82 => ?_)
          · refine E_aload_n dX3_pass_93 rfl ?_
            refine E_iload dX3_pass_94 rfl ?_
            refine E_put 2 dX3_pass_96 fp_X3_39 (fitsV_int _) (by decide) (hg_17 _) (Nat.le_of_ble_eq_true rfl) ?_
            rw [hs_17_2]
            refine E_aload_n dX3_pass_99 rfl ?_
            refine E_V0 dX3_pass_100 cv_X3_64 (by decide) (hg_17 _) rfl rfl (Nat.le_of_ble_eq_true rfl) (Nat.le_of_ble_eq_true rfl) (c_Lamp_change (stF z 17 2 (due z)) hs) (by decide) (Nat.zero_le _) (Nat.zero_le _) ?_
            refine E_iincL 1 dX3_pass_103 rfl rfl (by decide) rfl ?_
            rw [nI_1]
            refine E_goto 34 dX3_pass_106 (by decide) ?_
            refine E.pick [2, 3, 4, 0] rfl ?_
            rw [ps, if_neg c_44]
            first | exact (by rw [psb, if_pos (show idle goal z from Or.inl c_76)]; exact ih (i + 1) _ (by omega) hs) | exact (by rw [psb, if_pos (show idle goal z from Or.inr (by rw [i32_lt]; rw [i32_le] at c_82; omega))]; exact ih (i + 1) _ (by omega) hs) | exact (by rw [psb, if_neg (show ¬ idle goal z from fun h => h.elim c_76 (fun h => by rw [i32_lt] at h; rw [i32_le] at c_82; omega))]; exact ih (i + 1) _ (by omega) (by rw [F6_chg]; exact hs))
          · refine E_aload_n dX3_pass_85 rfl ?_
            refine E_iload_n dX3_pass_86 rfl ?_
            refine E_put 2 dX3_pass_87 fp_X3_39 (fitsV_int _) (by decide) (hg_17 _) (Nat.le_of_ble_eq_true rfl) ?_
            rw [hs_17_2]
            refine E_goto 103 dX3_pass_90 (by decide) ?_
            refine E_iincL 1 dX3_pass_103 rfl rfl (by decide) rfl ?_
            rw [nI_1]
            refine E_goto 34 dX3_pass_106 (by decide) ?_
            refine E.pick [2, 3, 4, 0] rfl ?_
            rw [ps, if_neg c_44]
            first | exact (by rw [psb, if_pos (show idle goal z from Or.inl c_76)]; exact ih (i + 1) _ (by omega) hs) | exact (by rw [psb, if_pos (show idle goal z from Or.inr (by rw [i32_lt]; rw [i32_le] at c_82; omega))]; exact ih (i + 1) _ (by omega) hs) | exact (by rw [psb, if_neg (show ¬ idle goal z from fun h => h.elim c_76 (fun h => by rw [i32_lt] at h; rw [i32_le] at c_82; omega))]; exact ih (i + 1) _ (by omega) (by rw [F6_chg]; exact hs))
abbrev psOK (n : Int32) (z : Sg) : Prop := inB n 0 1000 ∧ z.F 17 2 ≤ 1000000 - n
theorem inB_nat {x b : Int32} {n : Nat} (hb : b.toInt = n) (h : inB x 0 b) : ∃ j : Nat, j ≤ n ∧ x = nI j := by
  obtain ⟨h1, h2⟩ := h
  simp only [Int32.reduceToInt] at h1
  have hn : n < 2 ^ 31 := by have := Int32.toInt_lt b; omega
  refine ⟨x.toInt.toNat, by omega, ?_⟩
  apply Int32.toInt_inj.mp
  rw [nI_toInt (by omega)]
  omega
theorem c_pass (z : Sg) (hs : (z.F 6 10).toInt ≤ 60) (n : Int32) : EM mLamp_pass 4 0 0 [.ref 17, .int n] (hp z) (Det (some (.int (if psOK n z then (ps n.toNatClampNeg (z.F 17 2 + n) z).F 17 4 else (-2)))) (hp (if psOK n z then ps n.toNatClampNeg (z.F 17 2 + n) z else z))) := by
  refine E_iload_n dX3_pass_0 rfl ?_
  refine E_iconst (v := 0) dX3_pass_1 rfl ?_
  refine E_sipush (v := 1000) dX3_pass_2 rfl ?_
  refine E_S3 dX3_pass_5 cs_X3_48 (Nat.le_of_ble_eq_true rfl) (Nat.le_of_ble_eq_true rfl) (c_within _ n 0 1000) (by decide) (Nat.zero_le _) (Nat.zero_le _) ?_
  refine E_if_eq 22 dX3_pass_8 (by decide) (fun c_8 => ?_) (fun c_8 => ?_)
  · refine E_bipush (v := (-2)) dX3_pass_22 rfl ?_
    exact E_iret dX3_pass_24 rfl rfl (by first | exact ⟨by rw [if_neg (fun h : psOK n z => b2i_e0 c_8 h.1)], by rw [if_neg (fun h : psOK n z => b2i_e0 c_8 h.1)]⟩ | exact ⟨by rw [if_neg (fun h : psOK n z => c_19 h.2)], by rw [if_neg (fun h : psOK n z => c_19 h.2)]⟩)
  · refine E_aload_n dX3_pass_11 rfl ?_
    refine E_getf 2 dX3_pass_12 fl_X3_39 (by decide) (hg_17 _) rfl ?_
    refine E_ldc dX3_pass_15 k_52 ?_
    refine E_iload_n dX3_pass_17 rfl ?_
    refine E_isub dX3_pass_18 ?_
    refine E_icmp_le 25 dX3_pass_19 (by decide) (fun c_19 => ?_) (fun c_19 => ?_)
    · refine E_aload_n dX3_pass_25 rfl ?_
      refine E_getf 2 dX3_pass_26 fl_X3_39 (by decide) (hg_17 _) rfl ?_
      refine E_iload_n dX3_pass_29 rfl ?_
      refine E_iadd dX3_pass_30 ?_
      refine E_istore_n dX3_pass_31 (by decide) rfl ?_
      refine E_iconst (v := 0) dX3_pass_32 rfl ?_
      refine E_istore_n dX3_pass_33 (by decide) rfl ?_
      refine E.pick [2, 3, 1, 0] rfl ?_
      rw [if_pos (show psOK n z from ⟨b2i_ne c_8, c_19⟩), if_pos (show psOK n z from ⟨b2i_ne c_8, c_19⟩)]
      obtain ⟨N, hN, rfl⟩ := inB_nat (n := 1000) rfl (b2i_ne c_8)
      rw [nI_clamp (by omega)]
      exact l_ps hN _ N 0 z (by omega) hs
    · refine E_bipush (v := (-2)) dX3_pass_22 rfl ?_
      exact E_iret dX3_pass_24 rfl rfl (by first | exact ⟨by rw [if_neg (fun h : psOK n z => b2i_e0 c_8 h.1)], by rw [if_neg (fun h : psOK n z => b2i_e0 c_8 h.1)]⟩ | exact ⟨by rw [if_neg (fun h : psOK n z => c_19 h.2)], by rw [if_neg (fun h : psOK n z => c_19 h.2)]⟩)
theorem c_tick (z : Sg) (hs : (z.F 6 10).toInt ≤ 60) (n : Int32) : EM mDesk_tick 5 0 0 [.ref 3, .int n] (hp z) (Det (some (.int (if psOK n z then (ps n.toNatClampNeg (z.F 17 2 + n) z).F 17 4 else (-2)))) (hp (if psOK n z then ps n.toNatClampNeg (z.F 17 2 + n) z else z))) := by
  refine E_aload_n dX10_tick_0 rfl ?_
  refine E_getf 2 dX10_tick_1 fl_X10_28 (by decide) (hg_3 _) rfl ?_
  refine E_iload_n dX10_tick_4 rfl ?_
  refine E_V1 dX10_tick_5 cv_X10_112 (by decide) (hg_17 _) rfl rfl (Nat.le_of_ble_eq_true rfl) (Nat.le_of_ble_eq_true rfl) (c_pass z hs n) (by decide) (Nat.zero_le _) (Nat.zero_le _) ?_
  exact E_iret dX10_tick_8 rfl rfl ⟨rfl, rfl⟩
abbrev tkN (z : Sg) : Prop := z.F 17 4 = -1 ∨ (0 < z.F 17 8 ∧ z.F 17 2 - z.F 17 9 < z.A 5 3)
abbrev tkL (z : Sg) : Prop := ¬ z.F 17 5 = -1 ∧ z.F 17 2 - z.F 17 6 < z.A 5 2
def ztk (z : Sg) : Sg := stF (stF z 17 8 (z.F 17 8 + 1)) 17 9 (z.F 17 2)
theorem c_take (z : Sg) : EM mLamp_take 2 0 0 [.ref 17] (hp z) (Det (some (.int (if tkN z then (-1) else if tkL z then z.F 17 5 else z.F 17 4))) (hp (if tkN z then z else ztk z))) := by
  have hn : ∀ P : Prop, tkN z → Det (some (.int (if tkN z then (-1) else if tkL z then z.F 17 5 else z.F 17 4))) (hp (if tkN z then z else ztk z)) (some (.int (-1))) (hp z) := fun _ h => ⟨by rw [if_pos h], by rw [if_pos h]⟩
  refine E_aload_n dX3_take_0 rfl ?_
  refine E_getf 4 dX3_take_1 fl_X3_33 (by decide) (hg_17 _) rfl ?_
  refine E_iconst (v := (-1)) dX3_take_4 rfl ?_
  refine E_icmp_eq 35 dX3_take_5 (by decide) (fun c_5 => ?_) (fun c_5 => ?_)
  · refine E_iconst (v := (-1)) dX3_take_35 rfl ?_
    exact E_iret dX3_take_36 rfl rfl (by first | exact hn True (Or.inl c_5) | exact hn True (Or.inr ⟨by rw [i32_lt]; rw [i32_le] at c_12; omega, by rw [i32_lt]; rw [i32_le] at c_32; omega⟩))
  · refine E_aload_n dX3_take_8 rfl ?_
    refine E_getf 8 dX3_take_9 fl_X3_70 (by decide) (hg_17 _) rfl ?_
    refine E_if_le 37 dX3_take_12 (by decide) (fun c_12 => ?_) (fun c_12 => ?_)
    · have hno : ¬ tkN z := fun h => h.elim c_5 (fun h => by first | (have h9 := h.1; rw [i32_lt] at h9; rw [i32_le] at c_12; omega) | (have h9 := h.2; rw [i32_lt] at h9; rw [i32_le] at c_32; omega))
      refine E_aload_n dX3_take_37 rfl ?_
      refine E_dup dX3_take_38 rfl ?_
      refine E_getf 8 dX3_take_39 fl_X3_70 (by decide) (hg_17 _) rfl ?_
      refine E_iconst (v := 1) dX3_take_42 rfl ?_
      refine E_iadd dX3_take_43 ?_
      refine E_put 8 dX3_take_44 fp_X3_70 (fitsV_int _) (by decide) (hg_17 _) (Nat.le_of_ble_eq_true rfl) ?_
      rw [hs_17_8]
      refine E_aload_n dX3_take_47 rfl ?_
      refine E_aload_n dX3_take_48 rfl ?_
      refine E_getf 2 (v := .int (z.F 17 2)) dX3_take_49 fl_X3_39 (by decide) (hg_17 _) rfl ?_
      refine E_put 9 dX3_take_52 fp_X3_73 (fitsV_int _) (by decide) (hg_17 _) (Nat.le_of_ble_eq_true rfl) ?_
      rw [hs_17_9]
      refine E_aload_n dX3_take_55 rfl ?_
      refine E_getf 5 (v := .int (z.F 17 5)) dX3_take_56 fl_X3_36 (by decide) (hg_17 _) rfl ?_
      refine E_iconst (v := (-1)) dX3_take_59 rfl ?_
      refine E_icmp_eq 87 dX3_take_60 (by decide) (fun c_60 => ?_) (fun c_60 => ?_)
      · refine E_iconst (v := 0) dX3_take_87 rfl ?_
        refine E_istore_n dX3_take_88 (by decide) rfl ?_
        refine E_iload_n dX3_take_89 rfl ?_
        refine E_if_eq 100 dX3_take_90 (by decide) (fun c_90 => ?_) (fun c_90 => ?_)
        · refine E_aload_n dX3_take_100 rfl ?_
          refine E_getf 4 (v := .int (z.F 17 4)) dX3_take_101 fl_X3_33 (by decide) (hg_17 _) rfl ?_
          exact E_iret dX3_take_104 rfl rfl (by first | exact ⟨by rw [if_neg hno, if_neg (show ¬ tkL z from fun h => h.1 c_60)], by rw [if_neg hno]; rfl⟩ | exact ⟨by rw [if_neg hno, if_neg (show ¬ tkL z from fun h => by have h9 := h.2; rw [i32_lt] at h9; rw [i32_le] at c_80; omega)], by rw [if_neg hno]; rfl⟩ | exact ⟨by rw [if_neg hno, if_pos (show tkL z from ⟨c_60, by rw [i32_lt]; rw [i32_le] at c_80; omega⟩)], by rw [if_neg hno]; rfl⟩)
        · exact absurd c_90 (by decide)
      · refine E_aload_n dX3_take_63 rfl ?_
        refine E_getf 2 (v := .int (z.F 17 2)) dX3_take_64 fl_X3_39 (by decide) (hg_17 _) rfl ?_
        refine E_aload_n dX3_take_67 rfl ?_
        refine E_getf 6 (v := .int (z.F 17 6)) dX3_take_68 fl_X3_42 (by decide) (hg_17 _) rfl ?_
        refine E_isub dX3_take_71 ?_
        refine E_aload_n dX3_take_72 rfl ?_
        refine E_getf 1 dX3_take_73 fl_X3_15 (by decide) (hg_17 _) rfl ?_
        refine E_iconst (v := 2) dX3_take_76 rfl ?_
        refine E_V1 (r := some (.int (z.A 5 2))) dX3_take_77 cv_X3_53 (by decide) (hg_4 _) rfl rfl (Nat.le_of_ble_eq_true rfl) (Nat.le_of_ble_eq_true rfl) (c_get _ 2 (by decide)) (by decide) (Nat.zero_le _) (Nat.zero_le _) ?_
        refine E_icmp_ge 87 dX3_take_80 (by decide) (fun c_80 => ?_) (fun c_80 => ?_)
        · refine E_iconst (v := 0) dX3_take_87 rfl ?_
          refine E_istore_n dX3_take_88 (by decide) rfl ?_
          refine E_iload_n dX3_take_89 rfl ?_
          refine E_if_eq 100 dX3_take_90 (by decide) (fun c_90 => ?_) (fun c_90 => ?_)
          · refine E_aload_n dX3_take_100 rfl ?_
            refine E_getf 4 (v := .int (z.F 17 4)) dX3_take_101 fl_X3_33 (by decide) (hg_17 _) rfl ?_
            exact E_iret dX3_take_104 rfl rfl (by first | exact ⟨by rw [if_neg hno, if_neg (show ¬ tkL z from fun h => h.1 c_60)], by rw [if_neg hno]; rfl⟩ | exact ⟨by rw [if_neg hno, if_neg (show ¬ tkL z from fun h => by have h9 := h.2; rw [i32_lt] at h9; rw [i32_le] at c_80; omega)], by rw [if_neg hno]; rfl⟩ | exact ⟨by rw [if_neg hno, if_pos (show tkL z from ⟨c_60, by rw [i32_lt]; rw [i32_le] at c_80; omega⟩)], by rw [if_neg hno]; rfl⟩)
          · exact absurd c_90 (by decide)
        · refine E_iconst (v := 1) dX3_take_83 rfl ?_
          refine E_goto 88 dX3_take_84 (by decide) ?_
          refine E_istore_n dX3_take_88 (by decide) rfl ?_
          refine E_iload_n dX3_take_89 rfl ?_
          refine E_if_eq 100 dX3_take_90 (by decide) (fun c_90 => ?_) (fun c_90 => ?_)
          · exact absurd c_90 (by decide)
          · refine E_aload_n dX3_take_93 rfl ?_
            refine E_getf 5 (v := .int (z.F 17 5)) dX3_take_94 fl_X3_36 (by decide) (hg_17 _) rfl ?_
            refine E_goto 104 dX3_take_97 (by decide) ?_
            exact E_iret dX3_take_104 rfl rfl (by first | exact ⟨by rw [if_neg hno, if_neg (show ¬ tkL z from fun h => h.1 c_60)], by rw [if_neg hno]; rfl⟩ | exact ⟨by rw [if_neg hno, if_neg (show ¬ tkL z from fun h => by have h9 := h.2; rw [i32_lt] at h9; rw [i32_le] at c_80; omega)], by rw [if_neg hno]; rfl⟩ | exact ⟨by rw [if_neg hno, if_pos (show tkL z from ⟨c_60, by rw [i32_lt]; rw [i32_le] at c_80; omega⟩)], by rw [if_neg hno]; rfl⟩)
    · refine E_aload_n dX3_take_15 rfl ?_
      refine E_getf 2 dX3_take_16 fl_X3_39 (by decide) (hg_17 _) rfl ?_
      refine E_aload_n dX3_take_19 rfl ?_
      refine E_getf 9 dX3_take_20 fl_X3_73 (by decide) (hg_17 _) rfl ?_
      refine E_isub dX3_take_23 ?_
      refine E_aload_n dX3_take_24 rfl ?_
      refine E_getf 1 dX3_take_25 fl_X3_15 (by decide) (hg_17 _) rfl ?_
      refine E_iconst (v := 3) dX3_take_28 rfl ?_
      refine E_V1 dX3_take_29 cv_X3_53 (by decide) (hg_4 _) rfl rfl (Nat.le_of_ble_eq_true rfl) (Nat.le_of_ble_eq_true rfl) (c_get _ 3 (by decide)) (by decide) (Nat.zero_le _) (Nat.zero_le _) ?_
      refine E_icmp_ge 37 dX3_take_32 (by decide) (fun c_32 => ?_) (fun c_32 => ?_)
      · have hno : ¬ tkN z := fun h => h.elim c_5 (fun h => by first | (have h9 := h.1; rw [i32_lt] at h9; rw [i32_le] at c_12; omega) | (have h9 := h.2; rw [i32_lt] at h9; rw [i32_le] at c_32; omega))
        refine E_aload_n dX3_take_37 rfl ?_
        refine E_dup dX3_take_38 rfl ?_
        refine E_getf 8 dX3_take_39 fl_X3_70 (by decide) (hg_17 _) rfl ?_
        refine E_iconst (v := 1) dX3_take_42 rfl ?_
        refine E_iadd dX3_take_43 ?_
        refine E_put 8 dX3_take_44 fp_X3_70 (fitsV_int _) (by decide) (hg_17 _) (Nat.le_of_ble_eq_true rfl) ?_
        rw [hs_17_8]
        refine E_aload_n dX3_take_47 rfl ?_
        refine E_aload_n dX3_take_48 rfl ?_
        refine E_getf 2 (v := .int (z.F 17 2)) dX3_take_49 fl_X3_39 (by decide) (hg_17 _) rfl ?_
        refine E_put 9 dX3_take_52 fp_X3_73 (fitsV_int _) (by decide) (hg_17 _) (Nat.le_of_ble_eq_true rfl) ?_
        rw [hs_17_9]
        refine E_aload_n dX3_take_55 rfl ?_
        refine E_getf 5 (v := .int (z.F 17 5)) dX3_take_56 fl_X3_36 (by decide) (hg_17 _) rfl ?_
        refine E_iconst (v := (-1)) dX3_take_59 rfl ?_
        refine E_icmp_eq 87 dX3_take_60 (by decide) (fun c_60 => ?_) (fun c_60 => ?_)
        · refine E_iconst (v := 0) dX3_take_87 rfl ?_
          refine E_istore_n dX3_take_88 (by decide) rfl ?_
          refine E_iload_n dX3_take_89 rfl ?_
          refine E_if_eq 100 dX3_take_90 (by decide) (fun c_90 => ?_) (fun c_90 => ?_)
          · refine E_aload_n dX3_take_100 rfl ?_
            refine E_getf 4 (v := .int (z.F 17 4)) dX3_take_101 fl_X3_33 (by decide) (hg_17 _) rfl ?_
            exact E_iret dX3_take_104 rfl rfl (by first | exact ⟨by rw [if_neg hno, if_neg (show ¬ tkL z from fun h => h.1 c_60)], by rw [if_neg hno]; rfl⟩ | exact ⟨by rw [if_neg hno, if_neg (show ¬ tkL z from fun h => by have h9 := h.2; rw [i32_lt] at h9; rw [i32_le] at c_80; omega)], by rw [if_neg hno]; rfl⟩ | exact ⟨by rw [if_neg hno, if_pos (show tkL z from ⟨c_60, by rw [i32_lt]; rw [i32_le] at c_80; omega⟩)], by rw [if_neg hno]; rfl⟩)
          · exact absurd c_90 (by decide)
        · refine E_aload_n dX3_take_63 rfl ?_
          refine E_getf 2 (v := .int (z.F 17 2)) dX3_take_64 fl_X3_39 (by decide) (hg_17 _) rfl ?_
          refine E_aload_n dX3_take_67 rfl ?_
          refine E_getf 6 (v := .int (z.F 17 6)) dX3_take_68 fl_X3_42 (by decide) (hg_17 _) rfl ?_
          refine E_isub dX3_take_71 ?_
          refine E_aload_n dX3_take_72 rfl ?_
          refine E_getf 1 dX3_take_73 fl_X3_15 (by decide) (hg_17 _) rfl ?_
          refine E_iconst (v := 2) dX3_take_76 rfl ?_
          refine E_V1 (r := some (.int (z.A 5 2))) dX3_take_77 cv_X3_53 (by decide) (hg_4 _) rfl rfl (Nat.le_of_ble_eq_true rfl) (Nat.le_of_ble_eq_true rfl) (c_get _ 2 (by decide)) (by decide) (Nat.zero_le _) (Nat.zero_le _) ?_
          refine E_icmp_ge 87 dX3_take_80 (by decide) (fun c_80 => ?_) (fun c_80 => ?_)
          · refine E_iconst (v := 0) dX3_take_87 rfl ?_
            refine E_istore_n dX3_take_88 (by decide) rfl ?_
            refine E_iload_n dX3_take_89 rfl ?_
            refine E_if_eq 100 dX3_take_90 (by decide) (fun c_90 => ?_) (fun c_90 => ?_)
            · refine E_aload_n dX3_take_100 rfl ?_
              refine E_getf 4 (v := .int (z.F 17 4)) dX3_take_101 fl_X3_33 (by decide) (hg_17 _) rfl ?_
              exact E_iret dX3_take_104 rfl rfl (by first | exact ⟨by rw [if_neg hno, if_neg (show ¬ tkL z from fun h => h.1 c_60)], by rw [if_neg hno]; rfl⟩ | exact ⟨by rw [if_neg hno, if_neg (show ¬ tkL z from fun h => by have h9 := h.2; rw [i32_lt] at h9; rw [i32_le] at c_80; omega)], by rw [if_neg hno]; rfl⟩ | exact ⟨by rw [if_neg hno, if_pos (show tkL z from ⟨c_60, by rw [i32_lt]; rw [i32_le] at c_80; omega⟩)], by rw [if_neg hno]; rfl⟩)
            · exact absurd c_90 (by decide)
          · refine E_iconst (v := 1) dX3_take_83 rfl ?_
            refine E_goto 88 dX3_take_84 (by decide) ?_
            refine E_istore_n dX3_take_88 (by decide) rfl ?_
            refine E_iload_n dX3_take_89 rfl ?_
            refine E_if_eq 100 dX3_take_90 (by decide) (fun c_90 => ?_) (fun c_90 => ?_)
            · exact absurd c_90 (by decide)
            · refine E_aload_n dX3_take_93 rfl ?_
              refine E_getf 5 (v := .int (z.F 17 5)) dX3_take_94 fl_X3_36 (by decide) (hg_17 _) rfl ?_
              refine E_goto 104 dX3_take_97 (by decide) ?_
              exact E_iret dX3_take_104 rfl rfl (by first | exact ⟨by rw [if_neg hno, if_neg (show ¬ tkL z from fun h => h.1 c_60)], by rw [if_neg hno]; rfl⟩ | exact ⟨by rw [if_neg hno, if_neg (show ¬ tkL z from fun h => by have h9 := h.2; rw [i32_lt] at h9; rw [i32_le] at c_80; omega)], by rw [if_neg hno]; rfl⟩ | exact ⟨by rw [if_neg hno, if_pos (show tkL z from ⟨c_60, by rw [i32_lt]; rw [i32_le] at c_80; omega⟩)], by rw [if_neg hno]; rfl⟩)
      · refine E_iconst (v := (-1)) dX3_take_35 rfl ?_
        exact E_iret dX3_take_36 rfl rfl (by first | exact hn True (Or.inl c_5) | exact hn True (Or.inr ⟨by rw [i32_lt]; rw [i32_le] at c_12; omega, by rw [i32_lt]; rw [i32_le] at c_32; omega⟩))
def tellF (z : Sg) (w : Int32) : Int32 := if w.toInt = 0 then z.F 17 2 else if w.toInt = 1 then z.F 17 3 else if w.toInt = 2 then z.F 17 4 else if w.toInt = 3 then z.F 17 5 else if w.toInt = 4 then z.F 17 6 else if w.toInt = 5 then z.F 17 7 else if w.toInt = 6 then z.F 17 8 else (-1)
theorem c_tell (z : Sg) (w : Int32) : EM mLamp_tell 0 0 0 [.ref 17, .int w] (hp z) (Det (some (.int (tellF z w))) (hp z)) := by
  refine E_iload_n dX3_tell_0 rfl ?_
  by_cases c_1_0 : (w).toInt = 0
  · refine E_tableIn 44 dX3_tell_1 (by omega) (by omega) (by rw [c_1_0]; rfl) (by decide) ?_
    refine E_aload_n dX3_tell_44 rfl ?_
    refine E_getf 2 dX3_tell_45 fl_X3_39 (by decide) (hg_17 _) rfl ?_
    exact E_iret dX3_tell_48 rfl rfl ⟨by rw [tellF]; simp only [*, if_true, if_false, reduceIte, Int.reduceEq, reduceCtorEq], rfl⟩
  by_cases c_1_1 : (w).toInt = 1
  · refine E_tableIn 49 dX3_tell_1 (by omega) (by omega) (by rw [c_1_1]; rfl) (by decide) ?_
    refine E_aload_n dX3_tell_49 rfl ?_
    refine E_getf 3 dX3_tell_50 fl_X3_23 (by decide) (hg_17 _) rfl ?_
    exact E_iret dX3_tell_53 rfl rfl ⟨by rw [tellF]; simp only [*, if_true, if_false, reduceIte, Int.reduceEq, reduceCtorEq], rfl⟩
  by_cases c_1_2 : (w).toInt = 2
  · refine E_tableIn 54 dX3_tell_1 (by omega) (by omega) (by rw [c_1_2]; rfl) (by decide) ?_
    refine E_aload_n dX3_tell_54 rfl ?_
    refine E_getf 4 dX3_tell_55 fl_X3_33 (by decide) (hg_17 _) rfl ?_
    exact E_iret dX3_tell_58 rfl rfl ⟨by rw [tellF]; simp only [*, if_true, if_false, reduceIte, Int.reduceEq, reduceCtorEq], rfl⟩
  by_cases c_1_3 : (w).toInt = 3
  · refine E_tableIn 59 dX3_tell_1 (by omega) (by omega) (by rw [c_1_3]; rfl) (by decide) ?_
    refine E_aload_n dX3_tell_59 rfl ?_
    refine E_getf 5 dX3_tell_60 fl_X3_36 (by decide) (hg_17 _) rfl ?_
    exact E_iret dX3_tell_63 rfl rfl ⟨by rw [tellF]; simp only [*, if_true, if_false, reduceIte, Int.reduceEq, reduceCtorEq], rfl⟩
  by_cases c_1_4 : (w).toInt = 4
  · refine E_tableIn 64 dX3_tell_1 (by omega) (by omega) (by rw [c_1_4]; rfl) (by decide) ?_
    refine E_aload_n dX3_tell_64 rfl ?_
    refine E_getf 6 dX3_tell_65 fl_X3_42 (by decide) (hg_17 _) rfl ?_
    exact E_iret dX3_tell_68 rfl rfl ⟨by rw [tellF]; simp only [*, if_true, if_false, reduceIte, Int.reduceEq, reduceCtorEq], rfl⟩
  by_cases c_1_5 : (w).toInt = 5
  · refine E_tableIn 69 dX3_tell_1 (by omega) (by omega) (by rw [c_1_5]; rfl) (by decide) ?_
    refine E_aload_n dX3_tell_69 rfl ?_
    refine E_getf 7 dX3_tell_70 fl_X3_45 (by decide) (hg_17 _) rfl ?_
    exact E_iret dX3_tell_73 rfl rfl ⟨by rw [tellF]; simp only [*, if_true, if_false, reduceIte, Int.reduceEq, reduceCtorEq], rfl⟩
  by_cases c_1_6 : (w).toInt = 6
  · refine E_tableIn 74 dX3_tell_1 (by omega) (by omega) (by rw [c_1_6]; rfl) (by decide) ?_
    refine E_aload_n dX3_tell_74 rfl ?_
    refine E_getf 8 dX3_tell_75 fl_X3_70 (by decide) (hg_17 _) rfl ?_
    exact E_iret dX3_tell_78 rfl rfl ⟨by rw [tellF]; simp only [*, if_true, if_false, reduceIte, Int.reduceEq, reduceCtorEq], rfl⟩
  refine E_tableOut 79 dX3_tell_1 (by omega) (by decide) ?_
  refine E_iconst (v := (-1)) dX3_tell_79 rfl ?_
  exact E_iret dX3_tell_80 rfl rfl ⟨by rw [tellF]; simp only [*, if_true, if_false, reduceIte, Int.reduceEq, reduceCtorEq], rfl⟩
theorem c_state (z : Sg) (w : Int32) : EM mDesk_state 1 0 0 [.ref 3, .int w] (hp z) (Det (some (.int (if w = 7 then z.F 18 4 else tellF z w))) (hp z)) := by
  refine E_iload_n dX10_state_0 rfl ?_
  refine E_bipush (v := 7) dX10_state_1 rfl ?_
  refine E_icmp_ne 16 dX10_state_3 (by decide) (fun c_3 => ?_) (fun c_3 => ?_)
  · refine E_aload_n dX10_state_16 rfl ?_
    refine E_getf 2 dX10_state_17 fl_X10_28 (by decide) (hg_3 _) rfl ?_
    refine E_iload_n dX10_state_20 rfl ?_
    refine E_V1 dX10_state_21 cv_X10_129 (by decide) (hg_17 _) rfl rfl (Nat.le_of_ble_eq_true rfl) (Nat.le_of_ble_eq_true rfl) (c_tell z w) (by decide) (Nat.zero_le _) (Nat.zero_le _) ?_
    exact E_iret dX10_state_24 rfl rfl ⟨by first | exact sv_if c_3 | exact sv_el c_3, rfl⟩
  · refine E_aload_n dX10_state_6 rfl ?_
    refine E_getf 3 dX10_state_7 fl_X10_35 (by decide) (hg_3 _) rfl ?_
    refine E_V0 dX10_state_10 cv_X10_126 (by decide) (hg_18 _) rfl rfl (Nat.le_of_ble_eq_true rfl) (Nat.le_of_ble_eq_true rfl) (c_undoable z) (by decide) (Nat.zero_le _) (Nat.zero_le _) ?_
    refine E_goto 24 dX10_state_13 (by decide) ?_
    exact E_iret dX10_state_24 rfl rfl ⟨by first | exact sv_if c_3 | exact sv_el c_3, rfl⟩
