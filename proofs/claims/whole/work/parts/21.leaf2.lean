/-! MORE LEAVES -/
theorem det_t {p : Prop} [Decidable p] {z1 z2 : Sg} (h : p) : Det (some (.int (b2i p))) (hp (if p then z1 else z2)) (some (.int 1)) (hp z1) := ⟨si_t h, by rw [if_pos h]⟩
theorem det_f {p : Prop} [Decidable p] {z1 z2 : Sg} (h : ¬ p) : Det (some (.int (b2i p))) (hp (if p then z1 else z2)) (some (.int 0)) (hp z2) := ⟨si_f h, by rw [if_neg h]⟩
theorem nI_w {n : Nat} (h : n < 2 ^ 31) : (nI n).toInt = (n : Int) := nI_toInt h
theorem c_get (z : Sg) (w : Nat) (hw : w ≤ 4) : EM mNumbers_get 1 0 0 [.ref 4, .int (nI w)] (hp z) (Det (some (.int (z.A 5 w))) (hp z)) := by
  have hw' : (nI w).toInt = (w : Int) := nI_toInt (by omega)
  refine E_iload_n dX4_get_0 rfl ?_
  refine E_iconst (v := 0) dX4_get_1 rfl ?_
  refine E_iconst (v := 4) dX4_get_2 rfl ?_
  refine E_S3 dX4_get_3 cs_X4_15 (Nat.le_of_ble_eq_true rfl) (Nat.le_of_ble_eq_true rfl) (c_within (hp z) (nI w) 0 4) (by decide) (Nat.zero_le _) (Nat.zero_le _) ?_
  refine E_if_eq 18 dX4_get_6 (by decide) (fun c_6 => ?_) (fun c_6 => ?_)
  · exact absurd (⟨by rw [hw']; simp, by rw [hw']; simp; omega⟩ : inB (nI w) 0 4) (b2i_e0 c_6)
  · refine E_aload_n dX4_get_9 rfl ?_
    refine E_getf 0 dX4_get_10 fl_X4_9 (by decide) (hg_4 _) rfl ?_
    refine E_iload_n dX4_get_13 rfl ?_
    refine E_iald dX4_get_14 (by decide) (hg_5 _) (vp_in_nI (by omega) (by omega)) ?_
    refine E_goto 19 dX4_get_15 (by decide) ?_
    exact E_iret dX4_get_19 rfl rfl ⟨by rw [nI_clamp (by omega)], rfl⟩
abbrev setOK (w v : Int32) : Prop := inB w 0 4 ∧ inB v (lowF w.toNatClampNeg) (highF w.toNatClampNeg)
theorem c_change (z : Sg) (w v : Int32) : EM mNumbers_change 1 0 0 [.ref 4, .int w, .int v] (hp z) (Det (some (.int (b2i (setOK w v)))) (hp (if setOK w v then stA z 5 (upd (z.A 5) w.toNatClampNeg v) else z))) := by
  refine E_iload_n dX4_change_0 rfl ?_
  refine E_iconst (v := 0) dX4_change_1 rfl ?_
  refine E_iconst (v := 4) dX4_change_2 rfl ?_
  refine E_S3 dX4_change_3 cs_X4_15 (Nat.le_of_ble_eq_true rfl) (Nat.le_of_ble_eq_true rfl) (c_within (hp z) w 0 4) (by decide) (Nat.zero_le _) (Nat.zero_le _) ?_
  refine E_if_eq 26 dX4_change_6 (by decide) (fun c_6 => ?_) (fun c_6 => ?_)
  · refine E_iconst (v := 0) dX4_change_26 rfl ?_
    exact E_iret dX4_change_27 rfl rfl (by first | exact det_f (fun h => b2i_e0 c_6 h.1) | exact det_f (fun h => b2i_e0 c_23 h.2))
  · refine E_iload_n dX4_change_9 rfl ?_
    refine E_lowest dX4_change_10 fs_X4_19 ?_
    refine E_iload_n dX4_change_13 rfl ?_
    refine E_xald dX4_change_14 (by decide) (hg_1 _) (vp_in_iff.mpr ⟨(b2i_ne c_6).1, by have := (b2i_ne c_6).2; simp only [Int32.reduceToInt] at this; omega⟩) ?_
    refine E_highest dX4_change_15 fs_X4_22 ?_
    refine E_iload_n dX4_change_18 rfl ?_
    refine E_xald dX4_change_19 (by decide) (hg_2 _) (vp_in_iff.mpr ⟨(b2i_ne c_6).1, by have := (b2i_ne c_6).2; simp only [Int32.reduceToInt] at this; omega⟩) ?_
    refine E_S3 dX4_change_20 cs_X4_15 (Nat.le_of_ble_eq_true rfl) (Nat.le_of_ble_eq_true rfl) (c_within (hp z) v _ _) (by decide) (Nat.zero_le _) (Nat.zero_le _) ?_
    refine E_if_ne 28 dX4_change_23 (by decide) (fun c_23 => ?_) (fun c_23 => ?_)
    · refine E_aload_n dX4_change_28 rfl ?_
      refine E_getf 0 dX4_change_29 fl_X4_9 (by decide) (hg_4 _) rfl ?_
      refine E_iload_n dX4_change_32 rfl ?_
      refine E_iload_n dX4_change_33 rfl ?_
      refine E_iast dX4_change_34 (by decide) (hg_5 _) (vp_in_iff.mpr ⟨(b2i_ne c_6).1, by have := (b2i_ne c_6).2; simp only [Int32.reduceToInt] at this; omega⟩) ?_
      rw [hs_5]
      refine E_iconst (v := 1) dX4_change_35 rfl ?_
      exact E_iret dX4_change_36 rfl rfl (det_t ⟨b2i_ne c_6, b2i_ne c_23⟩)
    · refine E_iconst (v := 0) dX4_change_26 rfl ?_
      exact E_iret dX4_change_27 rfl rfl (by first | exact det_f (fun h => b2i_e0 c_6 h.1) | exact det_f (fun h => b2i_e0 c_23 h.2))
theorem c_Tape_size (z : Sg) : EM mTape_size 0 0 0 [.ref 22] (hp z) (Det (some (.int (z.F 22 1))) (hp z)) := by
  refine E_aload_n dX8_size_0 rfl ?_
  refine E_getf 1 dX8_size_1 fl_X8_19 (by decide) (hg_22 _) rfl ?_
  exact E_iret dX8_size_4 rfl rfl ⟨rfl, rfl⟩
theorem c_Book_size (z : Sg) : EM mBook_size 0 0 0 [.ref 24] (hp z) (Det (some (.int (z.F 24 3))) (hp z)) := by
  refine E_aload_n dX0_size_0 rfl ?_
  refine E_getf 3 dX0_size_1 fl_X0_48 (by decide) (hg_24 _) rfl ?_
  exact E_iret dX0_size_4 rfl rfl ⟨rfl, rfl⟩
theorem c_found (z : Sg) : EM mFinder_found 0 0 0 [.ref 28] (hp z) (Det (some (.int (z.F 28 6))) (hp z)) := by
  refine E_aload_n dX2_found_0 rfl ?_
  refine E_getf 6 dX2_found_1 fl_X2_35 (by decide) (hg_28 _) rfl ?_
  exact E_iret dX2_found_4 rfl rfl ⟨rfl, rfl⟩
theorem c_undoable (z : Sg) : EM mSheet_undoable 0 0 0 [.ref 18] (hp z) (Det (some (.int (z.F 18 4))) (hp z)) := by
  refine E_aload_n dX7_undoable_0 rfl ?_
  refine E_getf 4 dX7_undoable_1 fl_X7_33 (by decide) (hg_18 _) rfl ?_
  exact E_iret dX7_undoable_4 rfl rfl ⟨rfl, rfl⟩
theorem c_thrown (z : Sg) : EM mMod_thrown 0 0 0 [.ref 39] (hp z) (Det (some (.int (z.F 39 0))) (hp z)) := by
  refine E_aload_n dX11_thrown_0 rfl ?_
  refine E_getf 0 dX11_thrown_1 fl_X11_98 (by decide) (hg_39 _) rfl ?_
  exact E_iret dX11_thrown_4 rfl rfl ⟨rfl, rfl⟩
theorem c_signAt (z : Sg) (hs : (z.F 22 1).toInt ≤ 26) (x : Int32) : EM mTape_signAt 0 0 0 [.ref 22, .int x] (hp z) (Det (some (.int (if ltN x (z.F 22 1) then z.A 23 x.toNatClampNeg else 0))) (hp z)) := by
  refine E_iload_n dX8_signAt_0 rfl ?_
  refine E_if_lt 21 dX8_signAt_1 (by decide) (fun c_1 => ?_) (fun c_1 => ?_)
  · refine E_iconst (v := 0) dX8_signAt_21 rfl ?_
    exact E_iret dX8_signAt_22 rfl rfl ⟨by first | exact sv_if (by simp only [i32_lt, i32_le, i32_eq, Int32.reduceToInt] at *; exact ⟨by omega, by omega⟩) | exact sv_el (by simp only [i32_lt, i32_le, i32_eq, Int32.reduceToInt] at *; omega), rfl⟩
  · refine E_iload_n dX8_signAt_4 rfl ?_
    refine E_aload_n dX8_signAt_5 rfl ?_
    refine E_getf 1 dX8_signAt_6 fl_X8_19 (by decide) (hg_22 _) rfl ?_
    refine E_icmp_ge 21 dX8_signAt_9 (by decide) (fun c_9 => ?_) (fun c_9 => ?_)
    · refine E_iconst (v := 0) dX8_signAt_21 rfl ?_
      exact E_iret dX8_signAt_22 rfl rfl ⟨by first | exact sv_if (by simp only [i32_lt, i32_le, i32_eq, Int32.reduceToInt] at *; exact ⟨by omega, by omega⟩) | exact sv_el (by simp only [i32_lt, i32_le, i32_eq, Int32.reduceToInt] at *; omega), rfl⟩
    · refine E_aload_n dX8_signAt_12 rfl ?_
      refine E_getf 0 dX8_signAt_13 fl_X8_11 (by decide) (hg_22 _) rfl ?_
      refine E_iload_n dX8_signAt_16 rfl ?_
      refine E_iald dX8_signAt_17 (by decide) (hg_23 _) (tg_in (s := z.F 22 1) (by simp only [i32_lt, i32_le, i32_eq, Int32.reduceToInt] at *; exact ⟨by omega, by omega⟩) hs) ?_
      refine E_goto 22 dX8_signAt_18 (by decide) ?_
      exact E_iret dX8_signAt_22 rfl rfl ⟨by first | exact sv_if (by simp only [i32_lt, i32_le, i32_eq, Int32.reduceToInt] at *; exact ⟨by omega, by omega⟩) | exact sv_el (by simp only [i32_lt, i32_le, i32_eq, Int32.reduceToInt] at *; omega), rfl⟩
theorem c_cut (z : Sg) (x : Int32) : EM mTape_cut 1 0 0 [.ref 22, .int x] (hp z) (Det (some (.int (b2i (inB x 0 (z.F 22 1))))) (hp (if inB x 0 (z.F 22 1) then stF z 22 1 x else z))) := by
  refine E_iload_n dX8_cut_0 rfl ?_
  refine E_iconst (v := 0) dX8_cut_1 rfl ?_
  refine E_aload_n dX8_cut_2 rfl ?_
  refine E_getf 1 dX8_cut_3 fl_X8_19 (by decide) (hg_22 _) rfl ?_
  refine E_S3 dX8_cut_6 cs_X8_23 (Nat.le_of_ble_eq_true rfl) (Nat.le_of_ble_eq_true rfl) (c_within (hp z) x 0 _) (by decide) (Nat.zero_le _) (Nat.zero_le _) ?_
  refine E_if_ne 14 dX8_cut_9 (by decide) (fun c_9 => ?_) (fun c_9 => ?_)
  · refine E_aload_n dX8_cut_14 rfl ?_
    refine E_iload_n dX8_cut_15 rfl ?_
    refine E_put 1 dX8_cut_16 fp_X8_19 (fitsV_int _) (by decide) (hg_22 _) (Nat.le_of_ble_eq_true rfl) ?_
    rw [hs_22_1]
    refine E_iconst (v := 1) dX8_cut_19 rfl ?_
    exact E_iret dX8_cut_20 rfl rfl (det_t (b2i_ne c_9))
  · refine E_iconst (v := 0) dX8_cut_12 rfl ?_
    exact E_iret dX8_cut_13 rfl rfl (det_f (b2i_e0 c_9))
theorem c_Book_has (z : Sg) (x : Int32) : EM mBook_has 0 0 0 [.ref 24, .int x] (hp z) (Det (some (.int (b2i (ltN x (z.F 24 3))))) (hp z)) := by
  refine E_iload_n dX0_has_0 rfl ?_
  refine E_if_lt 16 dX0_has_1 (by decide) (fun c_1 => ?_) (fun c_1 => ?_)
  · refine E_iconst (v := 0) dX0_has_16 rfl ?_
    exact E_iret dX0_has_17 rfl rfl ⟨by first | exact si_t (by simp only [i32_lt, i32_le, i32_eq, Int32.reduceToInt] at *; exact ⟨by omega, by omega⟩) | exact si_t (by simp only [i32_lt, i32_le, i32_eq, Int32.reduceToInt] at *; omega) | exact si_f (by simp only [i32_lt, i32_le, i32_eq, Int32.reduceToInt] at *; omega), rfl⟩
  · refine E_iload_n dX0_has_4 rfl ?_
    refine E_aload_n dX0_has_5 rfl ?_
    refine E_getf 3 dX0_has_6 fl_X0_48 (by decide) (hg_24 _) rfl ?_
    refine E_icmp_ge 16 dX0_has_9 (by decide) (fun c_9 => ?_) (fun c_9 => ?_)
    · refine E_iconst (v := 0) dX0_has_16 rfl ?_
      exact E_iret dX0_has_17 rfl rfl ⟨by first | exact si_t (by simp only [i32_lt, i32_le, i32_eq, Int32.reduceToInt] at *; exact ⟨by omega, by omega⟩) | exact si_t (by simp only [i32_lt, i32_le, i32_eq, Int32.reduceToInt] at *; omega) | exact si_f (by simp only [i32_lt, i32_le, i32_eq, Int32.reduceToInt] at *; omega), rfl⟩
    · refine E_iconst (v := 1) dX0_has_12 rfl ?_
      refine E_goto 17 dX0_has_13 (by decide) ?_
      exact E_iret dX0_has_17 rfl rfl ⟨by first | exact si_t (by simp only [i32_lt, i32_le, i32_eq, Int32.reduceToInt] at *; exact ⟨by omega, by omega⟩) | exact si_t (by simp only [i32_lt, i32_le, i32_eq, Int32.reduceToInt] at *; omega) | exact si_f (by simp only [i32_lt, i32_le, i32_eq, Int32.reduceToInt] at *; omega), rfl⟩
def bg (z : Sg) (a : Nat) (x : Int32) : Int32 := if ltN x (z.F 24 3) then z.A a x.toNatClampNeg else 0
theorem c_sizeOf (z : Sg) (hs : (z.F 24 3).toInt ≤ 40) (x : Int32) : EM mBook_sizeOf 1 0 0 [.ref 24, .int x] (hp z) (Det (some (.int (bg z 26 x))) (hp z)) := by
  refine E_aload_n dX0_sizeOf_0 rfl ?_
  refine E_iload_n dX0_sizeOf_1 rfl ?_
  refine E_V1 dX0_sizeOf_2 cv_X0_44 (by decide) (hg_24 _) rfl rfl (Nat.le_of_ble_eq_true rfl) (Nat.le_of_ble_eq_true rfl) (c_Book_has z x) (by decide) (Nat.zero_le _) (Nat.zero_le _) ?_
  refine E_if_eq 17 dX0_sizeOf_5 (by decide) (fun c_5 => ?_) (fun c_5 => ?_)
  · refine E_iconst (v := 0) dX0_sizeOf_17 rfl ?_
    exact E_iret dX0_sizeOf_18 rfl rfl ⟨by first | exact sv_if (b2i_ne c_5) | exact sv_el (b2i_e0 c_5), rfl⟩
  · refine E_aload_n dX0_sizeOf_8 rfl ?_
    refine E_getf 1 dX0_sizeOf_9 fl_X0_15 (by decide) (hg_24 _) rfl ?_
    refine E_iload_n dX0_sizeOf_12 rfl ?_
    refine E_iald dX0_sizeOf_13 (by decide) (hg_26 _) (tg_in (b2i_ne c_5) hs) ?_
    refine E_goto 18 dX0_sizeOf_14 (by decide) ?_
    exact E_iret dX0_sizeOf_18 rfl rfl ⟨by first | exact sv_if (b2i_ne c_5) | exact sv_el (b2i_e0 c_5), rfl⟩
theorem c_timesOf (z : Sg) (hs : (z.F 24 3).toInt ≤ 40) (x : Int32) : EM mBook_timesOf 1 0 0 [.ref 24, .int x] (hp z) (Det (some (.int (bg z 27 x))) (hp z)) := by
  refine E_aload_n dX0_timesOf_0 rfl ?_
  refine E_iload_n dX0_timesOf_1 rfl ?_
  refine E_V1 dX0_timesOf_2 cv_X0_44 (by decide) (hg_24 _) rfl rfl (Nat.le_of_ble_eq_true rfl) (Nat.le_of_ble_eq_true rfl) (c_Book_has z x) (by decide) (Nat.zero_le _) (Nat.zero_le _) ?_
  refine E_if_eq 17 dX0_timesOf_5 (by decide) (fun c_5 => ?_) (fun c_5 => ?_)
  · refine E_iconst (v := 0) dX0_timesOf_17 rfl ?_
    exact E_iret dX0_timesOf_18 rfl rfl ⟨by first | exact sv_if (b2i_ne c_5) | exact sv_el (b2i_e0 c_5), rfl⟩
  · refine E_aload_n dX0_timesOf_8 rfl ?_
    refine E_getf 2 dX0_timesOf_9 fl_X0_18 (by decide) (hg_24 _) rfl ?_
    refine E_iload_n dX0_timesOf_12 rfl ?_
    refine E_iald dX0_timesOf_13 (by decide) (hg_27 _) (tg_in (b2i_ne c_5) hs) ?_
    refine E_goto 18 dX0_timesOf_14 (by decide) ?_
    exact E_iret dX0_timesOf_18 rfl rfl ⟨by first | exact sv_if (b2i_ne c_5) | exact sv_el (b2i_e0 c_5), rfl⟩
theorem c_foundAt (z : Sg) (hs : (z.F 28 6).toInt ≤ 40) (x : Int32) : EM mFinder_foundAt 0 0 0 [.ref 28, .int x] (hp z) (Det (some (.int (if ltN x (z.F 28 6) then z.A 30 x.toNatClampNeg else (-1)))) (hp z)) := by
  refine E_iload_n dX2_foundAt_0 rfl ?_
  refine E_if_lt 21 dX2_foundAt_1 (by decide) (fun c_1 => ?_) (fun c_1 => ?_)
  · refine E_iconst (v := (-1)) dX2_foundAt_21 rfl ?_
    exact E_iret dX2_foundAt_22 rfl rfl ⟨by first | exact sv_if (by simp only [i32_lt, i32_le, i32_eq, Int32.reduceToInt] at *; exact ⟨by omega, by omega⟩) | exact sv_el (by simp only [i32_lt, i32_le, i32_eq, Int32.reduceToInt] at *; omega), rfl⟩
  · refine E_iload_n dX2_foundAt_4 rfl ?_
    refine E_aload_n dX2_foundAt_5 rfl ?_
    refine E_getf 6 dX2_foundAt_6 fl_X2_35 (by decide) (hg_28 _) rfl ?_
    refine E_icmp_ge 21 dX2_foundAt_9 (by decide) (fun c_9 => ?_) (fun c_9 => ?_)
    · refine E_iconst (v := (-1)) dX2_foundAt_21 rfl ?_
      exact E_iret dX2_foundAt_22 rfl rfl ⟨by first | exact sv_if (by simp only [i32_lt, i32_le, i32_eq, Int32.reduceToInt] at *; exact ⟨by omega, by omega⟩) | exact sv_el (by simp only [i32_lt, i32_le, i32_eq, Int32.reduceToInt] at *; omega), rfl⟩
    · refine E_aload_n dX2_foundAt_12 rfl ?_
      refine E_getf 4 dX2_foundAt_13 fl_X2_17 (by decide) (hg_28 _) rfl ?_
      refine E_iload_n dX2_foundAt_16 rfl ?_
      refine E_iald dX2_foundAt_17 (by decide) (hg_30 _) (tg_in (s := z.F 28 6) (by simp only [i32_lt, i32_le, i32_eq, Int32.reduceToInt] at *; exact ⟨by omega, by omega⟩) hs) ?_
      refine E_goto 22 dX2_foundAt_18 (by decide) ?_
      exact E_iret dX2_foundAt_22 rfl rfl ⟨by first | exact sv_if (by simp only [i32_lt, i32_le, i32_eq, Int32.reduceToInt] at *; exact ⟨by omega, by omega⟩) | exact sv_el (by simp only [i32_lt, i32_le, i32_eq, Int32.reduceToInt] at *; omega), rfl⟩
theorem letter_sub {x : Int32} (h : isL x) : ∃ j : Nat, j < 26 ∧ x - 97 = nI j ∧ x = nI (97 + j) := by
  obtain ⟨h1, h2⟩ := h
  refine ⟨(x.toInt - 97).toNat, by omega, ?_, ?_⟩
  · apply Int32.toInt_inj.mp
    rw [nI_toInt (by omega), Int32.toInt_sub, show ((97 : Int32).toInt) = 97 from rfl, Int.bmod_eq_of_le (by omega) (by omega)]
    omega
  · apply Int32.toInt_inj.mp
    rw [nI_toInt (by omega)]
    omega
theorem letter_in {x : Int32} (h : isL x) : vp_in (x - 97) 26 := by
  obtain ⟨j, h1, h2, -⟩ := letter_sub h
  rw [h2]
  exact vp_in_nI h1 (by omega)
abbrev shareOK (x v : Int32) : Prop := isL x ∧ inB v 0 1000
theorem c_Shares_change (z : Sg) (x v : Int32) : EM mShares_change 1 0 0 [.ref 32, .int x, .int v] (hp z) (Det (some (.int (b2i (shareOK x v)))) (hp (if shareOK x v then stA z 33 (upd (z.A 33) (x - 97).toNatClampNeg v) else z))) := by
  refine E_iload_n dX6_change_0 rfl ?_
  refine E_S1 dX6_change_1 cs_X6_26 (Nat.le_of_ble_eq_true rfl) (Nat.le_of_ble_eq_true rfl) (c_isLetter (hp z) x) (by decide) (Nat.zero_le _) (Nat.zero_le _) ?_
  refine E_if_eq 18 dX6_change_4 (by decide) (fun c_4 => ?_) (fun c_4 => ?_)
  · refine E_iconst (v := 0) dX6_change_18 rfl ?_
    exact E_iret dX6_change_19 rfl rfl (by first | exact det_f (fun h => b2i_e0 c_4 h.1) | exact det_f (fun h => b2i_e0 c_15 h.2))
  · refine E_iload_n dX6_change_7 rfl ?_
    refine E_iconst (v := 0) dX6_change_8 rfl ?_
    refine E_sipush (v := 1000) dX6_change_9 rfl ?_
    refine E_S3 dX6_change_12 cs_X6_30 (Nat.le_of_ble_eq_true rfl) (Nat.le_of_ble_eq_true rfl) (c_within (hp z) v 0 1000) (by decide) (Nat.zero_le _) (Nat.zero_le _) ?_
    refine E_if_ne 20 dX6_change_15 (by decide) (fun c_15 => ?_) (fun c_15 => ?_)
    · refine E_aload_n dX6_change_20 rfl ?_
      refine E_getf 2 dX6_change_21 fl_X6_9 (by decide) (hg_32 _) rfl ?_
      refine E_iload_n dX6_change_24 rfl ?_
      refine E_bipush (v := 97) dX6_change_25 rfl ?_
      refine E_isub dX6_change_27 ?_
      refine E_iload_n dX6_change_28 rfl ?_
      refine E_iast dX6_change_29 (by decide) (hg_33 _) (letter_in (b2i_ne c_4)) ?_
      rw [hs_33]
      refine E_iconst (v := 1) dX6_change_30 rfl ?_
      exact E_iret dX6_change_31 rfl rfl (det_t ⟨b2i_ne c_4, b2i_ne c_15⟩)
    · refine E_iconst (v := 0) dX6_change_18 rfl ?_
      exact E_iret dX6_change_19 rfl rfl (by first | exact det_f (fun h => b2i_e0 c_4 h.1) | exact det_f (fun h => b2i_e0 c_15 h.2))
theorem c_shareOf (z : Sg) (x : Int32) : EM mShares_shareOf 1 0 0 [.ref 32, .int x] (hp z) (Det (some (.int (if isL x then z.A 33 (x - 97).toNatClampNeg else 0))) (hp z)) := by
  refine E_iload_n dX6_shareOf_0 rfl ?_
  refine E_S1 dX6_shareOf_1 cs_X6_26 (Nat.le_of_ble_eq_true rfl) (Nat.le_of_ble_eq_true rfl) (c_isLetter (hp z) x) (by decide) (Nat.zero_le _) (Nat.zero_le _) ?_
  refine E_if_eq 19 dX6_shareOf_4 (by decide) (fun c_4 => ?_) (fun c_4 => ?_)
  · refine E_iconst (v := 0) dX6_shareOf_19 rfl ?_
    exact E_iret dX6_shareOf_20 rfl rfl ⟨by first | exact sv_if (b2i_ne c_4) | exact sv_el (b2i_e0 c_4), rfl⟩
  · refine E_aload_n dX6_shareOf_7 rfl ?_
    refine E_getf 2 dX6_shareOf_8 fl_X6_9 (by decide) (hg_32 _) rfl ?_
    refine E_iload_n dX6_shareOf_11 rfl ?_
    refine E_bipush (v := 97) dX6_shareOf_12 rfl ?_
    refine E_isub dX6_shareOf_14 ?_
    refine E_iald dX6_shareOf_15 (by decide) (hg_33 _) (letter_in (b2i_ne c_4)) ?_
    refine E_goto 20 dX6_shareOf_16 (by decide) ?_
    exact E_iret dX6_shareOf_20 rfl rfl ⟨by first | exact sv_if (b2i_ne c_4) | exact sv_el (b2i_e0 c_4), rfl⟩
abbrev isPt (a b : Int32) : Prop := 0 ≤ a.toInt ∧ a.toInt < b.toInt ∧ b.toInt < 27
theorem c_isPart (z : HP) (a b : Int32) : EM mPlan_isPart 0 0 0 [.int a, .int b] z (Det (some (.int (b2i (isPt a b)))) z) := by
  refine E_iload_n dX5_isPart_0 rfl ?_
  refine E_if_lt 19 dX5_isPart_1 (by decide) (fun c_1 => ?_) (fun c_1 => ?_)
  · refine E_iconst (v := 0) dX5_isPart_19 rfl ?_
    exact E_iret dX5_isPart_20 rfl rfl ⟨by first | exact si_t (by simp only [i32_lt, i32_le, i32_eq, Int32.reduceToInt] at *; exact ⟨by omega, by omega, by omega⟩) | exact si_f (by simp only [i32_lt, i32_le, i32_eq, Int32.reduceToInt] at *; omega), rfl⟩
  · refine E_iload_n dX5_isPart_4 rfl ?_
    refine E_iload_n dX5_isPart_5 rfl ?_
    refine E_icmp_ge 19 dX5_isPart_6 (by decide) (fun c_6 => ?_) (fun c_6 => ?_)
    · refine E_iconst (v := 0) dX5_isPart_19 rfl ?_
      exact E_iret dX5_isPart_20 rfl rfl ⟨by first | exact si_t (by simp only [i32_lt, i32_le, i32_eq, Int32.reduceToInt] at *; exact ⟨by omega, by omega, by omega⟩) | exact si_f (by simp only [i32_lt, i32_le, i32_eq, Int32.reduceToInt] at *; omega), rfl⟩
    · refine E_iload_n dX5_isPart_9 rfl ?_
      refine E_bipush (v := 27) dX5_isPart_10 rfl ?_
      refine E_icmp_ge 19 dX5_isPart_12 (by decide) (fun c_12 => ?_) (fun c_12 => ?_)
      · refine E_iconst (v := 0) dX5_isPart_19 rfl ?_
        exact E_iret dX5_isPart_20 rfl rfl ⟨by first | exact si_t (by simp only [i32_lt, i32_le, i32_eq, Int32.reduceToInt] at *; exact ⟨by omega, by omega, by omega⟩) | exact si_f (by simp only [i32_lt, i32_le, i32_eq, Int32.reduceToInt] at *; omega), rfl⟩
      · refine E_iconst (v := 1) dX5_isPart_15 rfl ?_
        refine E_goto 20 dX5_isPart_16 (by decide) ?_
        exact E_iret dX5_isPart_20 rfl rfl ⟨by first | exact si_t (by simp only [i32_lt, i32_le, i32_eq, Int32.reduceToInt] at *; exact ⟨by omega, by omega, by omega⟩) | exact si_f (by simp only [i32_lt, i32_le, i32_eq, Int32.reduceToInt] at *; omega), rfl⟩
theorem c_sumOf (z : Sg) (a b : Int32) : EM mPlan_sumOf 1 0 0 [.ref 35, .int a, .int b] (hp z) (Det (some (.int (if isPt a b then z.A 36 b.toNatClampNeg - z.A 36 a.toNatClampNeg else 0))) (hp z)) := by
  refine E_iload_n dX5_sumOf_0 rfl ?_
  refine E_iload_n dX5_sumOf_1 rfl ?_
  refine E_S2 dX5_sumOf_2 cs_X5_65 (Nat.le_of_ble_eq_true rfl) (Nat.le_of_ble_eq_true rfl) (c_isPart (hp z) a b) (by decide) (Nat.zero_le _) (Nat.zero_le _) ?_
  refine E_if_eq 24 dX5_sumOf_5 (by decide) (fun c_5 => ?_) (fun c_5 => ?_)
  · refine E_iconst (v := 0) dX5_sumOf_24 rfl ?_
    exact E_iret dX5_sumOf_25 rfl rfl ⟨by first | exact sv_if (b2i_ne c_5) | exact sv_el (b2i_e0 c_5), rfl⟩
  · refine E_aload_n dX5_sumOf_8 rfl ?_
    refine E_getf 2 dX5_sumOf_9 fl_X5_13 (by decide) (hg_35 _) rfl ?_
    refine E_iload_n dX5_sumOf_12 rfl ?_
    refine E_iald dX5_sumOf_13 (by decide) (hg_36 _) (vp_in_iff.mpr (by have := b2i_ne c_5; exact ⟨by omega, by omega⟩)) ?_
    refine E_aload_n dX5_sumOf_14 rfl ?_
    refine E_getf 2 dX5_sumOf_15 fl_X5_13 (by decide) (hg_35 _) rfl ?_
    refine E_iload_n dX5_sumOf_18 rfl ?_
    refine E_iald dX5_sumOf_19 (by decide) (hg_36 _) (vp_in_iff.mpr (by have := b2i_ne c_5; exact ⟨by omega, by omega⟩)) ?_
    refine E_isub dX5_sumOf_20 ?_
    refine E_goto 25 dX5_sumOf_21 (by decide) ?_
    exact E_iret dX5_sumOf_25 rfl rfl ⟨by first | exact sv_if (b2i_ne c_5) | exact sv_el (b2i_e0 c_5), rfl⟩
