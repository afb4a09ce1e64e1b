/-! lay; the desk's other methods -/
theorem bld_tr (n : Nat) : ∀ (m s g t : Nat) (z : Sg), g < t → trOK z t → ∃ t', t ≤ t' ∧ trOK (bld n m s g z) t' ∧ (bld n m s g z).F 22 1 = z.F 22 1
  | 0, s, g, t, z, _, h => ⟨t, Nat.le_refl t, h, rfl⟩
  | m + 1, s, g, t, z, hg, h => by
    rw [bld]
    have ho := opn_le h s 60 g hg
    split
    · exact ⟨t, Nat.le_refl t, h, rfl⟩
    · split
      · obtain ⟨t1, h1, h2⟩ := trOK_addz h (show opn z s 60 g < t by omega) 1 (z.A 23 s)
        obtain ⟨t2, h3, h4, h5⟩ := bld_tr n m (s + 1) (opn z s 60 g) t1 _ (by omega) h2
        exact ⟨t2, by omega, h4, by rw [h5, F22_addz]⟩
      · split
        · next hok =>
          have ht := h.2.2.1
          have ht60 : t < 60 := by
            have h1 := hok.1
            rw [h.1, nI_toInt (by omega)] at h1
            omega
          have hcl : (z.F 6 10).toNatClampNeg = t := by rw [h.1, nI_clamp (by omega)]
          obtain ⟨t2, h3, h4, h5⟩ := bld_tr n m s (z.F 6 10).toNatClampNeg (t + 1) (stA (zadd z (nI (opn z s 60 g)) 0 (-1)) 38 (upd (z.A 38) (z.F 6 10).toNatClampNeg (nI (feZ z s (z.A 38 (opn z s 60 g)).toNatClampNeg)))) (by omega) (trOK_add h ht60 (show opn z s 60 g < t by omega) 0 (-1))
          exact ⟨t2, by omega, h4, h5⟩
        · exact ⟨t, Nat.le_refl t, h, rfl⟩
theorem F_sl1 : ∀ (m i : Nat) (z : Sg), (sl1 m i z).F = z.F
  | 0, _, _ => rfl
  | m + 1, i, z => by rw [sl1, F_sl1]; rfl
theorem F_sl2 (n : Nat) : ∀ (i : Nat) (z : Sg), (sl2 n i z).F = z.F
  | 0, _ => rfl
  | i + 1, z => by rw [sl2, F_sl2, F_sl3]
theorem F_zsol (n : Nat) (z : Sg) : (zsol n z).F = z.F := by
  unfold zsol
  rw [F_sl2, F_sl1]
theorem A_sl1 {a : Nat} (h : ¬ a = 36) : ∀ (m i : Nat) (z : Sg), (sl1 m i z).A a = z.A a
  | 0, _, _ => rfl
  | m + 1, i, z => by rw [sl1, A_sl1 h, A_stA, if_neg h]
theorem A_sl3 {a : Nat} (h : ¬ a = 37) (i : Nat) : ∀ (m j : Nat) (z : Sg), (sl3 i m j z).A a = z.A a
  | 0, _, _ => rfl
  | m + 1, j, z => by rw [sl3, A_sl3 h, A_stA, if_neg h]
theorem A_sl2 {a : Nat} (h : ¬ a = 37) (n : Nat) : ∀ (i : Nat) (z : Sg), (sl2 n i z).A a = z.A a
  | 0, _ => rfl
  | i + 1, z => by rw [sl2, A_sl2 h, A_sl3 h]
theorem A_zsol {a : Nat} (h1 : ¬ a = 36) (h2 : ¬ a = 37) (n : Nat) (z : Sg) : (zsol n z).A a = z.A a := by
  unfold zsol
  rw [A_sl2 h2, A_sl1 h1]
theorem trOK_emp (z : Sg) : trOK (zemp z) 1 := ⟨rfl, by omega, by omega, fun x h1 h2 => absurd h2 (by omega)⟩
abbrev rowOK (z : Sg) (t : Nat) : Prop := (0 < t ∧ ∀ j, j < t → isL (z.A 23 j)) ∧ rowM (z.A 23) t 0 0 = true
def ly3 (t : Nat) (z : Sg) : Sg := stF (zbd t (zemp (zsol t z))) 22 1 0
def zly (t : Nat) (z : Sg) : Sg := zst ((zbd t (zemp (zsol t z))).F 6 10).toNatClampNeg (ly3 t z)
theorem c_lay {t : Nat} (ht : t ≤ 26) (z : Sg) (hF : z.F 22 1 = nI t) (he : enOK z) : EM mDesk_lay 5 0 0 [.ref 3] (hp z) (Det (some (.int (if rowOK z t then lstZ (zsol t z) 0 t else (-1)))) (hp (if rowOK z t then zly t z else z))) := by
  have hF2 : (zemp (zsol t z)).F 22 1 = nI t := by
    show (zsol t z).F 22 1 = nI t
    rw [F_zsol, hF]
  have he2 : enOK (zemp (zsol t z)) := by
    intro x hx
    show ∃ e, e ≤ 26 ∧ (zsol t z).A 38 x = nI e
    rw [A_zsol (by decide) (by decide)]
    exact he x hx
  obtain ⟨t', ht1, ht2, ht3⟩ := bld_tr t 60 0 0 1 (stA (zemp (zsol t z)) 38 (upd ((zemp (zsol t z)).A 38) 0 (nI t))) (by omega) (trOK_emp (zsol t z))
  have ht4 : ((zbd t (zemp (zsol t z))).F 6 10).toNatClampNeg = t' := by
    show ((bld t 60 0 0 _).F 6 10).toNatClampNeg = t'
    rw [ht2.1, nI_clamp (by have := ht2.2.2.1; omega)]
  have hcut : inB 0 0 ((zbd t (zemp (zsol t z))).F 22 1) := by
    show inB 0 0 ((bld t 60 0 0 _).F 22 1)
    rw [ht3]
    show inB 0 0 ((zsol t z).F 22 1)
    rw [F_zsol, hF]
    exact ⟨by decide, by rw [nI_toInt (by omega)]; simp only [Int32.reduceToInt]; omega⟩
  have hc := c_cut (zbd t (zemp (zsol t z))) 0
  rw [if_pos hcut, b2i_t hcut] at hc
  refine E_aload_n dX10_lay_0 rfl ?_
  refine E_getf 4 dX10_lay_1 fl_X10_42 (by decide) (hg_3 _) rfl ?_
  refine E_V0 dX10_lay_4 cv_X10_186 (by decide) (hg_22 _) rfl rfl (Nat.le_of_ble_eq_true rfl) (Nat.le_of_ble_eq_true rfl) (c_Tape_isRow ht z hF) (by decide) (Nat.zero_le _) (Nat.zero_le _) ?_
  refine E_if_ne 12 dX10_lay_7 (by decide) (fun c_7 => ?_) (fun c_7 => ?_)
  · rw [if_pos (show rowOK z t from b2i_ne c_7), if_pos (show rowOK z t from b2i_ne c_7)]
    refine E_aload_n dX10_lay_12 rfl ?_
    refine E_getf 8 dX10_lay_13 fl_X10_74 (by decide) (hg_3 _) rfl ?_
    refine E_aload_n dX10_lay_16 rfl ?_
    refine E_getf 7 dX10_lay_17 fl_X10_65 (by decide) (hg_3 _) rfl ?_
    refine E_V1 dX10_lay_20 cv_X10_190 (by decide) (hg_35 _) rfl rfl (Nat.le_of_ble_eq_true rfl) (Nat.le_of_ble_eq_true rfl) (c_solve (show 1 ≤ t from (b2i_ne c_7).1.1) ht z hF) (by decide) (Nat.zero_le _) (Nat.zero_le _) ?_
    refine E_istore_n dX10_lay_23 (by decide) rfl ?_
    refine E_aload_n dX10_lay_24 rfl ?_
    refine E_getf 1 dX10_lay_25 fl_X10_19 (by decide) (hg_3 _) rfl ?_
    refine E_V0 dX10_lay_28 cv_X10_85 (by decide) (hg_6 _) rfl rfl (Nat.le_of_ble_eq_true rfl) (Nat.le_of_ble_eq_true rfl) (c_empty (zsol t z)) (by decide) (Nat.zero_le _) (Nat.zero_le _) ?_
    refine E_aload_n dX10_lay_31 rfl ?_
    refine E_getf 8 dX10_lay_32 fl_X10_74 (by decide) (hg_3 _) rfl ?_
    refine E_aload_n dX10_lay_35 rfl ?_
    refine E_getf 1 dX10_lay_36 fl_X10_19 (by decide) (hg_3 _) rfl ?_
    refine E_V1 dX10_lay_39 cv_X10_194 (by decide) (hg_35 _) rfl rfl (Nat.le_of_ble_eq_true rfl) (Nat.le_of_ble_eq_true rfl) (c_build ht (zemp (zsol t z)) (trOK_emp (zsol t z)) he2 hF2) (by decide) (Nat.zero_le _) (Nat.zero_le _) ?_
    refine E_aload_n dX10_lay_42 rfl ?_
    refine E_getf 4 dX10_lay_43 fl_X10_42 (by decide) (hg_3 _) rfl ?_
    refine E_iconst (v := 0) dX10_lay_46 rfl ?_
    refine E_V1 dX10_lay_47 cv_X10_151 (by decide) (hg_22 _) rfl rfl (Nat.le_of_ble_eq_true rfl) (Nat.le_of_ble_eq_true rfl) (hc) (by decide) (Nat.zero_le _) (Nat.zero_le _) ?_
    refine E_pop dX10_lay_50 rfl ?_
    refine E_aload_n dX10_lay_51 rfl ?_
    refine E_V0 dX10_lay_52 cv_X10_82 (by decide) (hg_3 _) rfl rfl (Nat.le_of_ble_eq_true rfl) (Nat.le_of_ble_eq_true rfl) (c_showTrayAnew (n := t') ht2.2.1 ht2.2.2.1 (ly3 t z) ht2.1) (by decide) (Nat.zero_le _) (Nat.zero_le _) ?_
    refine E_iload_n dX10_lay_55 rfl ?_
    exact E_iret dX10_lay_56 rfl rfl ⟨rfl, by rw [zly, ht4]⟩
  · refine E_iconst (v := (-1)) dX10_lay_10 rfl ?_
    exact E_iret dX10_lay_11 rfl rfl ⟨by rw [if_neg (show ¬ rowOK z t from b2i_e0 c_7)], by rw [if_neg (show ¬ rowOK z t from b2i_e0 c_7)]⟩
theorem c_near (z : Sg) (x v : Int32) : EM mDesk_near 2 0 0 [.ref 3, .int x, .int v] (hp z) (Det (some (.int (if isL x ∧ isL v then b2i (nbP z x v) else (-1)))) (hp z)) := by
  refine E_iload_n dX10_near_0 rfl ?_
  refine E_S1 dX10_near_1 cs_X10_172 (Nat.le_of_ble_eq_true rfl) (Nat.le_of_ble_eq_true rfl) (c_isLetter _ x) (by decide) (Nat.zero_le _) (Nat.zero_le _) ?_
  refine E_if_eq 14 dX10_near_4 (by decide) (fun c_4 => ?_) (fun c_4 => ?_)
  · refine E_iconst (v := (-1)) dX10_near_14 rfl ?_
    exact E_iret dX10_near_15 rfl rfl (by first | exact ⟨by rw [if_neg (fun h => b2i_e0 c_4 h.1)], rfl⟩ | exact ⟨by rw [if_neg (fun h => b2i_e0 c_11 h.2)], rfl⟩)
  · refine E_iload_n dX10_near_7 rfl ?_
    refine E_S1 dX10_near_8 cs_X10_172 (Nat.le_of_ble_eq_true rfl) (Nat.le_of_ble_eq_true rfl) (c_isLetter _ v) (by decide) (Nat.zero_le _) (Nat.zero_le _) ?_
    refine E_if_ne 16 dX10_near_11 (by decide) (fun c_11 => ?_) (fun c_11 => ?_)
    · refine E_aload_n dX10_near_16 rfl ?_
      refine E_getf 1 dX10_near_17 fl_X10_19 (by decide) (hg_3 _) rfl ?_
      refine E_iload_n dX10_near_20 rfl ?_
      refine E_iload_n dX10_near_21 rfl ?_
      refine E_V2 dX10_near_22 cv_X10_175 (by decide) (hg_6 _) rfl rfl (Nat.le_of_ble_eq_true rfl) (Nat.le_of_ble_eq_true rfl) (c_areNeighbours z x v) (by decide) (Nat.zero_le _) (Nat.zero_le _) ?_
      refine E_if_eq 32 dX10_near_25 (by decide) (fun c_25 => ?_) (fun c_25 => ?_)
      · refine E_iconst (v := 0) dX10_near_32 rfl ?_
        exact E_iret dX10_near_33 rfl rfl (by first | exact ⟨by rw [if_pos ⟨b2i_ne c_4, b2i_ne c_11⟩, b2i_f (b2i_e0 c_25)], rfl⟩ | exact ⟨by rw [if_pos ⟨b2i_ne c_4, b2i_ne c_11⟩, b2i_t (b2i_ne c_25)], rfl⟩)
      · refine E_iconst (v := 1) dX10_near_28 rfl ?_
        refine E_goto 33 dX10_near_29 (by decide) ?_
        exact E_iret dX10_near_33 rfl rfl (by first | exact ⟨by rw [if_pos ⟨b2i_ne c_4, b2i_ne c_11⟩, b2i_f (b2i_e0 c_25)], rfl⟩ | exact ⟨by rw [if_pos ⟨b2i_ne c_4, b2i_ne c_11⟩, b2i_t (b2i_ne c_25)], rfl⟩)
    · refine E_iconst (v := (-1)) dX10_near_14 rfl ?_
      exact E_iret dX10_near_15 rfl rfl (by first | exact ⟨by rw [if_neg (fun h => b2i_e0 c_4 h.1)], rfl⟩ | exact ⟨by rw [if_neg (fun h => b2i_e0 c_11 h.2)], rfl⟩)
/-- how many the finder holds stays at most 40 -/
theorem F28_sfl (k : Nat) : ∀ (m W f : Nat) (z : Sg), f + m ≤ 40 → z.F 28 6 = nI f → ∃ f', f' ≤ 40 ∧ (sfl k m W f z).F 28 6 = nI f'
  | 0, W, f, z, h1, h2 => ⟨f, by omega, h2⟩
  | m + 1, W, f, z, h1, h2 => by
    rw [sfl]
    split
    · exact F28_sfl k m (W + 1) (f + 1) _ (by omega) (F28_enl h2 (by omega) _ _)
    · exact F28_sfl k m (W + 1) f z (by omega) h2
theorem F28_sof (k : Nat) : ∀ (m W f : Nat) (z : Sg), f + m ≤ 40 → z.F 28 6 = nI f → ∃ f', f' ≤ 40 ∧ (sof k m W f z).F 28 6 = nI f'
  | 0, W, f, z, h1, h2 => ⟨f, by omega, h2⟩
  | m + 1, W, f, z, h1, h2 => by
    rw [sof]
    split
    · exact F28_sof k m (W + 1) (f + 1) _ (by omega) (F28_enl h2 (by omega) _ _)
    · exact F28_sof k m (W + 1) f z (by omega) h2
theorem zsf_le {z : Sg} {n : Nat} (hn : n ≤ 40) (r : List Int32) : ((zsf z r n).F 28 6).toInt ≤ 40 := by
  obtain ⟨f, h1, h2⟩ := F28_sfl (wr r) n 0 0 (rwZ (stF z 28 6 0) r) (by omega) (by rw [F_rwZ]; rfl)
  unfold zsf
  rw [h2, nI_toInt (by omega)]
  omega
theorem zso_le {z : Sg} {n : Nat} (hn : n ≤ 40) (r : List Int32) : ((zso z r n).F 28 6).toInt ≤ 40 := by
  unfold zso
  split
  · unfold zso1
    rw [F_rwZ]
    show (0 : Int32).toInt ≤ 40
    decide
  · obtain ⟨f, h1, h2⟩ := F28_sof (wr r) n 0 0 (zso1 z r) (by omega) (by unfold zso1; rw [F_rwZ]; rfl)
    rw [h2, nI_toInt (by omega)]
    omega
def fat (z : Sg) (k : Int32) : Int32 := if ltN k (z.F 28 6) then z.A 30 k.toNatClampNeg else (-1)
theorem c_foreseen {z : Sg} {n : Nat} {r : List Int32} (h : bkOK z n) (hr : r.length ≤ 200) (hc : ch z.D z.T r) (k : Int32) : EM mDesk_foreseen 5 0 0 [.ref 3, .int k] (hp z) (Det (some (.int (fat (zsf z r n) k))) (hp (zsf z r n))) := by
  refine E_aload_n dX10_foreseen_0 rfl ?_
  refine E_getf 6 dX10_foreseen_1 fl_X10_58 (by decide) (hg_3 _) rfl ?_
  refine E_V0 dX10_foreseen_4 cv_X10_163 (by decide) (hg_28 _) rfl rfl (Nat.le_of_ble_eq_true rfl) (Nat.le_of_ble_eq_true rfl) (c_seekForeseen h hr hc) (by decide) (Nat.zero_le _) (Nat.zero_le _) ?_
  refine E_aload_n dX10_foreseen_7 rfl ?_
  refine E_getf 6 dX10_foreseen_8 fl_X10_58 (by decide) (hg_3 _) rfl ?_
  refine E_iload_n dX10_foreseen_11 rfl ?_
  refine E_V1 dX10_foreseen_12 cv_X10_166 (by decide) (hg_28 _) rfl rfl (Nat.le_of_ble_eq_true rfl) (Nat.le_of_ble_eq_true rfl) (c_foundAt (zsf z r n) (zsf_le h.2.1 r) k) (by decide) (Nat.zero_le _) (Nat.zero_le _) ?_
  exact E_iret dX10_foreseen_15 rfl rfl ⟨rfl, rfl⟩
theorem c_offered {z : Sg} {n : Nat} {r : List Int32} (h : bkOK z n) (hr : r.length ≤ 200) (hc : ch z.D z.T r) (k : Int32) : EM mDesk_offered 6 0 0 [.ref 3, .int k] (hp z) (Det (some (.int (fat (zso z r n) k))) (hp (zso z r n))) := by
  refine E_aload_n dX10_offered_0 rfl ?_
  refine E_getf 6 dX10_offered_1 fl_X10_58 (by decide) (hg_3 _) rfl ?_
  refine E_V0 dX10_offered_4 cv_X10_169 (by decide) (hg_28 _) rfl rfl (Nat.le_of_ble_eq_true rfl) (Nat.le_of_ble_eq_true rfl) (c_seekOffered h hr hc) (by decide) (Nat.zero_le _) (Nat.zero_le _) ?_
  refine E_aload_n dX10_offered_7 rfl ?_
  refine E_getf 6 dX10_offered_8 fl_X10_58 (by decide) (hg_3 _) rfl ?_
  refine E_iload_n dX10_offered_11 rfl ?_
  refine E_V1 dX10_offered_12 cv_X10_166 (by decide) (hg_28 _) rfl rfl (Nat.le_of_ble_eq_true rfl) (Nat.le_of_ble_eq_true rfl) (c_foundAt (zso z r n) (zso_le h.2.1 r) k) (by decide) (Nat.zero_le _) (Nat.zero_le _) ?_
  exact E_iret dX10_offered_15 rfl rfl ⟨rfl, rfl⟩
def cntD (z : Sg) (r : List Int32) (n : Nat) (w : Int32) : Int32 := if w.toInt = 0 then z.F 6 10 else if w.toInt = 1 then z.F 24 3 else if w.toInt = 2 then z.F 22 1 else if w.toInt = 3 then nI (wr r) else if w.toInt = 4 then (zsf z r n).F 28 6 else if w.toInt = 5 then (zso z r n).F 28 6 else (-1)
def cntZ (z : Sg) (r : List Int32) (n : Nat) (w : Int32) : Sg := if w.toInt = 4 then zsf z r n else if w.toInt = 5 then zso z r n else z
theorem c_count {z : Sg} {n : Nat} {r : List Int32} (h : bkOK z n) (hr : r.length ≤ 200) (hc : ch z.D z.T r) (w : Int32) : EM mDesk_count 6 0 0 [.ref 3, .int w] (hp z) (Det (some (.int (cntD z r n w))) (hp (cntZ z r n w))) := by
  refine E_iload_n dX10_count_0 rfl ?_
  by_cases c_1_0 : (w).toInt = 0
  · refine E_tableIn 40 dX10_count_1 (by omega) (by omega) (by rw [c_1_0]; rfl) (by decide) ?_
    refine E_aload_n dX10_count_40 rfl ?_
    refine E_getf 1 dX10_count_41 fl_X10_19 (by decide) (hg_3 _) rfl ?_
    refine E_V0 dX10_count_44 cv_X10_198 (by decide) (hg_6 _) rfl rfl (Nat.le_of_ble_eq_true rfl) (Nat.le_of_ble_eq_true rfl) (c_Tray_size z) (by decide) (Nat.zero_le _) (Nat.zero_le _) ?_
    exact E_iret dX10_count_47 rfl rfl ⟨by rw [cntD]; simp only [*, if_true, if_false, reduceIte, Int.reduceEq, reduceCtorEq], by rw [cntZ]; simp only [*, if_true, if_false, reduceIte, Int.reduceEq, reduceCtorEq]⟩
  by_cases c_1_1 : (w).toInt = 1
  · refine E_tableIn 48 dX10_count_1 (by omega) (by omega) (by rw [c_1_1]; rfl) (by decide) ?_
    refine E_aload_n dX10_count_48 rfl ?_
    refine E_getf 5 dX10_count_49 fl_X10_49 (by decide) (hg_3 _) rfl ?_
    refine E_V0 dX10_count_52 cv_X10_200 (by decide) (hg_24 _) rfl rfl (Nat.le_of_ble_eq_true rfl) (Nat.le_of_ble_eq_true rfl) (c_Book_size z) (by decide) (Nat.zero_le _) (Nat.zero_le _) ?_
    exact E_iret dX10_count_55 rfl rfl ⟨by rw [cntD]; simp only [*, if_true, if_false, reduceIte, Int.reduceEq, reduceCtorEq], by rw [cntZ]; simp only [*, if_true, if_false, reduceIte, Int.reduceEq, reduceCtorEq]⟩
  by_cases c_1_2 : (w).toInt = 2
  · refine E_tableIn 56 dX10_count_1 (by omega) (by omega) (by rw [c_1_2]; rfl) (by decide) ?_
    refine E_aload_n dX10_count_56 rfl ?_
    refine E_getf 4 dX10_count_57 fl_X10_42 (by decide) (hg_3 _) rfl ?_
    refine E_V0 dX10_count_60 cv_X10_201 (by decide) (hg_22 _) rfl rfl (Nat.le_of_ble_eq_true rfl) (Nat.le_of_ble_eq_true rfl) (c_Tape_size z) (by decide) (Nat.zero_le _) (Nat.zero_le _) ?_
    exact E_iret dX10_count_63 rfl rfl ⟨by rw [cntD]; simp only [*, if_true, if_false, reduceIte, Int.reduceEq, reduceCtorEq], by rw [cntZ]; simp only [*, if_true, if_false, reduceIte, Int.reduceEq, reduceCtorEq]⟩
  by_cases c_1_3 : (w).toInt = 3
  · refine E_tableIn 64 dX10_count_1 (by omega) (by omega) (by rw [c_1_3]; rfl) (by decide) ?_
    refine E_aload_n dX10_count_64 rfl ?_
    refine E_getf 3 dX10_count_65 fl_X10_35 (by decide) (hg_3 _) rfl ?_
    refine E_V0 dX10_count_68 cv_X10_202 (by decide) (hg_18 _) rfl rfl (Nat.le_of_ble_eq_true rfl) (Nat.le_of_ble_eq_true rfl) (c_written z r hr hc) (by decide) (Nat.zero_le _) (Nat.zero_le _) ?_
    exact E_iret dX10_count_71 rfl rfl ⟨by rw [cntD]; simp only [*, if_true, if_false, reduceIte, Int.reduceEq, reduceCtorEq], by rw [cntZ]; simp only [*, if_true, if_false, reduceIte, Int.reduceEq, reduceCtorEq]⟩
  by_cases c_1_4 : (w).toInt = 4
  · refine E_tableIn 72 dX10_count_1 (by omega) (by omega) (by rw [c_1_4]; rfl) (by decide) ?_
    refine E_aload_n dX10_count_72 rfl ?_
    refine E_getf 6 dX10_count_73 fl_X10_58 (by decide) (hg_3 _) rfl ?_
    refine E_V0 dX10_count_76 cv_X10_163 (by decide) (hg_28 _) rfl rfl (Nat.le_of_ble_eq_true rfl) (Nat.le_of_ble_eq_true rfl) (c_seekForeseen h hr hc) (by decide) (Nat.zero_le _) (Nat.zero_le _) ?_
    refine E_aload_n dX10_count_79 rfl ?_
    refine E_getf 6 dX10_count_80 fl_X10_58 (by decide) (hg_3 _) rfl ?_
    refine E_V0 dX10_count_83 cv_X10_205 (by decide) (hg_28 _) rfl rfl (Nat.le_of_ble_eq_true rfl) (Nat.le_of_ble_eq_true rfl) (c_found (zsf z r n)) (by decide) (Nat.zero_le _) (Nat.zero_le _) ?_
    exact E_iret dX10_count_86 rfl rfl ⟨by rw [cntD]; simp only [*, if_true, if_false, reduceIte, Int.reduceEq, reduceCtorEq], by rw [cntZ]; simp only [*, if_true, if_false, reduceIte, Int.reduceEq, reduceCtorEq]⟩
  by_cases c_1_5 : (w).toInt = 5
  · refine E_tableIn 87 dX10_count_1 (by omega) (by omega) (by rw [c_1_5]; rfl) (by decide) ?_
    refine E_aload_n dX10_count_87 rfl ?_
    refine E_getf 6 dX10_count_88 fl_X10_58 (by decide) (hg_3 _) rfl ?_
    refine E_V0 dX10_count_91 cv_X10_169 (by decide) (hg_28 _) rfl rfl (Nat.le_of_ble_eq_true rfl) (Nat.le_of_ble_eq_true rfl) (c_seekOffered h hr hc) (by decide) (Nat.zero_le _) (Nat.zero_le _) ?_
    refine E_aload_n dX10_count_94 rfl ?_
    refine E_getf 6 dX10_count_95 fl_X10_58 (by decide) (hg_3 _) rfl ?_
    refine E_V0 dX10_count_98 cv_X10_205 (by decide) (hg_28 _) rfl rfl (Nat.le_of_ble_eq_true rfl) (Nat.le_of_ble_eq_true rfl) (c_found (zso z r n)) (by decide) (Nat.zero_le _) (Nat.zero_le _) ?_
    exact E_iret dX10_count_101 rfl rfl ⟨by rw [cntD]; simp only [*, if_true, if_false, reduceIte, Int.reduceEq, reduceCtorEq], by rw [cntZ]; simp only [*, if_true, if_false, reduceIte, Int.reduceEq, reduceCtorEq]⟩
  refine E_tableOut 102 dX10_count_1 (by omega) (by decide) ?_
  refine E_iconst (v := (-1)) dX10_count_102 rfl ?_
  exact E_iret dX10_count_103 rfl rfl ⟨by rw [cntD]; simp only [*, if_true, if_false, reduceIte, Int.reduceEq, reduceCtorEq], by rw [cntZ]; simp only [*, if_true, if_false, reduceIte, Int.reduceEq, reduceCtorEq]⟩
theorem c_part (z : Sg) (w : Int32) : EM mSheet_part 0 0 0 [.ref 18, .int w] (hp z) (Det (some (if w = 0 then .ref z.T else if w = 1 then va_rf z.S else .null)) (hp z)) := by
  cases hS : z.S with
  | none =>
    refine E_iload_n dX7_part_0 rfl ?_
    refine E_if_ne 9 dX7_part_1 (by decide) (fun c_1 => ?_) (fun c_1 => ?_)
    · refine E_iload_n dX7_part_9 rfl ?_
      refine E_iconst (v := 1) dX7_part_10 rfl ?_
      refine E_icmp_ne 21 dX7_part_11 (by decide) (fun c_11 => ?_) (fun c_11 => ?_)
      · refine E_null dX7_part_21 ?_
        exact E_aretN dX7_part_22 rfl (Or.inl ⟨_, rfl⟩) ⟨by first | rw [if_neg c_1, if_pos c_11]; rfl | rw [if_neg c_1, if_neg c_11], rfl⟩
      · refine E_aload_n dX7_part_14 rfl ?_
        refine E_getf 6 dX7_part_15 fl_X7_30 (by decide) (hg_18 _) rfl ?_
        rw [hS]
        refine E_goto 22 dX7_part_18 (by decide) ?_
        exact E_aretN dX7_part_22 rfl (Or.inl ⟨_, rfl⟩) ⟨by first | rw [if_neg c_1, if_pos c_11]; rfl | rw [if_neg c_1, if_neg c_11], rfl⟩
    · refine E_aload_n dX7_part_4 rfl ?_
      refine E_getf 5 dX7_part_5 fl_X7_27 (by decide) (hg_18 _) rfl ?_
      exact E_aret dX7_part_8 rfl (Or.inl ⟨_, rfl⟩) ⟨by rw [if_pos c_1], rfl⟩
  | some s =>
    refine E_iload_n dX7_part_0 rfl ?_
    refine E_if_ne 9 dX7_part_1 (by decide) (fun c_1 => ?_) (fun c_1 => ?_)
    · refine E_iload_n dX7_part_9 rfl ?_
      refine E_iconst (v := 1) dX7_part_10 rfl ?_
      refine E_icmp_ne 21 dX7_part_11 (by decide) (fun c_11 => ?_) (fun c_11 => ?_)
      · refine E_null dX7_part_21 ?_
        exact E_aretN dX7_part_22 rfl (Or.inl ⟨_, rfl⟩) ⟨by rw [if_neg c_1, if_neg c_11], rfl⟩
      · refine E_aload_n dX7_part_14 rfl ?_
        refine E_getf 6 dX7_part_15 fl_X7_30 (by decide) (hg_18 _) rfl ?_
        rw [hS]
        refine E_goto 22 dX7_part_18 (by decide) ?_
        exact E_aret dX7_part_22 rfl (Or.inl ⟨_, rfl⟩) ⟨by rw [if_neg c_1, if_pos c_11]; rfl, rfl⟩
    · refine E_aload_n dX7_part_4 rfl ?_
      refine E_getf 5 dX7_part_5 fl_X7_27 (by decide) (hg_18 _) rfl ?_
      exact E_aret dX7_part_8 rfl (Or.inl ⟨_, rfl⟩) ⟨by rw [if_pos c_1], rfl⟩
theorem c_length (z : Sg) {r : List Int32} (hc : ch z.D z.T r) (rs : List Int32) (hs : ∀ s, z.S = some s → ch z.D s rs) (w : Int32) : EM mDesk_length 1 0 0 [.ref 3, .int w] (hp z) (Det (some (.int (if w = 0 then nI r.length else if w = 1 then (if z.S = none then (-1) else nI rs.length) else (-1)))) (hp z)) := by
  obtain ⟨v0, x0, hcell⟩ := ch_cell hc
  have hpt := c_part z w
  by_cases h0 : w = 0
  · rw [if_pos h0] at hpt
    rw [if_pos h0]
    refine E_aload_n dX10_length_0 rfl ?_
    refine E_getf 3 dX10_length_1 fl_X10_35 (by decide) (hg_3 _) rfl ?_
    refine E_iload_n dX10_length_4 rfl ?_
    refine E_V1 dX10_length_5 cv_X10_132 (by decide) (hg_18 _) rfl rfl (Nat.le_of_ble_eq_true rfl) (Nat.le_of_ble_eq_true rfl) (hpt) (by decide) (Nat.zero_le _) (Nat.zero_le _) ?_
    refine E_astore_n dX10_length_8 (by decide) rfl ?_
    refine E_aload_n dX10_length_9 rfl ?_
    refine E_nonnull 17 dX10_length_10 (by decide) ?_
    refine E_aload_n dX10_length_17 rfl ?_
    refine E_getf 2 dX10_length_18 fl_X10_136 (ch_ge hc) hcell rfl ?_
    exact E_iret dX10_length_21 rfl rfl ⟨rfl, rfl⟩
  · rw [if_neg h0] at hpt
    rw [if_neg h0]
    by_cases h1 : w = 1
    · rw [if_pos h1] at hpt
      rw [if_pos h1]
      cases hS : z.S with
      | none =>
        rw [hS] at hpt
        refine E_aload_n dX10_length_0 rfl ?_
        refine E_getf 3 dX10_length_1 fl_X10_35 (by decide) (hg_3 _) rfl ?_
        refine E_iload_n dX10_length_4 rfl ?_
        refine E_V1 dX10_length_5 cv_X10_132 (by decide) (hg_18 _) rfl rfl (Nat.le_of_ble_eq_true rfl) (Nat.le_of_ble_eq_true rfl) (hpt) (by decide) (Nat.zero_le _) (Nat.zero_le _) ?_
        refine E_astore_nN dX10_length_8 (by decide) rfl ?_
        refine E_aload_nN dX10_length_9 rfl ?_
        refine E_nonnullN dX10_length_10 ?_
        refine E_iconst (v := (-1)) dX10_length_13 rfl ?_
        refine E_goto 21 dX10_length_14 (by decide) ?_
        exact E_iret dX10_length_21 rfl rfl ⟨rfl, rfl⟩
      | some s =>
        rw [hS] at hpt
        obtain ⟨v1, x1, hc1⟩ := ch_cell (hs s hS)
        refine E_aload_n dX10_length_0 rfl ?_
        refine E_getf 3 dX10_length_1 fl_X10_35 (by decide) (hg_3 _) rfl ?_
        refine E_iload_n dX10_length_4 rfl ?_
        refine E_V1 dX10_length_5 cv_X10_132 (by decide) (hg_18 _) rfl rfl (Nat.le_of_ble_eq_true rfl) (Nat.le_of_ble_eq_true rfl) (hpt) (by decide) (Nat.zero_le _) (Nat.zero_le _) ?_
        refine E_astore_n dX10_length_8 (by decide) rfl ?_
        refine E_aload_n dX10_length_9 rfl ?_
        refine E_nonnull 17 dX10_length_10 (by decide) ?_
        refine E_aload_n dX10_length_17 rfl ?_
        refine E_getf 2 dX10_length_18 fl_X10_136 (ch_ge (hs s hS)) hc1 rfl ?_
        exact E_iret dX10_length_21 rfl rfl ⟨rfl, rfl⟩
    · rw [if_neg h1] at hpt
      rw [if_neg h1]
      refine E_aload_n dX10_length_0 rfl ?_
      refine E_getf 3 dX10_length_1 fl_X10_35 (by decide) (hg_3 _) rfl ?_
      refine E_iload_n dX10_length_4 rfl ?_
      refine E_V1 dX10_length_5 cv_X10_132 (by decide) (hg_18 _) rfl rfl (Nat.le_of_ble_eq_true rfl) (Nat.le_of_ble_eq_true rfl) (hpt) (by decide) (Nat.zero_le _) (Nat.zero_le _) ?_
      refine E_astore_nN dX10_length_8 (by decide) rfl ?_
      refine E_aload_nN dX10_length_9 rfl ?_
      refine E_nonnullN dX10_length_10 ?_
      refine E_iconst (v := (-1)) dX10_length_13 rfl ?_
      refine E_goto 21 dX10_length_14 (by decide) ?_
      exact E_iret dX10_length_21 rfl rfl ⟨rfl, rfl⟩
