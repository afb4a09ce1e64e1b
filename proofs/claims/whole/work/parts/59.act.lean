/-! FORESEEN and OFFERED on the desk -/
theorem K_esh (w u : Int32) : ∀ (p : Nat) (z : Sg), (esh w u p z).2.2 = z.2.2
  | 0, z => rfl
  | p + 1, z => by
    rw [esh]
    split
    · rw [K_esh]; rfl
    · rfl
theorem K_enl (z : Sg) (w u : Int32) (f : Nat) : (enl z w u f).2.2 = z.2.2 := by
  unfold enl
  split
  · rw [K_esh]
  · rfl
theorem K_sfl (k : Nat) : ∀ (m W f : Nat) (z : Sg), (sfl k m W f z).2.2 = z.2.2
  | 0, _, _, _ => rfl
  | m + 1, W, f, z => by
    rw [sfl]
    split
    · rw [K_sfl, K_enl]
    · rw [K_sfl]
theorem K_sof (k : Nat) : ∀ (m W f : Nat) (z : Sg), (sof k m W f z).2.2 = z.2.2
  | 0, _, _, _ => rfl
  | m + 1, W, f, z => by
    rw [sof]
    split
    · rw [K_sof, K_enl]
    · rw [K_sof]
theorem K_rwZ (z : Sg) (r : List Int32) : (rwZ z r).2.2 = z.2.2 := by
  unfold rwZ
  split <;> rfl
theorem K_zsf (z : Sg) (r : List Int32) (n : Nat) : (zsf z r n).2.2 = z.2.2 := by
  unfold zsf
  rw [K_sfl, K_rwZ]
  rfl
theorem K_zso (z : Sg) (r : List Int32) (n : Nat) : (zso z r n).2.2 = z.2.2 := by
  unfold zso
  split
  · unfold zso1; rw [K_rwZ]; rfl
  · rw [K_sof]; unfold zso1; rw [K_rwZ]; rfl
theorem F_enl (z : Sg) (w u : Int32) (f : Nat) {i : Nat} (h : ¬ i = 28) (j : Nat) : (enl z w u f).F i j = z.F i j := by
  unfold enl
  split
  · rw [F_esh, F_stF, if_neg h]
  · rfl
theorem F_sfl (k : Nat) {i : Nat} (h : ¬ i = 28) (j : Nat) : ∀ (m W f : Nat) (z : Sg), (sfl k m W f z).F i j = z.F i j
  | 0, _, _, _ => rfl
  | m + 1, W, f, z => by
    rw [sfl]
    split
    · rw [F_sfl k h j, F_enl _ _ _ _ h]
    · rw [F_sfl k h j]
theorem F_sof (k : Nat) {i : Nat} (h : ¬ i = 28) (j : Nat) : ∀ (m W f : Nat) (z : Sg), (sof k m W f z).F i j = z.F i j
  | 0, _, _, _ => rfl
  | m + 1, W, f, z => by
    rw [sof]
    split
    · rw [F_sof k h j, F_enl _ _ _ _ h]
    · rw [F_sof k h j]
theorem F_zsf (z : Sg) (r : List Int32) (n : Nat) {i : Nat} (h : ¬ i = 28) (j : Nat) : (zsf z r n).F i j = z.F i j := by
  unfold zsf
  rw [F_sfl _ h, F_rwZ, F_stF, if_neg h]
theorem F_zso (z : Sg) (r : List Int32) (n : Nat) {i : Nat} (h : ¬ i = 28) (j : Nat) : (zso z r n).F i j = z.F i j := by
  unfold zso
  split
  · unfold zso1; rw [F_rwZ, F_stF, if_neg h]
  · rw [F_sof _ h]; unfold zso1; rw [F_rwZ, F_stF, if_neg h]
theorem A_enl (z : Sg) (w u : Int32) (f : Nat) {a : Nat} (h1 : ¬ a = 30) (h2 : ¬ a = 31) : (enl z w u f).A a = z.A a := by
  unfold enl
  split
  · rw [A_esh w u h1 h2]
  · rfl
theorem A_sfl (k : Nat) {a : Nat} (h1 : ¬ a = 30) (h2 : ¬ a = 31) : ∀ (m W f : Nat) (z : Sg), (sfl k m W f z).A a = z.A a
  | 0, _, _, _ => rfl
  | m + 1, W, f, z => by
    rw [sfl]
    split
    · rw [A_sfl k h1 h2, A_enl _ _ _ _ h1 h2]
    · rw [A_sfl k h1 h2]
theorem A_sof (k : Nat) {a : Nat} (h1 : ¬ a = 30) (h2 : ¬ a = 31) : ∀ (m W f : Nat) (z : Sg), (sof k m W f z).A a = z.A a
  | 0, _, _, _ => rfl
  | m + 1, W, f, z => by
    rw [sof]
    split
    · rw [A_sof k h1 h2, A_enl _ _ _ _ h1 h2]
    · rw [A_sof k h1 h2]
theorem A_rwZ (z : Sg) (r : List Int32) {a : Nat} (h : ¬ a = 29) : (rwZ z r).A a = z.A a := by
  unfold rwZ
  split
  · unfold cpl; rw [A_stA, if_neg h]
  · rfl
theorem A_zsf (z : Sg) (r : List Int32) (n : Nat) {a : Nat} (h : ¬ a = 29) (h1 : ¬ a = 30) (h2 : ¬ a = 31) : (zsf z r n).A a = z.A a := by
  unfold zsf
  rw [A_sfl _ h1 h2, A_rwZ _ _ h]
  rfl
theorem A_zso (z : Sg) (r : List Int32) (n : Nat) {a : Nat} (h : ¬ a = 29) (h1 : ¬ a = 30) (h2 : ¬ a = 31) : (zso z r n).A a = z.A a := by
  unfold zso
  split
  · unfold zso1; rw [A_rwZ _ _ h]; rfl
  · rw [A_sof _ h1 h2]; unfold zso1; rw [A_rwZ _ _ h]; rfl
theorem nl_m1 {s : Int32} : ¬ ltN (-1) s := fun h => by
  have := h.1
  simp only [Int32.reduceToInt] at this
  omega
section DAct2
variable {z : Sg} {n x N o k : Nat} {r : List Int32}
theorem K4 (z : Sg) (r : List Int32) (N : Nat) : (zsf z r N).T = z.T ∧ (zsf z r N).S = z.S ∧ (zsf z r N).D = z.D := by
  have h := K_zsf z r N
  exact ⟨congrArg (fun q => q.2.1.1) h, congrArg (fun q => q.2.1.2) h, congrArg (fun q => q.2.2.2.2) h⟩
theorem c_act4_none (hF : z.F 6 10 = nI n) (hn : n ≤ 60) (hx : x < n) (hkd : z.A 7 x = 4) (ht : ch z.D z.T r) (hl : r.length ≤ 200) (hb : bkOK z N) (hw : fat (zsf z r N) (z.A 8 x) = -1) : EM mDesk_act 6 13 39 [.ref 3, .int (nI x)] (hp z) (Det none (hp (zsf z r N))) := by
  have hs : (z.F 6 10).toInt ≤ 60 := by rw [hF, nI_toInt (by omega)]; omega
  have hv := c_valueOf z hs (nI x)
  rw [tg_at hF hn hx] at hv
  have hk := c_kindOf z hs (nI x)
  rw [tg_at hF hn hx, hkd] at hk
  have hfa := c_foundAt (zsf z r N) (zsf_le hb.2.1 r) (z.A 8 x)
  rw [show (if ltN (z.A 8 x) ((zsf z r N).F 28 6) then (zsf z r N).A 30 (z.A 8 x).toNatClampNeg else (-1)) = -1 from hw] at hfa
  obtain ⟨hT, hS, hD⟩ := K4 z r N
  have hb1 : bkOK (zsf z r N) N := ⟨by rw [F_zsf _ _ _ (by decide)]; exact hb.1, hb.2.1, fun W hW => by rw [A_zsf _ _ _ (by decide) (by decide) (by decide)]; exact hb.2.2 W hW⟩
  have hcm := c_complete_none hb1 (r := r) (by rw [hT, hD]; exact ht) hl (-1) 1 nl_m1
  refine E_aload_n dX10_act_0 rfl ?_
  refine E_getf 1 dX10_act_1 fl_X10_19 (by decide) (hg_3 _) rfl ?_
  refine E_iload_n dX10_act_4 rfl ?_
  refine E_V1 dX10_act_5 cv_X10_96 (by decide) (hg_6 _) rfl rfl (Nat.le_of_ble_eq_true rfl) (Nat.le_of_ble_eq_true rfl) (hv) (by decide) (Nat.zero_le _) (Nat.zero_le _) ?_
  refine E_istore_n dX10_act_8 (by decide) rfl ?_
  refine E_aload_n dX10_act_9 rfl ?_
  refine E_getf 1 dX10_act_10 fl_X10_19 (by decide) (hg_3 _) rfl ?_
  refine E_iload_n dX10_act_13 rfl ?_
  refine E_V1 dX10_act_14 cv_X10_92 (by decide) (hg_6 _) rfl rfl (Nat.le_of_ble_eq_true rfl) (Nat.le_of_ble_eq_true rfl) (hk) (by decide) (Nat.zero_le _) (Nat.zero_le _) ?_
  refine E_tableIn 97 dX10_act_17 (by decide) (by decide) (by rfl) (by decide) ?_
  skip
  refine E_aload_n dX10_act_97 rfl ?_
  refine E_getf 6 dX10_act_98 fl_X10_58 (by decide) (hg_3 _) rfl ?_
  refine E_V0 dX10_act_101 cv_X10_163 (by decide) (hg_28 _) rfl rfl (Nat.le_of_ble_eq_true rfl) (Nat.le_of_ble_eq_true rfl) (c_seekForeseen hb hl ht) (by decide) (Nat.zero_le _) (Nat.zero_le _) ?_
  refine E_aload_n dX10_act_104 rfl ?_
  refine E_getf 3 dX10_act_105 fl_X10_35 (by decide) (hg_3 _) rfl ?_
  refine E_aload_n dX10_act_108 rfl ?_
  refine E_getf 5 dX10_act_109 fl_X10_49 (by decide) (hg_3 _) rfl ?_
  refine E_aload_n dX10_act_112 rfl ?_
  refine E_getf 6 dX10_act_113 fl_X10_58 (by decide) (hg_3 _) rfl ?_
  refine E_iload_n dX10_act_116 rfl ?_
  refine E_V1 dX10_act_117 cv_X10_166 (by decide) (hg_28 _) rfl rfl (Nat.le_of_ble_eq_true rfl) (Nat.le_of_ble_eq_true rfl) (hfa) (by decide) (Nat.zero_le _) (Nat.zero_le _) ?_
  refine E_iconst (v := 1) dX10_act_120 rfl ?_
  refine E_V3 dX10_act_121 cv_X10_223 (by decide) (hg_18 _) rfl rfl (Nat.le_of_ble_eq_true rfl) (Nat.le_of_ble_eq_true rfl) (hcm) (by decide) (by decide) (by decide) ?_
  refine E_goto 157 dX10_act_124 (by decide) ?_
  exact E_vret dX10_act_157 rfl ⟨rfl, rfl⟩
theorem c_act4_some (hF : z.F 6 10 = nI n) (hn : n ≤ 60) (hx : x < n) (hkd : z.A 7 x = 4) (hr : ring z o k) (ht : ch z.D z.T r) (hl : r.length ≤ 200) (hs2 : ∀ s, z.S = some s → ∃ rs, ch z.D s rs) (hb : bkOK z N) {W L : Nat} (hW : W < N) (hL : z.A 26 W = nI L) (hL2 : L ≤ 12) (hw : fat (zsf z r N) (z.A 8 x) = nI W) : ∃ c', ch z.D c' (r.drop (wr r)) ∧ EM mDesk_act 6 13 39 [.ref 3, .int (nI x)] (hp z) (Det none (hp (if cmOK true L r.length (wr r) then cpE true (pcw L 0 (r.length - wr r) W (stT (kp (zsf z r N) o k) c')) (r.length - wr r + L) else zsf z r N))) := by
  have hs : (z.F 6 10).toInt ≤ 60 := by rw [hF, nI_toInt (by omega)]; omega
  have hv := c_valueOf z hs (nI x)
  rw [tg_at hF hn hx] at hv
  have hk := c_kindOf z hs (nI x)
  rw [tg_at hF hn hx, hkd] at hk
  have hfa := c_foundAt (zsf z r N) (zsf_le hb.2.1 r) (z.A 8 x)
  rw [show (if ltN (z.A 8 x) ((zsf z r N).F 28 6) then (zsf z r N).A 30 (z.A 8 x).toNatClampNeg else (-1)) = nI W from hw] at hfa
  obtain ⟨hT, hS, hD⟩ := K4 z r N
  have hb1 : bkOK (zsf z r N) N := ⟨by rw [F_zsf _ _ _ (by decide)]; exact hb.1, hb.2.1, fun W hW => by rw [A_zsf _ _ _ (by decide) (by decide) (by decide)]; exact hb.2.2 W hW⟩
  have hr1 : ring (zsf z r N) o k := ⟨by rw [F_zsf _ _ _ (by decide)]; exact hr.1, hr.2.1, by rw [F_zsf _ _ _ (by decide)]; exact hr.2.2.1, hr.2.2.2⟩
  obtain ⟨c', hc', hcm⟩ := c_complete hr1 (r := r) (by rw [hT, hD]; exact ht) hl (by rw [hS, hD]; exact hs2) hb1 hW (by rw [A_zsf _ _ _ (by decide) (by decide) (by decide)]; exact hL) hL2 true
  rw [hD] at hc'
  refine ⟨c', hc', ?_⟩
  refine E_aload_n dX10_act_0 rfl ?_
  refine E_getf 1 dX10_act_1 fl_X10_19 (by decide) (hg_3 _) rfl ?_
  refine E_iload_n dX10_act_4 rfl ?_
  refine E_V1 dX10_act_5 cv_X10_96 (by decide) (hg_6 _) rfl rfl (Nat.le_of_ble_eq_true rfl) (Nat.le_of_ble_eq_true rfl) (hv) (by decide) (Nat.zero_le _) (Nat.zero_le _) ?_
  refine E_istore_n dX10_act_8 (by decide) rfl ?_
  refine E_aload_n dX10_act_9 rfl ?_
  refine E_getf 1 dX10_act_10 fl_X10_19 (by decide) (hg_3 _) rfl ?_
  refine E_iload_n dX10_act_13 rfl ?_
  refine E_V1 dX10_act_14 cv_X10_92 (by decide) (hg_6 _) rfl rfl (Nat.le_of_ble_eq_true rfl) (Nat.le_of_ble_eq_true rfl) (hk) (by decide) (Nat.zero_le _) (Nat.zero_le _) ?_
  refine E_tableIn 97 dX10_act_17 (by decide) (by decide) (by rfl) (by decide) ?_
  skip
  refine E_aload_n dX10_act_97 rfl ?_
  refine E_getf 6 dX10_act_98 fl_X10_58 (by decide) (hg_3 _) rfl ?_
  refine E_V0 dX10_act_101 cv_X10_163 (by decide) (hg_28 _) rfl rfl (Nat.le_of_ble_eq_true rfl) (Nat.le_of_ble_eq_true rfl) (c_seekForeseen hb hl ht) (by decide) (Nat.zero_le _) (Nat.zero_le _) ?_
  refine E_aload_n dX10_act_104 rfl ?_
  refine E_getf 3 dX10_act_105 fl_X10_35 (by decide) (hg_3 _) rfl ?_
  refine E_aload_n dX10_act_108 rfl ?_
  refine E_getf 5 dX10_act_109 fl_X10_49 (by decide) (hg_3 _) rfl ?_
  refine E_aload_n dX10_act_112 rfl ?_
  refine E_getf 6 dX10_act_113 fl_X10_58 (by decide) (hg_3 _) rfl ?_
  refine E_iload_n dX10_act_116 rfl ?_
  refine E_V1 dX10_act_117 cv_X10_166 (by decide) (hg_28 _) rfl rfl (Nat.le_of_ble_eq_true rfl) (Nat.le_of_ble_eq_true rfl) (hfa) (by decide) (Nat.zero_le _) (Nat.zero_le _) ?_
  refine E_iconst (v := 1) dX10_act_120 rfl ?_
  refine E_V3 dX10_act_121 cv_X10_223 (by decide) (hg_18 _) rfl rfl (Nat.le_of_ble_eq_true rfl) (Nat.le_of_ble_eq_true rfl) (hcm) (by decide) (by decide) (by decide) ?_
  refine E_goto 157 dX10_act_124 (by decide) ?_
  exact E_vret dX10_act_157 rfl ⟨rfl, rfl⟩
theorem K6 (z : Sg) (r : List Int32) (N : Nat) : (zso z r N).T = z.T ∧ (zso z r N).S = z.S ∧ (zso z r N).D = z.D := by
  have h := K_zso z r N
  exact ⟨congrArg (fun q => q.2.1.1) h, congrArg (fun q => q.2.1.2) h, congrArg (fun q => q.2.2.2.2) h⟩
theorem c_act6_none (hF : z.F 6 10 = nI n) (hn : n ≤ 60) (hx : x < n) (hkd : z.A 7 x = 6) (ht : ch z.D z.T r) (hl : r.length ≤ 200) (hb : bkOK z N) (hw : fat (zso z r N) (z.A 8 x) = -1) : EM mDesk_act 6 13 39 [.ref 3, .int (nI x)] (hp z) (Det none (hp (zso z r N))) := by
  have hs : (z.F 6 10).toInt ≤ 60 := by rw [hF, nI_toInt (by omega)]; omega
  have hv := c_valueOf z hs (nI x)
  rw [tg_at hF hn hx] at hv
  have hk := c_kindOf z hs (nI x)
  rw [tg_at hF hn hx, hkd] at hk
  have hfa := c_foundAt (zso z r N) (zso_le hb.2.1 r) (z.A 8 x)
  rw [show (if ltN (z.A 8 x) ((zso z r N).F 28 6) then (zso z r N).A 30 (z.A 8 x).toNatClampNeg else (-1)) = -1 from hw] at hfa
  obtain ⟨hT, hS, hD⟩ := K6 z r N
  have hb1 : bkOK (zso z r N) N := ⟨by rw [F_zso _ _ _ (by decide)]; exact hb.1, hb.2.1, fun W hW => by rw [A_zso _ _ _ (by decide) (by decide) (by decide)]; exact hb.2.2 W hW⟩
  have hcm := c_complete_none hb1 (r := r) (by rw [hT, hD]; exact ht) hl (-1) 0 nl_m1
  refine E_aload_n dX10_act_0 rfl ?_
  refine E_getf 1 dX10_act_1 fl_X10_19 (by decide) (hg_3 _) rfl ?_
  refine E_iload_n dX10_act_4 rfl ?_
  refine E_V1 dX10_act_5 cv_X10_96 (by decide) (hg_6 _) rfl rfl (Nat.le_of_ble_eq_true rfl) (Nat.le_of_ble_eq_true rfl) (hv) (by decide) (Nat.zero_le _) (Nat.zero_le _) ?_
  refine E_istore_n dX10_act_8 (by decide) rfl ?_
  refine E_aload_n dX10_act_9 rfl ?_
  refine E_getf 1 dX10_act_10 fl_X10_19 (by decide) (hg_3 _) rfl ?_
  refine E_iload_n dX10_act_13 rfl ?_
  refine E_V1 dX10_act_14 cv_X10_92 (by decide) (hg_6 _) rfl rfl (Nat.le_of_ble_eq_true rfl) (Nat.le_of_ble_eq_true rfl) (hk) (by decide) (Nat.zero_le _) (Nat.zero_le _) ?_
  refine E_tableIn 127 dX10_act_17 (by decide) (by decide) (by rfl) (by decide) ?_
  skip
  refine E_aload_n dX10_act_127 rfl ?_
  refine E_getf 6 dX10_act_128 fl_X10_58 (by decide) (hg_3 _) rfl ?_
  refine E_V0 dX10_act_131 cv_X10_169 (by decide) (hg_28 _) rfl rfl (Nat.le_of_ble_eq_true rfl) (Nat.le_of_ble_eq_true rfl) (c_seekOffered hb hl ht) (by decide) (Nat.zero_le _) (Nat.zero_le _) ?_
  refine E_aload_n dX10_act_134 rfl ?_
  refine E_getf 3 dX10_act_135 fl_X10_35 (by decide) (hg_3 _) rfl ?_
  refine E_aload_n dX10_act_138 rfl ?_
  refine E_getf 5 dX10_act_139 fl_X10_49 (by decide) (hg_3 _) rfl ?_
  refine E_aload_n dX10_act_142 rfl ?_
  refine E_getf 6 dX10_act_143 fl_X10_58 (by decide) (hg_3 _) rfl ?_
  refine E_iload_n dX10_act_146 rfl ?_
  refine E_V1 dX10_act_147 cv_X10_166 (by decide) (hg_28 _) rfl rfl (Nat.le_of_ble_eq_true rfl) (Nat.le_of_ble_eq_true rfl) (hfa) (by decide) (Nat.zero_le _) (Nat.zero_le _) ?_
  refine E_iconst (v := 0) dX10_act_150 rfl ?_
  refine E_V3 dX10_act_151 cv_X10_223 (by decide) (hg_18 _) rfl rfl (Nat.le_of_ble_eq_true rfl) (Nat.le_of_ble_eq_true rfl) (hcm) (by decide) (by decide) (by decide) ?_
  refine E_goto 157 dX10_act_154 (by decide) ?_
  exact E_vret dX10_act_157 rfl ⟨rfl, rfl⟩
theorem c_act6_some (hF : z.F 6 10 = nI n) (hn : n ≤ 60) (hx : x < n) (hkd : z.A 7 x = 6) (hr : ring z o k) (ht : ch z.D z.T r) (hl : r.length ≤ 200) (hs2 : ∀ s, z.S = some s → ∃ rs, ch z.D s rs) (hb : bkOK z N) {W L : Nat} (hW : W < N) (hL : z.A 26 W = nI L) (hL2 : L ≤ 12) (hw : fat (zso z r N) (z.A 8 x) = nI W) : ∃ c', ch z.D c' (r.drop (wr r)) ∧ EM mDesk_act 6 13 39 [.ref 3, .int (nI x)] (hp z) (Det none (hp (if cmOK false L r.length (wr r) then cpE false (pcw L 0 (r.length - wr r) W (stT (kp (zso z r N) o k) c')) (r.length - wr r + L) else zso z r N))) := by
  have hs : (z.F 6 10).toInt ≤ 60 := by rw [hF, nI_toInt (by omega)]; omega
  have hv := c_valueOf z hs (nI x)
  rw [tg_at hF hn hx] at hv
  have hk := c_kindOf z hs (nI x)
  rw [tg_at hF hn hx, hkd] at hk
  have hfa := c_foundAt (zso z r N) (zso_le hb.2.1 r) (z.A 8 x)
  rw [show (if ltN (z.A 8 x) ((zso z r N).F 28 6) then (zso z r N).A 30 (z.A 8 x).toNatClampNeg else (-1)) = nI W from hw] at hfa
  obtain ⟨hT, hS, hD⟩ := K6 z r N
  have hb1 : bkOK (zso z r N) N := ⟨by rw [F_zso _ _ _ (by decide)]; exact hb.1, hb.2.1, fun W hW => by rw [A_zso _ _ _ (by decide) (by decide) (by decide)]; exact hb.2.2 W hW⟩
  have hr1 : ring (zso z r N) o k := ⟨by rw [F_zso _ _ _ (by decide)]; exact hr.1, hr.2.1, by rw [F_zso _ _ _ (by decide)]; exact hr.2.2.1, hr.2.2.2⟩
  obtain ⟨c', hc', hcm⟩ := c_complete hr1 (r := r) (by rw [hT, hD]; exact ht) hl (by rw [hS, hD]; exact hs2) hb1 hW (by rw [A_zso _ _ _ (by decide) (by decide) (by decide)]; exact hL) hL2 false
  rw [hD] at hc'
  refine ⟨c', hc', ?_⟩
  refine E_aload_n dX10_act_0 rfl ?_
  refine E_getf 1 dX10_act_1 fl_X10_19 (by decide) (hg_3 _) rfl ?_
  refine E_iload_n dX10_act_4 rfl ?_
  refine E_V1 dX10_act_5 cv_X10_96 (by decide) (hg_6 _) rfl rfl (Nat.le_of_ble_eq_true rfl) (Nat.le_of_ble_eq_true rfl) (hv) (by decide) (Nat.zero_le _) (Nat.zero_le _) ?_
  refine E_istore_n dX10_act_8 (by decide) rfl ?_
  refine E_aload_n dX10_act_9 rfl ?_
  refine E_getf 1 dX10_act_10 fl_X10_19 (by decide) (hg_3 _) rfl ?_
  refine E_iload_n dX10_act_13 rfl ?_
  refine E_V1 dX10_act_14 cv_X10_92 (by decide) (hg_6 _) rfl rfl (Nat.le_of_ble_eq_true rfl) (Nat.le_of_ble_eq_true rfl) (hk) (by decide) (Nat.zero_le _) (Nat.zero_le _) ?_
  refine E_tableIn 127 dX10_act_17 (by decide) (by decide) (by rfl) (by decide) ?_
  skip
  refine E_aload_n dX10_act_127 rfl ?_
  refine E_getf 6 dX10_act_128 fl_X10_58 (by decide) (hg_3 _) rfl ?_
  refine E_V0 dX10_act_131 cv_X10_169 (by decide) (hg_28 _) rfl rfl (Nat.le_of_ble_eq_true rfl) (Nat.le_of_ble_eq_true rfl) (c_seekOffered hb hl ht) (by decide) (Nat.zero_le _) (Nat.zero_le _) ?_
  refine E_aload_n dX10_act_134 rfl ?_
  refine E_getf 3 dX10_act_135 fl_X10_35 (by decide) (hg_3 _) rfl ?_
  refine E_aload_n dX10_act_138 rfl ?_
  refine E_getf 5 dX10_act_139 fl_X10_49 (by decide) (hg_3 _) rfl ?_
  refine E_aload_n dX10_act_142 rfl ?_
  refine E_getf 6 dX10_act_143 fl_X10_58 (by decide) (hg_3 _) rfl ?_
  refine E_iload_n dX10_act_146 rfl ?_
  refine E_V1 dX10_act_147 cv_X10_166 (by decide) (hg_28 _) rfl rfl (Nat.le_of_ble_eq_true rfl) (Nat.le_of_ble_eq_true rfl) (hfa) (by decide) (Nat.zero_le _) (Nat.zero_le _) ?_
  refine E_iconst (v := 0) dX10_act_150 rfl ?_
  refine E_V3 dX10_act_151 cv_X10_223 (by decide) (hg_18 _) rfl rfl (Nat.le_of_ble_eq_true rfl) (Nat.le_of_ble_eq_true rfl) (hcm) (by decide) (by decide) (by decide) ?_
  refine E_goto 157 dX10_act_154 (by decide) ?_
  exact E_vret dX10_act_157 rfl ⟨rfl, rfl⟩
end DAct2
