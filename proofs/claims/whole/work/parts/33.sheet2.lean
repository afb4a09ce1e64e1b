/-! THE SHEET, on: write, dropLast, speak, complete, part; length -/
theorem D_kp (z : Sg) (o k : Nat) : (kp z o k).D = z.D := by
  unfold kp
  split <;> rfl
theorem T_kp (z : Sg) (o k : Nat) : (kp z o k).T = z.T := by
  unfold kp
  split <;> rfl
theorem S_kp (z : Sg) (o k : Nat) : (kp z o k).S = z.S := by
  unfold kp
  split <;> rfl
theorem A_kp (z : Sg) (o k : Nat) : (kp z o k).A = z.A := by
  unfold kp
  split <;> rfl
theorem L_kp (z : Sg) (o k : Nat) : (kp z o k).L = z.L := by
  unfold kp
  split <;> rfl
theorem X_kp (z : Sg) (o k : Nat) : (kp z o k).X = z.X := by
  unfold kp
  split <;> rfl
theorem F_kp (z : Sg) (o k : Nat) {i : Nat} (h : ¬ i = 18) (j : Nat) : (kp z o k).F i j = z.F i j := by
  unfold kp
  split
  · rw [F_stF, if_neg h]; rfl
  · rw [F_stF, if_neg h]; rfl
theorem ch_cellD {w : HP} {r : List Int32} {b : Nat} (h : ch w b r) : ∃ v x, ∀ (z : Sg) (c : PCell), (hp (stD z (w ++ [c])))[b]? = some (.inr (1, [v, .int x, .int (nI r.length)])) := by
  cases r with
  | nil =>
    rw [show b = 19 from h]
    exact ⟨.null, 0, fun z c => hg_19 _⟩
  | cons x r =>
    obtain ⟨b', i, h1, h2, -⟩ := h
    refine ⟨.ref b', x, fun z c => ?_⟩
    rw [h1, hp_dyn, D_stD, List.getElem?_append_left (List.getElem?_eq_some_iff.mp h2).1]
    exact h2
/-- one byte more: the text is a new chain of n bytes -/
def pch (z : Sg) (x : Int32) (n : Nat) : Sg := stT (stD z (z.D ++ [.inr (1, [.ref z.T, .int x, .int (nI n)])])) (64 + z.D.length)
theorem ch_pch {z : Sg} {r : List Int32} (x : Int32) (h : ch z.D z.T r) : ch (pch z x (r.length + 1)).D (pch z x (r.length + 1)).T (x :: r) :=
  ⟨z.T, z.D.length, rfl, by show (z.D ++ [_])[z.D.length]? = _; simp, ch_mono _ h⟩
theorem fs_chain : ∀ j, j < 3 → ([.null, .int 0, .int 0] : List Value)[j]? = some (defaultValue (tyX1 j)) := by
  intro j hj
  match j, hj with
  | 0, _ => rfl
  | 1, _ => rfl
  | 2, _ => rfl
theorem c_write (z : Sg) {o k : Nat} (hr : ring z o k) {r : List Int32} (ht : ch z.D z.T r) (hl : r.length ≤ 200) (hs : ∀ s, z.S = some s → ∃ rs, ch z.D s rs) (x : Int32) : EM mSheet_write 2 1 3 [.ref 18, .int x] (hp z) (Det none (hp (if r.length < 200 then pch (kp z o k) x (r.length + 1) else z))) := by
  obtain ⟨v0, x0, hcell⟩ := ch_cell ht
  obtain ⟨v1, x1, hcD⟩ := ch_cellD ht
  by_cases hlt : r.length < 200
  · rw [if_pos hlt]
    refine E_aload_n dX7_write_0 rfl ?_
    refine E_getf 5 dX7_write_1 fl_X7_27 (by decide) (hg_18 _) rfl ?_
    refine E_getf 2 dX7_write_4 fl_X7_47 (ch_ge ht) hcell rfl ?_
    refine E_sipush (v := 200) dX7_write_7 rfl ?_
    refine E_icmp_ge 33 dX7_write_10 (by decide) (fun c_10 => ?_) (fun c_10 => ?_)
    · exact absurd c_10 (nI_ge (b := 200) hlt (by omega))
    · refine E_aload_n dX7_write_13 rfl ?_
      refine E_V0 dX7_write_14 cv_X7_50 (by decide) (hg_18 _) rfl rfl (Nat.le_of_ble_eq_true rfl) (Nat.le_of_ble_eq_true rfl) (c_keep z hr ht hs) (by decide) (Nat.zero_le _) (Nat.zero_le _) ?_
      have hD := D_kp z o k
      have hT := T_kp z o k
      generalize kp z o k = z1 at hD hT ⊢
      refine E_aload_n dX7_write_17 rfl ?_
      refine E_new dX7_write_18 nw_X7_9 (fs := [.null, .int 0, .int 0]) fs_chain (by decide) (by decide) ?_
      rw [hp_push, hp_len]
      refine E_dup dX7_write_21 rfl ?_
      refine E_aload_n dX7_write_22 rfl ?_
      refine E_getf 5 dX7_write_23 fl_X7_27 (by decide) (hg_18 _) rfl ?_
      refine E_iload_n dX7_write_26 rfl ?_
      refine E_I2 dX7_write_27 ci_X7_11 (Nat.le_of_ble_eq_true rfl) (Nat.le_of_ble_eq_true rfl) (c_Chain_init z1 z1.D z1.T x (nI r.length) v1 (.int x1) (by rw [hT]; exact ch_ge ht) (fun c => by rw [hT, hD]; exact hcD z1 c)) (by decide) (Nat.zero_le _) (Nat.zero_le _) ?_
      rw [nI_1]
      refine E_put 5 dX7_write_30 fp_X7_27 (fitsV_obj _ _) (by decide) (hg_18 _) (Nat.le_of_ble_eq_true rfl) ?_
      rw [hs_18_5]
      exact E_vret dX7_write_33 rfl ⟨rfl, rfl⟩
  · rw [if_neg hlt]
    refine E_aload_n dX7_write_0 rfl ?_
    refine E_getf 5 dX7_write_1 fl_X7_27 (by decide) (hg_18 _) rfl ?_
    refine E_getf 2 dX7_write_4 fl_X7_47 (ch_ge ht) hcell rfl ?_
    refine E_sipush (v := 200) dX7_write_7 rfl ?_
    refine E_icmp_ge 33 dX7_write_10 (by decide) (fun c_10 => ?_) (fun c_10 => ?_)
    · exact E_vret dX7_write_33 rfl ⟨rfl, rfl⟩
    · exact absurd (nI_le (a := 200) (by omega) (by omega)) c_10
theorem c_dropLast (z : Sg) {o k : Nat} (hr : ring z o k) {r : List Int32} (ht : ch z.D z.T r) (hl : r.length ≤ 200) (hs : ∀ s, z.S = some s → ∃ rs, ch z.D s rs) : ∃ c', ch z.D c' (r.drop 1) ∧ EM mSheet_dropLast 1 0 0 [.ref 18] (hp z) (Det none (hp (if 0 < r.length then stT (kp z o k) c' else z))) := by
  obtain ⟨v0, x0, hcell⟩ := ch_cell ht
  have hD := D_kp z o k
  have hT := T_kp z o k
  obtain ⟨c', h1, h2⟩ := c_without (kp z o k) 1 (by decide) z.T r (by rw [hD]; exact ht)
  obtain ⟨v1, x1, hcell1⟩ := ch_cell (z := kp z o k) (show ch (kp z o k).D z.T r by rw [hD]; exact ht)
  refine ⟨c', by rw [← hD]; exact h1, ?_⟩
  by_cases hlt : 0 < r.length
  · rw [if_pos hlt]
    refine E_aload_n dX7_dropLast_0 rfl ?_
    refine E_getf 5 dX7_dropLast_1 fl_X7_27 (by decide) (hg_18 _) rfl ?_
    refine E_getf 2 dX7_dropLast_4 fl_X7_47 (ch_ge ht) hcell rfl ?_
    refine E_if_le 26 dX7_dropLast_7 (by decide) (fun c_7 => ?_) (fun c_7 => ?_)
    · exact absurd c_7 (nI_nle hlt (by omega))
    · refine E_aload_n dX7_dropLast_10 rfl ?_
      refine E_V0 dX7_dropLast_11 cv_X7_50 (by decide) (hg_18 _) rfl rfl (Nat.le_of_ble_eq_true rfl) (Nat.le_of_ble_eq_true rfl) (c_keep z hr ht hs) (by decide) (Nat.zero_le _) (Nat.zero_le _) ?_
      refine E_aload_n dX7_dropLast_14 rfl ?_
      refine E_aload_n dX7_dropLast_15 rfl ?_
      refine E_getf 5 dX7_dropLast_16 fl_X7_27 (by decide) (hg_18 _) rfl ?_
      rw [hT]
      refine E_iconst (v := 1) dX7_dropLast_19 rfl ?_
      refine E_V1 dX7_dropLast_20 cv_X7_53 (ch_ge ht) hcell1 rfl rfl (Nat.le_of_ble_eq_true rfl) (Nat.le_of_ble_eq_true rfl) (h2) (by decide) (Nat.zero_le _) (Nat.zero_le _) ?_
      refine E_put 5 dX7_dropLast_23 fp_X7_27 (fitsV_obj _ _) (by decide) (hg_18 _) (Nat.le_of_ble_eq_true rfl) ?_
      rw [hs_18_5]
      exact E_vret dX7_dropLast_26 rfl ⟨rfl, rfl⟩
  · rw [if_neg hlt]
    refine E_aload_n dX7_dropLast_0 rfl ?_
    refine E_getf 5 dX7_dropLast_1 fl_X7_27 (by decide) (hg_18 _) rfl ?_
    refine E_getf 2 dX7_dropLast_4 fl_X7_47 (ch_ge ht) hcell rfl ?_
    rw [show r.length = 0 by omega]
    refine E_if_le 26 dX7_dropLast_7 (by decide) (fun c_7 => ?_) (fun c_7 => ?_)
    · exact E_vret dX7_dropLast_26 rfl ⟨rfl, rfl⟩
    · exact absurd (by decide) c_7
def spOK (z : Sg) (n : Nat) (m : Nat) : Prop := 0 < n ∨ z.S = none ∨ 0 < m
theorem c_speak (z : Sg) {o k : Nat} (hr : ring z o k) {r : List Int32} (ht : ch z.D z.T r) (hl : r.length ≤ 200) (rs : List Int32) (hrs : rs.length ≤ 200) (hs : ∀ s, z.S = some s → ch z.D s rs) : EM mSheet_speak 1 0 0 [.ref 18] (hp z) (Det none (hp (if 0 < r.length ∨ z.S = none ∨ 0 < rs.length then stT (stS (kp z o k) (some z.T)) 19 else z))) := by
  obtain ⟨v0, x0, hcell⟩ := ch_cell ht
  have hs2 : ∀ s, z.S = some s → ∃ rs, ch z.D s rs := fun s e => ⟨rs, hs s e⟩
  have hT := T_kp z o k
  have go : E mSheet_speak 1 0 0 27 [(0, .ref 18)] [] (hp z) (Det none (hp (stT (stS (kp z o k) (some z.T)) 19))) := by
    refine E_aload_n dX7_speak_27 rfl ?_
    refine E_V0 dX7_speak_28 cv_X7_50 (by decide) (hg_18 _) rfl rfl (Nat.le_of_ble_eq_true rfl) (Nat.le_of_ble_eq_true rfl) (c_keep z hr ht hs2) (by decide) (Nat.zero_le _) (Nat.zero_le _) ?_
    refine E_aload_n dX7_speak_31 rfl ?_
    refine E_aload_n dX7_speak_32 rfl ?_
    refine E_getf 5 dX7_speak_33 fl_X7_27 (by decide) (hg_18 _) rfl ?_
    rw [hT]
    refine E_put 6 dX7_speak_36 fp_X7_30 (fitsV_obj _ _) (by decide) (hg_18 _) (Nat.le_of_ble_eq_true rfl) ?_
    refine (show E mSheet_speak 1 0 0 39 [(0, .ref 18)] [] (hp (stS (kp z o k) (some z.T))) _ from ?_)
    refine E_aload_n dX7_speak_39 rfl ?_
    refine E_aload_n dX7_speak_40 rfl ?_
    refine E_getf 0 dX7_speak_41 fl_X7_14 (by decide) (hg_18 _) rfl ?_
    refine E_put 5 dX7_speak_44 fp_X7_27 (fitsV_obj _ _) (by decide) (hg_18 _) (Nat.le_of_ble_eq_true rfl) ?_
    rw [hs_18_5]
    exact E_vret dX7_speak_47 rfl ⟨rfl, rfl⟩
  by_cases hlt : 0 < r.length
  · rw [if_pos (Or.inl hlt)]
    refine E_aload_n dX7_speak_0 rfl ?_
    refine E_getf 5 dX7_speak_1 fl_X7_27 (by decide) (hg_18 _) rfl ?_
    refine E_getf 2 dX7_speak_4 fl_X7_47 (ch_ge ht) hcell rfl ?_
    refine E_if_gt 27 dX7_speak_7 (by decide) (fun c_7 => ?_) (fun c_7 => ?_)
    · exact go
    · exact absurd (nI_lt (a := 0) hlt (by omega)) c_7
  · cases hS : z.S with
    | none =>
      rw [if_pos (Or.inr (Or.inl rfl))]
      refine E_aload_n dX7_speak_0 rfl ?_
      refine E_getf 5 dX7_speak_1 fl_X7_27 (by decide) (hg_18 _) rfl ?_
      refine E_getf 2 dX7_speak_4 fl_X7_47 (ch_ge ht) hcell rfl ?_
      refine E_if_gt 27 dX7_speak_7 (by decide) (fun c_7 => ?_) (fun c_7 => ?_)
      · exact go
      · refine E_aload_n dX7_speak_10 rfl ?_
        refine E_getf 6 dX7_speak_11 fl_X7_30 (by decide) (hg_18 _) rfl ?_
        rw [hS]
        refine E_ifnullN 27 dX7_speak_14 (by decide) ?_
        exact go
    | some s =>
      obtain ⟨v2, x2, hc2⟩ := ch_cell (hs s hS)
      by_cases hm : 0 < rs.length
      · rw [if_pos (Or.inr (Or.inr hm))]
        refine E_aload_n dX7_speak_0 rfl ?_
        refine E_getf 5 dX7_speak_1 fl_X7_27 (by decide) (hg_18 _) rfl ?_
        refine E_getf 2 dX7_speak_4 fl_X7_47 (ch_ge ht) hcell rfl ?_
        refine E_if_gt 27 dX7_speak_7 (by decide) (fun c_7 => ?_) (fun c_7 => ?_)
        · exact go
        · refine E_aload_n dX7_speak_10 rfl ?_
          refine E_getf 6 dX7_speak_11 fl_X7_30 (by decide) (hg_18 _) rfl ?_
          rw [hS]
          refine E_ifnull dX7_speak_14 ?_
          refine E_aload_n dX7_speak_17 rfl ?_
          refine E_getf 6 dX7_speak_18 fl_X7_30 (by decide) (hg_18 _) rfl ?_
          rw [hS]
          refine E_getf 2 dX7_speak_21 fl_X7_47 (ch_ge (hs s hS)) hc2 rfl ?_
          refine E_if_le 47 dX7_speak_24 (by decide) (fun c_24 => ?_) (fun c_24 => ?_)
          · exact absurd c_24 (nI_nle hm (by omega))
          · exact go
      · rw [if_neg (by simp [hlt, hm])]
        refine E_aload_n dX7_speak_0 rfl ?_
        refine E_getf 5 dX7_speak_1 fl_X7_27 (by decide) (hg_18 _) rfl ?_
        refine E_getf 2 dX7_speak_4 fl_X7_47 (ch_ge ht) hcell rfl ?_
        rw [show r.length = 0 by omega]
        refine E_if_gt 27 dX7_speak_7 (by decide) (fun c_7 => ?_) (fun c_7 => ?_)
        · exact absurd c_7 (by decide)
        · refine E_aload_n dX7_speak_10 rfl ?_
          refine E_getf 6 dX7_speak_11 fl_X7_30 (by decide) (hg_18 _) rfl ?_
          rw [hS]
          refine E_ifnull dX7_speak_14 ?_
          refine E_aload_n dX7_speak_17 rfl ?_
          refine E_getf 6 dX7_speak_18 fl_X7_30 (by decide) (hg_18 _) rfl ?_
          rw [hS]
          refine E_getf 2 dX7_speak_21 fl_X7_47 (ch_ge (hs s hS)) hc2 rfl ?_
          rw [show rs.length = 0 by omega]
          refine E_if_le 47 dX7_speak_24 (by decide) (fun c_24 => ?_) (fun c_24 => ?_)
          · exact E_vret dX7_speak_47 rfl ⟨rfl, rfl⟩
          · exact absurd (by decide) c_24
