/-! CHAINS: a row of bytes, its last one first, out of the cells -/
def ch (D : HP) : Nat → List Int32 → Prop
  | c, [] => c = 19
  | c, x :: r => ∃ b i, c = 64 + i ∧ D[i]? = some (.inr (1, [.ref b, .int x, .int (nI (r.length + 1))])) ∧ ch D b r
theorem ch_mono {D : HP} (w : HP) : ∀ {r : List Int32} {c : Nat}, ch D c r → ch (D ++ w) c r
  | [], _, h => h
  | x :: r, c, h => by
    obtain ⟨b, i, h1, h2, h3⟩ := h
    exact ⟨b, i, h1, by rw [List.getElem?_append_left (List.getElem?_eq_some_iff.mp h2).1]; exact h2, ch_mono w h3⟩
theorem ch_ge {D : HP} {r : List Int32} {c : Nat} (h : ch D c r) : 3 ≤ c := by
  cases r with
  | nil => rw [show c = 19 from h]; omega
  | cons x r =>
    obtain ⟨b, i, h1, -⟩ := h
    omega
/-- the cell of a chain, whatever it is -/
theorem ch_cell {z : Sg} {r : List Int32} {c : Nat} (h : ch z.D c r) : ∃ v x, (hp z)[c]? = some (.inr (1, [v, .int x, .int (nI r.length)])) := by
  cases r with
  | nil =>
    rw [show c = 19 from h]
    exact ⟨.null, 0, hg_19 z⟩
  | cons x r =>
    obtain ⟨b, i, h1, h2, -⟩ := h
    exact ⟨.ref b, x, by rw [h1, hp_dyn]; exact h2⟩
theorem ch_nil {z : Sg} {c : Nat} (h : ch z.D c []) : (hp z)[c]? = some (.inr (1, [.null, .int 0, .int 0])) := by
  rw [show c = 19 from h]
  exact hg_19 z
theorem ch_cons {z : Sg} {x : Int32} {r : List Int32} {c : Nat} (h : ch z.D c (x :: r)) : ∃ b, (hp z)[c]? = some (.inr (1, [.ref b, .int x, .int (nI (r.length + 1))])) ∧ ch z.D b r := by
  obtain ⟨b, i, h1, h2, h3⟩ := h
  exact ⟨b, by rw [h1, hp_dyn]; exact h2, h3⟩
theorem l_without (z : Sg) (a k : Nat) (hk : k < 2 ^ 31) : ∀ (m i : Nat) (c : Nat) (r : List Int32), i + m = k → ch z.D c r → ∃ c', ch z.D c' (r.drop m) ∧ E mChain_without 0 0 0 4 [(0, .ref a), (1, .int (nI k)), (2, .ref c), (3, .int (nI i))] [] (hp z) (Det (some (.ref c')) (hp z)) := by
  intro m
  induction m with
  | zero =>
    intro i c r hi hc
    refine ⟨c, hc, ?_⟩
    refine E_iload_n dX1_without_4 rfl ?_
    refine E_iload_n dX1_without_5 rfl ?_
    refine E_icmp_ge 27 dX1_without_6 (by decide) (fun c_6 => ?_) (fun c_6 => ?_)
    · refine E_aload_n dX1_without_27 rfl ?_
      exact E_aret dX1_without_28 rfl (Or.inl ⟨_, rfl⟩) ⟨rfl, rfl⟩
    · exact absurd (nI_le (by omega) (by omega)) c_6
  | succ m ih =>
    intro i c r hi hc
    cases r with
    | nil =>
      refine ⟨c, hc, ?_⟩
      refine E_iload_n dX1_without_4 rfl ?_
      refine E_iload_n dX1_without_5 rfl ?_
      refine E_icmp_ge 27 dX1_without_6 (by decide) (fun c_6 => ?_) (fun c_6 => ?_)
      · exact absurd c_6 (nI_ge (by omega) (by omega))
      · refine E_aload_n dX1_without_9 rfl ?_
        refine E_getf 0 dX1_without_10 fl_X1_7 (ch_ge hc) (ch_nil hc) rfl ?_
        refine E_ifnullN 27 dX1_without_13 (by decide) ?_
        refine E_aload_n dX1_without_27 rfl ?_
        exact E_aret dX1_without_28 rfl (Or.inl ⟨_, rfl⟩) ⟨rfl, rfl⟩
    | cons x r =>
      obtain ⟨b, hcell, hb⟩ := ch_cons hc
      obtain ⟨c', h1, h2⟩ := ih (i + 1) b r (by omega) hb
      refine ⟨c', h1, ?_⟩
      refine E_iload_n dX1_without_4 rfl ?_
      refine E_iload_n dX1_without_5 rfl ?_
      refine E_icmp_ge 27 dX1_without_6 (by decide) (fun c_6 => ?_) (fun c_6 => ?_)
      · exact absurd c_6 (nI_ge (by omega) (by omega))
      · refine E_aload_n dX1_without_9 rfl ?_
        refine E_getf 0 dX1_without_10 fl_X1_7 (ch_ge hc) hcell rfl ?_
        refine E_ifnull dX1_without_13 ?_
        refine E_aload_n dX1_without_16 rfl ?_
        refine E_getf 0 dX1_without_17 fl_X1_7 (ch_ge hc) hcell rfl ?_
        refine E_astore_n dX1_without_20 (by decide) rfl ?_
        refine E_iincL 1 dX1_without_21 rfl rfl (by decide) rfl ?_
        rw [nI_1]
        refine E_goto 4 dX1_without_24 (by decide) ?_
        refine E.pick [2, 3, 1, 0] rfl ?_
        exact h2
theorem c_without (z : Sg) (k : Nat) (hk : k < 2 ^ 31) (c : Nat) (r : List Int32) (hc : ch z.D c r) : ∃ c', ch z.D c' (r.drop k) ∧ EM mChain_without 0 0 0 [.ref c, .int (nI k)] (hp z) (Det (some (.ref c')) (hp z)) := by
  obtain ⟨c', h1, h2⟩ := l_without z c k hk k 0 c r (by omega) hc
  refine ⟨c', h1, ?_⟩
  refine E_aload_n dX1_without_0 rfl ?_
  refine E_astore_n dX1_without_1 (by decide) rfl ?_
  refine E_iconst (v := 0) dX1_without_2 rfl ?_
  refine E_istore_n dX1_without_3 (by decide) rfl ?_
  refine E.pick [2, 3, 1, 0] rfl ?_
  exact h2
theorem c_Chain_signAt (z : Sg) (c : Nat) (r : List Int32) (hr : r.length < 2 ^ 31) (hc : ch z.D c r) (i : Nat) (hi : i < r.length) : EM mChain_signAt 1 0 0 [.ref c, .int (nI i)] (hp z) (Det (some (.int (r.getD (r.length - 1 - i) 0))) (hp z)) := by
  obtain ⟨v, x, hcell⟩ := ch_cell hc
  obtain ⟨c', h1, h2⟩ := c_without z (r.length - 1 - i) (by omega) c r hc
  have hd : r.drop (r.length - 1 - i) = r.getD (r.length - 1 - i) 0 :: r.drop (r.length - 1 - i + 1) := by
    rw [List.getD_eq_getElem?_getD, List.getElem?_eq_getElem (by omega), Option.getD_some]
    exact List.drop_eq_getElem_cons (by omega)
  rw [hd] at h1
  obtain ⟨b, hc2, -⟩ := ch_cons h1
  refine E_aload_n dX1_signAt_0 rfl ?_
  refine E_aload_n dX1_signAt_1 rfl ?_
  refine E_getf 2 dX1_signAt_2 fl_X1_17 (ch_ge hc) hcell rfl ?_
  refine E_iconst (v := 1) dX1_signAt_5 rfl ?_
  refine E_isub dX1_signAt_6 ?_
  refine E_iload_n dX1_signAt_7 rfl ?_
  rw [show nI r.length - 1 = nI (r.length - 1) from pk_sub (b := 1) (by omega)]
  refine E_isub dX1_signAt_8 ?_
  rw [pk_sub (by omega)]
  refine E_V1 dX1_signAt_9 cv_X1_20 (ch_ge hc) hcell rfl rfl (Nat.le_of_ble_eq_true rfl) (Nat.le_of_ble_eq_true rfl) (h2) (by decide) (Nat.zero_le _) (Nat.zero_le _) ?_
  refine E_getf 1 dX1_signAt_12 fl_X1_13 (ch_ge h1) hc2 rfl ?_
  exact E_iret dX1_signAt_15 rfl rfl ⟨rfl, rfl⟩
/-- how many letters stand at the end -/
def wr (r : List Int32) : Nat := (r.takeWhile (fun x => decide (isL x))).length
theorem wr_nil : wr [] = 0 := rfl
theorem wr_cons_t {x : Int32} {r : List Int32} (h : isL x) : wr (x :: r) = wr r + 1 := by
  unfold wr
  rw [List.takeWhile_cons, if_pos (by simpa using h)]
  rfl
theorem wr_cons_f {x : Int32} {r : List Int32} (h : ¬ isL x) : wr (x :: r) = 0 := by
  unfold wr
  rw [List.takeWhile_cons, if_neg (by simpa using h)]
  rfl
theorem wr_le (r : List Int32) : wr r ≤ r.length := (List.takeWhile_prefix _).length_le
theorem l_written (z : Sg) : ∀ (r : List Int32) (i c : Nat), i + r.length ≤ 200 → ch z.D c r → E mSheet_written 1 0 0 7 [(0, .ref 18), (1, .ref c), (2, .int (nI i))] [] (hp z) (Det (some (.int (nI (i + wr r)))) (hp z)) := by
  intro r
  induction r with
  | nil =>
    intro i c hi hc
    refine E_iload_n dX7_written_7 rfl ?_
    refine E_sipush (v := 200) dX7_written_8 rfl ?_
    refine E_icmp_ge 42 dX7_written_11 (by decide) (fun c_11 => ?_) (fun c_11 => ?_)
    · refine E_iload_n dX7_written_42 rfl ?_
      exact E_iret dX7_written_43 rfl rfl ⟨rfl, rfl⟩
    · refine E_aload_n dX7_written_14 rfl ?_
      refine E_getf 0 dX7_written_15 fl_X7_37 (ch_ge hc) (ch_nil hc) rfl ?_
      refine E_ifnullN 42 dX7_written_18 (by decide) ?_
      refine E_iload_n dX7_written_42 rfl ?_
      exact E_iret dX7_written_43 rfl rfl ⟨rfl, rfl⟩
  | cons x r ih =>
    intro i c hi hc
    obtain ⟨b, hcell, hb⟩ := ch_cons hc
    have hi2 : i + (r.length + 1) ≤ 200 := hi
    refine E_iload_n dX7_written_7 rfl ?_
    refine E_sipush (v := 200) dX7_written_8 rfl ?_
    refine E_icmp_ge 42 dX7_written_11 (by decide) (fun c_11 => ?_) (fun c_11 => ?_)
    · exact absurd c_11 (nI_ge (b := 200) (by omega) (by omega))
    · refine E_aload_n dX7_written_14 rfl ?_
      refine E_getf 0 dX7_written_15 fl_X7_37 (ch_ge hc) hcell rfl ?_
      refine E_ifnull dX7_written_18 ?_
      refine E_aload_n dX7_written_21 rfl ?_
      refine E_getf 1 dX7_written_22 fl_X7_40 (ch_ge hc) hcell rfl ?_
      refine E_S1 dX7_written_25 cs_X7_43 (Nat.le_of_ble_eq_true rfl) (Nat.le_of_ble_eq_true rfl) (c_isLetter _ x) (by decide) (Nat.zero_le _) (Nat.zero_le _) ?_
      refine E_if_eq 42 dX7_written_28 (by decide) (fun c_28 => ?_) (fun c_28 => ?_)
      · refine E_iload_n dX7_written_42 rfl ?_
        exact E_iret dX7_written_43 rfl rfl ⟨by rw [wr_cons_f (b2i_e0 c_28)]; rfl, rfl⟩
      · refine E_aload_n dX7_written_31 rfl ?_
        refine E_getf 0 dX7_written_32 fl_X7_37 (ch_ge hc) hcell rfl ?_
        refine E_astore_n dX7_written_35 (by decide) rfl ?_
        refine E_iincL 1 dX7_written_36 rfl rfl (by decide) rfl ?_
        rw [nI_1]
        refine E_goto 7 dX7_written_39 (by decide) ?_
        refine E.pick [2, 1, 0] rfl ?_
        rw [wr_cons_t (b2i_ne c_28), show i + (wr r + 1) = i + 1 + wr r by omega]
        exact ih (i + 1) b (by omega) hb
theorem c_written (z : Sg) (r : List Int32) (hr : r.length ≤ 200) (hc : ch z.D z.T r) : EM mSheet_written 1 0 0 [.ref 18] (hp z) (Det (some (.int (nI (wr r)))) (hp z)) := by
  refine E_aload_n dX7_written_0 rfl ?_
  refine E_getf 5 dX7_written_1 fl_X7_27 (by decide) (hg_18 _) rfl ?_
  refine E_astore_n dX7_written_4 (by decide) rfl ?_
  refine E_iconst (v := 0) dX7_written_5 rfl ?_
  refine E_istore_n dX7_written_6 (by decide) rfl ?_
  refine E.pick [2, 1, 0] rfl ?_
  have h9 := l_written z r 0 z.T (by omega) hc
  rw [Nat.zero_add] at h9
  exact h9
