/-! THE BOOK: beginsWith, find, add, take; word -/
abbrev bwP (z : Sg) (a len W L k : Nat) : Prop := k ≤ L ∧ k ≤ len ∧ ∀ i, i < k → z.A 25 (12 * W + i) = z.A a i
theorem l_beginsWith {z : Sg} {n W L k a len : Nat} (ha : 3 ≤ a) (hlen : len ≤ 26) (hga : (hp z)[a]? = some (.inl (0, len, .inl (z.A a)))) (h : bkOK z n) (hW : W < n) (hL : z.A 26 W = nI L) (hL2 : L ≤ 12) (hkL : k ≤ L) (hkl : k ≤ len) : ∀ (m i : Nat), i + m = k → (∀ j, j < i → z.A 25 (12 * W + j) = z.A a j) → E mBook_beginsWith 3 0 0 20 [(0, .ref 24), (1, .int (nI W)), (2, .ref a), (3, .int (nI k)), (4, .int (nI i))] [] (hp z) (Det (some (.int (b2i (bwP z a len W L k)))) (hp z)) := by
  intro m
  induction m with
  | zero =>
    intro i hi hj
    refine E_iload dX0_beginsWith_20 rfl ?_
    refine E_iload_n dX0_beginsWith_22 rfl ?_
    refine E_icmp_ge 48 dX0_beginsWith_23 (by decide) (fun c_23 => ?_) (fun c_23 => ?_)
    · refine E_iconst (v := 1) dX0_beginsWith_48 rfl ?_
      exact E_iret dX0_beginsWith_49 rfl rfl ⟨si_t ⟨hkL, hkl, fun j h => hj j (by omega)⟩, rfl⟩
    · exact absurd (nI_le (by omega) (by omega)) c_23
  | succ m ih =>
    intro i hi hj
    have hcl : (nI i).toNatClampNeg = i := nI_clamp (by omega)
    refine E_iload dX0_beginsWith_20 rfl ?_
    refine E_iload_n dX0_beginsWith_22 rfl ?_
    refine E_icmp_ge 48 dX0_beginsWith_23 (by decide) (fun c_23 => ?_) (fun c_23 => ?_)
    · exact absurd c_23 (nI_ge (by omega) (by omega))
    · refine E_aload_n dX0_beginsWith_26 rfl ?_
      refine E_iload_n dX0_beginsWith_27 rfl ?_
      refine E_iload dX0_beginsWith_28 rfl ?_
      refine E_V2 dX0_beginsWith_30 cv_X0_68 (by decide) (hg_24 _) rfl rfl (Nat.le_of_ble_eq_true rfl) (Nat.le_of_ble_eq_true rfl) (c_signOf (i := i) h hW hL hL2 (by omega)) (by decide) (Nat.zero_le _) (Nat.zero_le _) ?_
      refine E_aload_n dX0_beginsWith_33 rfl ?_
      refine E_iload dX0_beginsWith_34 rfl ?_
      refine E_iald dX0_beginsWith_36 ha hga (vp_in_nI (by omega) (by omega)) ?_
      rw [hcl]
      refine E_icmp_eq 42 dX0_beginsWith_37 (by decide) (fun c_37 => ?_) (fun c_37 => ?_)
      · refine E_iincL 1 dX0_beginsWith_42 rfl rfl (by decide) rfl ?_
        rw [nI_1]
        refine E_goto 20 dX0_beginsWith_45 (by decide) ?_
        refine E.pick [1, 2, 3, 4, 0] rfl ?_
        exact ih (i + 1) (by omega) (fun j h => by by_cases e : j = i; exact e ▸ c_37; exact hj j (by omega))
      · refine E_iconst (v := 0) dX0_beginsWith_40 rfl ?_
        exact E_iret dX0_beginsWith_41 rfl rfl ⟨si_f (fun h9 => c_37 (h9.2.2 i (by omega))), rfl⟩
theorem c_beginsWith {z : Sg} {n W L k a len : Nat} (ha : 3 ≤ a) (hlen : len ≤ 26) (hga : (hp z)[a]? = some (.inl (0, len, .inl (z.A a)))) (h : bkOK z n) (hW : W < n) (hL : z.A 26 W = nI L) (hL2 : L ≤ 12) (hk : k ≤ 200) : EM mBook_beginsWith 3 0 0 [.ref 24, .int (nI W), .ref a, .int (nI k)] (hp z) (Det (some (.int (b2i (bwP z a len W L k)))) (hp z)) := by
  refine E_iload_n dX0_beginsWith_0 rfl ?_
  refine E_aload_n dX0_beginsWith_1 rfl ?_
  refine E_iload_n dX0_beginsWith_2 rfl ?_
  refine E_V1 dX0_beginsWith_3 cv_X0_65 (by decide) (hg_24 _) rfl rfl (Nat.le_of_ble_eq_true rfl) (Nat.le_of_ble_eq_true rfl) (c_sizeOfN h hW) (by decide) (Nat.zero_le _) (Nat.zero_le _) ?_
  rw [hL]
  refine E_icmp_gt 15 dX0_beginsWith_6 (by decide) (fun c_6 => ?_) (fun c_6 => ?_)
  · refine E_iconst (v := 0) dX0_beginsWith_15 rfl ?_
    exact E_iret dX0_beginsWith_16 rfl rfl ⟨by first | exact si_f (fun h9 => by have := nI_le (b := L) h9.1 (by omega); rw [i32_le] at this; rw [i32_lt] at c_6; omega) | exact si_f (fun h9 => c_12 (nI_le (b := len) h9.2.1 (by omega))), rfl⟩
  · refine E_iload_n dX0_beginsWith_9 rfl ?_
    refine E_aload_n dX0_beginsWith_10 rfl ?_
    refine E_alen dX0_beginsWith_11 ha hga rfl ?_
    refine E_icmp_le 17 dX0_beginsWith_12 (by decide) (fun c_12 => ?_) (fun c_12 => ?_)
    · refine E_iconst (v := 0) dX0_beginsWith_17 rfl ?_
      refine E_istore dX0_beginsWith_18 (by decide) rfl ?_
      refine E.pick [1, 2, 3, 4, 0] rfl ?_
      exact l_beginsWith ha hlen hga h hW hL hL2 ((nI_leI (by omega) (by omega)).mp (show nI k ≤ nI L by rw [i32_le]; rw [i32_lt] at c_6; omega)) ((nI_leI (by omega) (by omega)).mp (show nI k ≤ nI len from c_12)) k 0 (by omega) (fun j h => absurd h (Nat.not_lt_zero j))
    · refine E_iconst (v := 0) dX0_beginsWith_15 rfl ?_
      exact E_iret dX0_beginsWith_16 rfl rfl ⟨by first | exact si_f (fun h9 => by have := nI_le (b := L) h9.1 (by omega); rw [i32_le] at this; rw [i32_lt] at c_6; omega) | exact si_f (fun h9 => c_12 (nI_le (b := len) h9.2.1 (by omega))), rfl⟩
abbrev eqW (z : Sg) (a len k W : Nat) : Prop := z.A 26 W = nI k ∧ k ≤ len ∧ ∀ i, i < k → z.A 25 (12 * W + i) = z.A a i
def fnd (z : Sg) (a len k : Nat) : Nat → Nat → Int32
  | 0, _ => -1
  | m + 1, W => if eqW z a len k W then nI W else fnd z a len k m (W + 1)
theorem l_find {z : Sg} {n k a len : Nat} (ha : 3 ≤ a) (hlen : len ≤ 26) (hga : (hp z)[a]? = some (.inl (0, len, .inl (z.A a)))) (h : bkOK z n) (hk : k ≤ 200) : ∀ (m W : Nat), W + m = n → E mBook_find 4 0 0 2 [(0, .ref 24), (1, .ref a), (2, .int (nI k)), (3, .int (nI W))] [] (hp z) (Det (some (.int (fnd z a len k m W))) (hp z)) := by
  have hn := h.2.1
  intro m
  induction m with
  | zero =>
    intro W hW
    refine E_iload_n dX0_find_2 rfl ?_
    refine E_aload_n dX0_find_3 rfl ?_
    refine E_getf 3 dX0_find_4 fl_X0_48 (by decide) (hg_24 _) rfl ?_
    rw [h.1]
    refine E_icmp_ge 38 dX0_find_7 (by decide) (fun c_7 => ?_) (fun c_7 => ?_)
    · refine E_iconst (v := (-1)) dX0_find_38 rfl ?_
      exact E_iret dX0_find_39 rfl rfl ⟨rfl, rfl⟩
    · exact absurd (nI_le (by omega) (by omega)) c_7
  | succ m ih =>
    intro W hW
    have hcl : (nI W).toNatClampNeg = W := nI_clamp (by omega)
    obtain ⟨L, hL1, hL2, hL⟩ := h.2.2 W (by omega)
    refine E_iload_n dX0_find_2 rfl ?_
    refine E_aload_n dX0_find_3 rfl ?_
    refine E_getf 3 dX0_find_4 fl_X0_48 (by decide) (hg_24 _) rfl ?_
    rw [h.1]
    refine E_icmp_ge 38 dX0_find_7 (by decide) (fun c_7 => ?_) (fun c_7 => ?_)
    · exact absurd c_7 (nI_ge (by omega) (by omega))
    · refine E_aload_n dX0_find_10 rfl ?_
      refine E_getf 1 dX0_find_11 fl_X0_15 (by decide) (hg_24 _) rfl ?_
      refine E_iload_n dX0_find_14 rfl ?_
      refine E_iald dX0_find_15 (by decide) (hg_26 _) (vp_in_nI (by omega) (by omega)) ?_
      rw [hcl]
      refine E_iload_n dX0_find_16 rfl ?_
      refine E_icmp_ne 32 dX0_find_17 (by decide) (fun c_17 => ?_) (fun c_17 => ?_)
      · refine E_iincL 1 dX0_find_32 rfl rfl (by decide) rfl ?_
        rw [nI_1]
        refine E_goto 2 dX0_find_35 (by decide) ?_
        refine E.pick [1, 2, 3, 0] rfl ?_
        rw [fnd]
        first | rw [if_neg (show ¬ eqW z a len k W from fun h9 => c_17 h9.1)] | rw [if_neg (show ¬ eqW z a len k W from fun h9 => b2i_e0 c_27 ⟨by have h8 := c_17; rw [hL, nI_eq (by omega) (by omega)] at h8; omega, h9.2⟩)]
        exact ih (W + 1) (by omega)
      · refine E_aload_n dX0_find_20 rfl ?_
        refine E_iload_n dX0_find_21 rfl ?_
        refine E_aload_n dX0_find_22 rfl ?_
        refine E_iload_n dX0_find_23 rfl ?_
        refine E_V3 dX0_find_24 cv_X0_61 (by decide) (hg_24 _) rfl rfl (Nat.le_of_ble_eq_true rfl) (Nat.le_of_ble_eq_true rfl) (c_beginsWith ha hlen hga h (show W < n by omega) hL hL2 hk) (by decide) (Nat.zero_le _) (Nat.zero_le _) ?_
        refine E_if_eq 32 dX0_find_27 (by decide) (fun c_27 => ?_) (fun c_27 => ?_)
        · refine E_iincL 1 dX0_find_32 rfl rfl (by decide) rfl ?_
          rw [nI_1]
          refine E_goto 2 dX0_find_35 (by decide) ?_
          refine E.pick [1, 2, 3, 0] rfl ?_
          rw [fnd]
          first | rw [if_neg (show ¬ eqW z a len k W from fun h9 => c_17 h9.1)] | rw [if_neg (show ¬ eqW z a len k W from fun h9 => b2i_e0 c_27 ⟨by have h8 := c_17; rw [hL, nI_eq (by omega) (by omega)] at h8; omega, h9.2⟩)]
          exact ih (W + 1) (by omega)
        · refine E_iload_n dX0_find_30 rfl ?_
          exact E_iret dX0_find_31 rfl rfl ⟨by rw [fnd, if_pos (show eqW z a len k W from ⟨c_17, (b2i_ne c_27).2⟩)], rfl⟩
theorem c_find {z : Sg} {n k a len : Nat} (ha : 3 ≤ a) (hlen : len ≤ 26) (hga : (hp z)[a]? = some (.inl (0, len, .inl (z.A a)))) (h : bkOK z n) (hk : k ≤ 200) : EM mBook_find 4 0 0 [.ref 24, .ref a, .int (nI k)] (hp z) (Det (some (.int (fnd z a len k n 0))) (hp z)) := by
  refine E_iconst (v := 0) dX0_find_0 rfl ?_
  refine E_istore_n dX0_find_1 (by decide) rfl ?_
  refine E.pick [1, 2, 3, 0] rfl ?_
  exact l_find ha hlen hga h hk n 0 (by omega)
