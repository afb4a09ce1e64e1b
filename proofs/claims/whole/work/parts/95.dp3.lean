/-! LAYING: the model's sums are the same numbers -/
section DP3
variable {n s p : Nat} {w : Nat → Nat} {g fe : Nat → Nat → Nat}
/-- what the model's sums read -/
def MW (z : Sg) (n s p : Nat) (w : Nat → Nat) : Prop := (∀ k, k < n → z.A 59 (z.A 62 k - 97).toNatClampNeg + 1 = nI (w k)) ∧ z.A 43 0 = nI s ∧ z.A 43 4 = nI p
theorem wgs_eq {z : Sg} (h : MW z n s p w) (hn : n ≤ 26) (hw : ∀ k, k < 26 → w k ≤ 1001) : ∀ (m k x : Nat), k + m ≤ n → wgs z m k (lN x) = lN (x + SW w k (k + m))
  | 0, k, x, _ => by
    rw [wgs]
    show lN x = lN (x + (preW w k - preW w k))
    rw [Nat.sub_self, Nat.add_zero]
  | m + 1, k, x, hk => by
    have h1 := hw k (by omega)
    rw [wgs, h.1 k (by omega), nI_l (by omega), lN_add, wgs_eq h hn hw m (k + 1) (x + w k) (by omega)]
    have h2 := pre_mono w (show k + 1 ≤ k + 1 + m by omega)
    have h3 : preW w (k + 1) = preW w k + w k := rfl
    congr 1
    show x + w k + (preW w (k + 1 + m) - preW w (k + 1)) = x + (preW w (k + (m + 1)) - preW w k)
    rw [show k + (m + 1) = k + 1 + m by omega]
    omega
theorem itm_eq {z : Sg} (h : MW z n s p w) (hn : n ≤ 26) (hw : ∀ k, k < 26 → w k ≤ 1001) (hs : s ≤ 50) (hp' : p ≤ 50) {i k q : Nat} (hik : i ≤ k) (hk : k ≤ n) (hq : q ≤ 27) (h61 : 1 < k - i → z.L 61 (27 * i + k) = lN (g i k)) : itm z i k q = lN (SW w i k * (s * q + p) + (if 1 < k - i then g i k else 0)) := by
  have h1 : s * q ≤ 50 * 27 := Nat.mul_le_mul hs hq
  have e1 := wgs_eq h hn hw (k - i) i 0 (by omega)
  rw [Nat.zero_add, show i + (k - i) = k by omega, show (lN 0 : Int64) = 0 from rfl] at e1
  unfold itm
  rw [e1, h.2.1, h.2.2, pk_mul, nI_add, nI_l (by omega), lN_mul]
  by_cases e : 1 < k - i
  · rw [if_pos e, if_pos e, h61 e, lN_add]
  · rw [if_neg e, if_neg e, Int64.add_zero, Nat.add_zero]
/-- a candidate's value -/
theorem val_eq {A B q x y : Nat} : A * (s * (q + 1) + p) + x + (y + (q + 1) * s * B) = s * (A + B) + p * A + x + y + q * s * (A + B) := by
  simp only [Nat.mul_add, Nat.add_mul, Nat.mul_one, Nat.one_mul, Nat.mul_comm, Nat.mul_left_comm, Nat.mul_assoc]
  omega
theorem skm_min {z : Sg} {i j q : Nat} {v : Nat → Nat} {V : Nat} (hV : V < 2 ^ 31) : ∀ (m k : Nat) (b : Int64), (∀ x, k ≤ x → x < k + m → itm z i x q + z.L 60 (ixR x j (q + 1)) = lN (v x) ∧ V ≤ v x ∧ v x < 2 ^ 31) → (b = lN V ∨ ∃ x, k ≤ x ∧ x < k + m ∧ v x = V) → (V : Int) ≤ b.toInt → skm z i j q m k b = lN V
  | 0, k, b, _, h2, _ => by
    rw [skm]
    rcases h2 with h2 | ⟨x, h3, h4, -⟩
    · exact h2
    · omega
  | m + 1, k, b, h1, h2, h3 => by
    obtain ⟨c1, c2, c3⟩ := h1 k (Nat.le_refl k) (by omega)
    have e : (lN (v k)).toInt = (v k : Int) := lN_toInt c3
    have eV : (lN V).toInt = (V : Int) := lN_toInt hV
    rw [skm, c1]
    refine skm_min hV m (k + 1) _ (fun x h4 h5 => h1 x (by omega) (by omega)) ?_ ?_
    · unfold mn64
      by_cases h9 : lN (v k) < b
      · rw [if_pos h9]
        rw [Int64.lt_iff_toInt_lt, e] at h9
        rcases h2 with h2 | ⟨x, h4, h5, h6⟩
        · rw [h2, eV] at h9
          omega
        · by_cases e2 : x = k
          · rw [e2] at h6
            exact Or.inl (by rw [h6])
          · exact Or.inr ⟨x, by omega, by omega, h6⟩
      · rw [if_neg h9]
        rw [Int64.lt_iff_toInt_lt, e] at h9
        rcases h2 with h2 | ⟨x, h4, h5, h6⟩
        · exact Or.inl h2
        · by_cases e2 : x = k
          · rw [e2] at h6
            exact Or.inl (Int64.toInt_inj.mp (by rw [eV]; omega))
          · exact Or.inr ⟨x, by omega, by omega, h6⟩
    · unfold mn64
      split
      · rw [e]; omega
      · exact h3
/-- a part's sums are right -/
def okSm (z : Sg) (s : Nat) (w : Nat → Nat) (g : Nat → Nat → Nat) (a b : Nat) : Prop := (∀ q, 1 ≤ q → q ≤ a + 1 → z.L 60 (ixR a b q) = lN (g a b + (q - 1) * s * SW w a b)) ∧ (1 < b - a → z.L 61 (27 * a + b) = lN (g a b))
theorem cand {z : Sg} (h : MW z n s p w) (hd : DP w s p n g fe) (hn : n ≤ 26) (hw : ∀ k, k < 26 → w k ≤ 1001) (hs : s ≤ 50) (hp' : p ≤ 50) {i j q k : Nat} (hij : i < j) (hj : j ≤ n) (hk1 : i < k) (hk2 : k ≤ j) (hq1 : 1 ≤ q) (hq2 : q ≤ i + 1) (h61 : 1 < k - i → z.L 61 (27 * i + k) = lN (g i k)) (h60 : z.L 60 (ixR k j (q + 1)) = lN (g k j + q * s * SW w k j)) : itm z i k q + z.L 60 (ixR k j (q + 1)) = lN (cwN w s p g i k j + (q - 1) * s * SW w i j) ∧ cwN w s p g i k j + (q - 1) * s * SW w i j < 2 ^ 31 := by
  obtain ⟨q, rfl⟩ : ∃ r, q = r + 1 := ⟨q - 1, by omega⟩
  have hS := SW_add w (show i ≤ k by omega) hk2
  constructor
  · rw [itm_eq h hn hw hs hp' (by omega) (by omega) (by omega) h61, h60, lN_add, val_eq, hS]
    unfold cwN
    rw [Nat.add_sub_cancel]
  · have hb : ∀ a b, b ≤ n → g a b ≤ 40000000 := fun a b hb => by
      by_cases e : a < b
      · exact (hd.2 a b e hb).2.2.2.2.2.2
      · rw [hd.1 a b (by omega)]
        omega
    have h1 := cwN_le (w := w) (s := s) (p := p) (a := i) (f := k) (b := j) hn hw hs hp' (by omega) hj (hb i k (by omega)) (hb k j hj)
    have h2 : q * s ≤ 26 * 50 := Nat.mul_le_mul (by omega) hs
    have h3 : q * s * SW w i j ≤ 26 * 50 * 26026 := Nat.mul_le_mul h2 (SW_le hn hw hj)
    rw [Nat.add_sub_cancel]
    omega
theorem inV_eq {z : Sg} (h : MW z n s p w) (hd : DP w s p n g fe) (hn : n ≤ 26) (hw : ∀ k, k < 26 → w k ≤ 1001) (hs : s ≤ 50) (hp' : p ≤ 50) {i j : Nat} (hij : i + 1 < j) (hj : j ≤ n) (ho : ∀ a b, a ≤ b → b ≤ n → b - a < j - i → okSm z s w g a b) : inV z i j = lN (g i j) := by
  obtain ⟨d1, d2, d3, d4, d5, d6, d7⟩ := hd.2 i j (by omega) hj
  unfold inV
  have hc : ∀ x, i < x → x < j → itm z i x 1 + z.L 60 (ixR x j (1 + 1)) = lN (cwN w s p g i x j) ∧ cwN w s p g i x j < 2 ^ 31 := fun x h1 h2 => by
    have h9 := cand h hd hn hw hs hp' (q := 1) (show i < j by omega) hj h1 (by omega) (by omega) (by omega) (fun h3 => (ho i x (by omega) (by omega) (by omega)).2 h3) (by
      have h8 := (ho x j (by omega) hj (by omega)).1 2 (by omega) (by omega)
      exact h8)
    rw [show (1 - 1) * s * SW w i j = 0 by rw [Nat.sub_self, Nat.zero_mul, Nat.zero_mul], Nat.add_zero] at h9
    exact h9
  refine skm_min (v := fun x => cwN w s p g i x j) (by omega) _ _ _ (fun x h1 h2 => ?_) (Or.inr ⟨fe i j, by omega, by have := d3 hij; omega, d4.symm⟩) ?_
  · obtain ⟨c1, c2⟩ := hc x (by omega) (by omega)
    exact ⟨c1, d5 x (by omega) (by omega), c2⟩
  · rw [show (9223372036854775807 : Int64).toInt = 9223372036854775807 from by decide]
    omega
theorem rsV_eq {z : Sg} (h : MW z n s p w) (hd : DP w s p n g fe) (hn : n ≤ 26) (hw : ∀ k, k < 26 → w k ≤ 1001) (hs : s ≤ 50) (hp' : p ≤ 50) {i j q : Nat} (hij : i ≤ j) (hj : j ≤ n) (hq1 : 1 ≤ q) (hq2 : q ≤ i + 1) (ho : ∀ a b, a ≤ b → b ≤ n → b - a < j - i → okSm z s w g a b) (h61 : 1 < j - i → z.L 61 (27 * i + j) = lN (g i j)) : rsV z i j q = lN (g i j + (q - 1) * s * SW w i j) := by
  unfold rsV
  by_cases e : i < j
  · rw [if_neg (by omega), if_neg (by omega), if_pos e]
    obtain ⟨d1, d2, d3, d4, d5, d6, d7⟩ := hd.2 i j e hj
    have hc : ∀ x, i < x → x ≤ j → itm z i x q + z.L 60 (ixR x j (q + 1)) = lN (cwN w s p g i x j + (q - 1) * s * SW w i j) ∧ cwN w s p g i x j + (q - 1) * s * SW w i j < 2 ^ 31 := fun x h1 h2 => by
      refine cand h hd hn hw hs hp' e hj h1 h2 hq1 hq2 (fun h3 => ?_) ?_
      · by_cases e2 : x = j
        · rw [e2] at h3 ⊢
          exact h61 h3
        · exact (ho i x (by omega) (by omega) (by omega)).2 h3
      · have h8 := (ho x j (by omega) hj (by omega)).1 (q + 1) (by omega) (by omega)
        rw [Nat.add_sub_cancel] at h8
        exact h8
    have hV := (hc (fe i j) d1 d2).2
    rw [← d4] at hV
    refine skm_min (v := fun x => cwN w s p g i x j + (q - 1) * s * SW w i j) hV _ _ _ (fun x h1 h2 => ?_) (Or.inr ⟨fe i j, by omega, by omega, by rw [← d4]⟩) ?_
    · obtain ⟨c1, c2⟩ := hc x (by omega) (by omega)
      refine ⟨c1, ?_, c2⟩
      by_cases e2 : x < j
      · have := d5 x (by omega) e2
        omega
      · by_cases e3 : 1 < j - i
        · have hx : x = j := by omega
          show g i j + _ ≤ cwN w s p g i x j + _
          rw [hx]
          have : g i j ≤ cwN w s p g i j j := by
            unfold cwN
            rw [if_pos e3]
            omega
          omega
        · have hx : x = fe i j := by omega
          show g i j + _ ≤ cwN w s p g i x j + _
          rw [hx, ← d4]
          exact Nat.le_refl _
    · rw [show (9223372036854775807 : Int64).toInt = 9223372036854775807 from by decide]
      omega
  · have hij2 : j - i = 0 := by omega
    rw [if_neg (fun h9 => e h9.2), hd.1 i j (by omega)]
    have h0 : SW w i j = 0 := by
      show preW w j - preW w i = 0
      rw [show j = i by omega, Nat.sub_self]
    rw [h0, Nat.mul_zero, Nat.add_zero]
    split
    · rfl
    · rw [hij2, skm]
      rfl
end DP3
