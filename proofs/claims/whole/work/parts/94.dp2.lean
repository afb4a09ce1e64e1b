/-! LAYING: the desk's numbers are least costs -/
section DP2
variable {z : Sg} {n s p : Nat} {w : Nat → Nat}
def gZ (z : Sg) (n a b : Nat) : Nat := if a < b ∧ b ≤ n then (z.A 37 (27 * a + b)).toNatClampNeg else 0
theorem SW_le (hn : n ≤ 26) (hw : ∀ k, k < 26 → w k ≤ 1001) {a b : Nat} (hb : b ≤ n) : SW w a b ≤ 26026 := by
  have := pre_le w hw b (by omega)
  unfold SW
  omega
theorem cw_nI (hn : n ≤ 26) (h36 : ∀ k, k ≤ n → z.A 36 k = nI (preW w k)) (h50 : z.A 5 0 = nI s) (h54 : z.A 5 4 = nI p) {a f b : Nat} (haf : a < f) (hfb : f ≤ b) (hb : b ≤ n) (h1 : 1 < f - a → z.A 37 (27 * a + f) = nI (gZ z n a f)) (h2 : f < b → z.A 37 (27 * f + b) = nI (gZ z n f b)) : cwZ z a f b = nI (cwN w s p (gZ z n) a f b) := by
  have e1 : sumZ z a b = nI (SW w a b) := by
    unfold sumZ
    rw [if_pos ⟨by omega, by omega⟩, h36 a (by omega), h36 b hb, pk_sub (pre_mono w (by omega))]
  have e2 : sumZ z a f = nI (SW w a f) := by
    unfold sumZ
    rw [if_pos ⟨by omega, by omega⟩, h36 a (by omega), h36 f (by omega), pk_sub (pre_mono w (by omega))]
  have e3 : (if 1 < f - a then lstZ z a f else 0) = nI (if 1 < f - a then gZ z n a f else 0) := by
    by_cases h : 1 < f - a
    · rw [if_pos h, if_pos h]
      unfold lstZ
      rw [if_pos ⟨haf, by omega⟩, h1 h]
    · rw [if_neg h, if_neg h]
      rfl
  have e4 : lstZ z f b = nI (gZ z n f b) := by
    unfold lstZ
    by_cases h : f < b
    · rw [if_pos ⟨h, by omega⟩, h2 h]
    · rw [if_neg (fun h9 => h h9.1)]
      unfold gZ
      rw [if_neg (fun h9 => h h9.1)]
      rfl
  unfold cwZ cwN
  rw [e1, e2, e3, e4, h50, h54, pk_mul, pk_mul, nI_add, nI_add, nI_add]
theorem cwN_le (hn : n ≤ 26) (hw : ∀ k, k < 26 → w k ≤ 1001) (hs : s ≤ 50) (hp' : p ≤ 50) {g : Nat → Nat → Nat} {a f b : Nat} (hf : f ≤ n) (hb : b ≤ n) {B C : Nat} (hB : g a f ≤ B) (hC : g f b ≤ C) : cwN w s p g a f b ≤ 2602600 + B + C := by
  have h1 : s * SW w a b ≤ 50 * 26026 := Nat.mul_le_mul hs (SW_le hn hw hb)
  have h2 : p * SW w a f ≤ 50 * 26026 := Nat.mul_le_mul hp' (SW_le hn hw hf)
  unfold cwN
  split <;> omega
theorem dp_all (hn : n ≤ 26) (hw : ∀ k, k < 26 → w k ≤ 1001) (hs : s ≤ 50) (hp' : p ≤ 50) (h36 : ∀ k, k ≤ n → z.A 36 k = nI (preW w k)) (h50 : z.A 5 0 = nI s) (h54 : z.A 5 4 = nI p) (he : ∀ a b, a < b → b ≤ n → enR z a b) : ∀ (sz a b : Nat), b - a ≤ sz → a < b → b ≤ n → z.A 37 (27 * a + b) = nI (gZ z n a b) ∧ gZ z n a b = cwN w s p (gZ z n) a (feZ z a b) b ∧ gZ z n a b ≤ 1351350 * (b - a) ∧ (∀ x, a < x → x < b → gZ z n a b ≤ cwN w s p (gZ z n) a x b) ∧ (∀ x, a < x → x < feZ z a b → gZ z n a b < cwN w s p (gZ z n) a x b)
  | 0, a, b, h1, h2, _ => absurd h1 (by omega)
  | sz + 1, a, b, h1, h2, h3 => by
    have ih : ∀ x y, x < y → y ≤ n → y - x < b - a → z.A 37 (27 * x + y) = nI (gZ z n x y) ∧ gZ z n x y ≤ 1351350 * (y - x) := fun x y h4 h5 h6 => by
      obtain ⟨q1, -, q2, -⟩ := dp_all hn hw hs hp' h36 h50 h54 he sz x y (by omega) h4 h5
      exact ⟨q1, q2⟩
    have ib : ∀ x y, y ≤ n → y - x < b - a → gZ z n x y ≤ 1351350 * (y - x) := fun x y h5 h6 => by
      by_cases h4 : x < y
      · exact (ih x y h4 h5 h6).2
      · unfold gZ
        rw [if_neg (fun h9 => h4 h9.1)]
        omega
    obtain ⟨f1, f2, f3, f4, f5⟩ := feZ_spec z h2
    have hcw : ∀ x, a < x → (x < b ∨ (x = b ∧ b = a + 1)) → cwZ z a x b = nI (cwN w s p (gZ z n) a x b) ∧ cwN w s p (gZ z n) a x b ≤ 100000000 := by
      intro x h4 h5
      refine ⟨cw_nI hn h36 h50 h54 h4 (by omega) h3 (fun h6 => (ih a x h4 (by omega) (by omega)).1) (fun h6 => (ih x b h6 h3 (by omega)).1), ?_⟩
      by_cases h6 : 1 < x - a
      · have := cwN_le (a := a) hn hw hs hp' (show x ≤ n by omega) h3 (ib a x (by omega) (by omega)) (ib x b h3 (by omega))
        omega
      · have h7 : s * SW w a b ≤ 50 * 26026 := Nat.mul_le_mul hs (SW_le hn hw h3)
        have h8 : p * SW w a x ≤ 50 * 26026 := Nat.mul_le_mul hp' (SW_le hn hw (show x ≤ n by omega))
        have h9 := ib x b h3 (by omega)
        unfold cwN
        rw [if_neg h6]
        omega
    have hfe : feZ z a b < b ∨ (feZ z a b = b ∧ b = a + 1) := by omega
    obtain ⟨c1, c2⟩ := hcw (feZ z a b) f1 hfe
    have hen := he a b h2 h3
    unfold enR at hen
    rw [c1] at hen
    have hg : gZ z n a b = cwN w s p (gZ z n) a (feZ z a b) b := by
      conv => lhs; unfold gZ
      rw [if_pos ⟨h2, h3⟩, hen, nI_clamp (by omega)]
    refine ⟨by rw [hg]; exact hen, hg, ?_, fun x h4 h5 => ?_, fun x h4 h5 => ?_⟩
    · have hmin : cwN w s p (gZ z n) a (feZ z a b) b ≤ cwN w s p (gZ z n) a (a + 1) b := by
        obtain ⟨d1, d2⟩ := hcw (a + 1) (by omega) (by omega)
        by_cases e : a + 1 < b
        · have h9 := f4 (a + 1) (by omega) e
          rw [c1, d1, nI_leI (by omega) (by omega)] at h9
          exact h9
        · rw [show feZ z a b = a + 1 by omega]
          exact Nat.le_refl _
      have h7 : s * SW w a b ≤ 50 * 26026 := Nat.mul_le_mul hs (SW_le hn hw h3)
      have h8 : p * SW w a (a + 1) ≤ 50 * 1001 := by
        refine Nat.mul_le_mul hp' ?_
        show preW w a + w a - preW w a ≤ 1001
        have := hw a (by omega)
        omega
      have h9 := ib (a + 1) b h3 (by omega)
      rw [hg]
      refine Nat.le_trans hmin ?_
      unfold cwN
      rw [if_neg (by omega)]
      have h10 : b - (a + 1) + 1 = b - a := by omega
      omega
    · obtain ⟨d1, d2⟩ := hcw x h4 (Or.inl h5)
      have h9 := f4 x h4 h5
      rw [c1, d1, nI_leI (by omega) (by omega)] at h9
      rw [hg]
      exact h9
    · obtain ⟨d1, d2⟩ := hcw x h4 (by omega)
      have h9 := f5 x h4 h5
      rw [c1, d1, nI_ltI (by omega) (by omega)] at h9
      rw [hg]
      exact h9
theorem desk_DP (hn : n ≤ 26) (hw : ∀ k, k < 26 → w k ≤ 1001) (hs : s ≤ 50) (hp' : p ≤ 50) (h36 : ∀ k, k ≤ n → z.A 36 k = nI (preW w k)) (h50 : z.A 5 0 = nI s) (h54 : z.A 5 4 = nI p) (he : ∀ a b, a < b → b ≤ n → enR z a b) : DP w s p n (gZ z n) (feZ z) ∧ ∀ a b, a < b → b ≤ n → z.A 37 (27 * a + b) = nI (gZ z n a b) := by
  refine ⟨⟨fun a b h => ?_, fun a b h1 h2 => ?_⟩, fun a b h1 h2 => (dp_all hn hw hs hp' h36 h50 h54 he (b - a) a b (Nat.le_refl _) h1 h2).1⟩
  · unfold gZ
    rw [if_neg (by omega)]
  · obtain ⟨f1, f2, f3, -, -⟩ := feZ_spec z h1
    obtain ⟨-, q1, q2, q3, q4⟩ := dp_all hn hw hs hp' h36 h50 h54 he (b - a) a b (Nat.le_refl _) h1 h2
    exact ⟨f1, f2, f3, q1, q3, q4, by omega⟩
end DP2
