/-! LAYING: the model's loops -/
section DP4
variable {n s p : Nat} {w : Nat → Nat} {g fe : Nat → Nat → Nat}
/-- all but the sums of part (i, j) is the same -/
def E60 (i j : Nat) (z z' : Sg) : Prop := z'.A = z.A ∧ z'.L 61 = z.L 61 ∧ ∀ a b q, ¬ (a = i ∧ b = j) → b ≤ 26 → q ≤ 27 → z'.L 60 (ixR a b q) = z.L 60 (ixR a b q)
theorem ixR_ne {a b q i j q' : Nat} (h : ¬ (a = i ∧ b = j)) (hb : b ≤ 26) (hj : j ≤ 26) (hq : q ≤ 27) (hq' : q' ≤ 27) : ¬ ixR a b q = ixR i j q' := by
  unfold ixR
  intro h9
  have h1 : 27 * a + b = 27 * i + j := by omega
  have h2 : a = i := by omega
  exact h ⟨h2, by omega⟩
theorem E60_itm {i j : Nat} {z z' : Sg} (h : E60 i j z z') (a b q : Nat) : itm z' a b q = itm z a b q := by
  have hw : ∀ (m k : Nat) (x : Int64), wgs z' m k x = wgs z m k x := by
    intro m
    induction m with
    | zero => intro k x; rfl
    | succ m ih => intro k x; rw [wgs, wgs, ih, h.1]
  unfold itm
  rw [hw, h.1, h.2.1]
theorem E60_skm {i j : Nat} {z z' : Sg} (h : E60 i j z z') (hj : j ≤ 26) {q : Nat} (hq : q < 27) : ∀ (m k : Nat) (b : Int64), i < k → skm z' i j q m k b = skm z i j q m k b := by
  intro m
  induction m with
  | zero => intro k b _; rfl
  | succ m ih =>
    intro k b hk
    show skm z' i j q m (k + 1) _ = skm z i j q m (k + 1) _
    rw [ih (k + 1) _ (by omega), E60_itm h, h.2.2 k j (q + 1) (by omega) hj (by omega)]
theorem E60_rsV {i j : Nat} {z z' : Sg} (h : E60 i j z z') (hj : j ≤ 26) {q : Nat} (hq : q ≤ 27) : rsV z' i j q = rsV z i j q := by
  unfold rsV
  by_cases e : q = 27
  · by_cases e2 : i < j
    · rw [if_pos ⟨e, e2⟩, if_pos ⟨e, e2⟩]
    · rw [if_neg (show ¬ (q = 27 ∧ i < j) from fun h9 => e2 h9.2), if_neg (show ¬ (q = 27 ∧ i < j) from fun h9 => e2 h9.2), if_pos e, if_pos e]
  · rw [if_neg (show ¬ (q = 27 ∧ i < j) from fun h9 => e h9.1), if_neg (show ¬ (q = 27 ∧ i < j) from fun h9 => e h9.1), if_neg e, if_neg e, E60_skm h hj (by omega) _ _ _ (by omega)]
theorem spl_ok {i j : Nat} (hj : j ≤ 26) : ∀ (k : Nat) (z : Sg), k ≤ 27 → E60 i j z (spl i j k z) ∧ (∀ q, 1 ≤ q → q ≤ k → (spl i j k z).L 60 (ixR i j q) = rsV z i j q) ∧ (∀ q, k < q → q ≤ 27 → (spl i j k z).L 60 (ixR i j q) = z.L 60 (ixR i j q))
  | 0, z, _ => ⟨⟨rfl, rfl, fun _ _ _ _ _ _ => rfl⟩, fun q h1 h2 => absurd h2 (by omega), fun q _ _ => rfl⟩
  | k + 1, z, hk => by
    rw [spl]
    have he : E60 i j z (stL z 60 (vp_updL (z.L 60) (ixR i j (k + 1)) (rsV z i j (k + 1)))) := by
      refine ⟨rfl, rfl, fun a b q h1 h2 h3 => ?_⟩
      show vp_updL (z.L 60) (ixR i j (k + 1)) _ (ixR a b q) = _
      rw [pk_uLn (ixR_ne h1 h2 hj h3 hk)]
    obtain ⟨⟨a1, a2, a3⟩, a4, a5⟩ := spl_ok hj k (stL z 60 (vp_updL (z.L 60) (ixR i j (k + 1)) (rsV z i j (k + 1)))) (by omega)
    refine ⟨⟨a1.trans he.1, a2.trans he.2.1, fun a b q h1 h2 h3 => (a3 a b q h1 h2 h3).trans (he.2.2 a b q h1 h2 h3)⟩, fun q h1 h2 => ?_, fun q h1 h2 => ?_⟩
    · by_cases e : q = k + 1
      · rw [e, a5 (k + 1) (by omega) hk]
        show vp_updL (z.L 60) (ixR i j (k + 1)) _ (ixR i j (k + 1)) = _
        rw [pk_uLs]
      · rw [a4 q h1 (by omega), E60_rsV he hj (by omega)]
    · rw [a5 q (by omega) h2]
      show vp_updL (z.L 60) (ixR i j (k + 1)) _ (ixR i j q) = _
      rw [pk_uLn (by unfold ixR; omega)]
theorem MW.c {z z' : Sg} (h : MW z n s p w) (hA : z'.A = z.A) : MW z' n s p w := by
  unfold MW
  rw [hA]
  exact h
theorem sij_ok {z : Sg} (h : MW z n s p w) (hd : DP w s p n g fe) (hn : n ≤ 26) (hw : ∀ k, k < 26 → w k ≤ 1001) (hs : s ≤ 50) (hp' : p ≤ 50) {i j : Nat} (hij : i ≤ j) (hj : j ≤ n) (ho : ∀ a b, a ≤ b → b ≤ n → b - a < j - i → okSm z s w g a b) : (sij i j z).A = z.A ∧ okSm (sij i j z) s w g i j ∧ (∀ a b, a ≤ b → b ≤ n → ¬ (a = i ∧ b = j) → okSm z s w g a b → okSm (sij i j z) s w g a b) := by
  unfold sij
  have key : ∀ z1 : Sg, z1.A = z.A → z1.L 60 = z.L 60 → (∀ a b, b ≤ n → ¬ (a = i ∧ b = j) → z1.L 61 (27 * a + b) = z.L 61 (27 * a + b)) → (1 < j - i → z1.L 61 (27 * i + j) = lN (g i j)) → (spl i j 27 z1).A = z.A ∧ okSm (spl i j 27 z1) s w g i j ∧ (∀ a b, a ≤ b → b ≤ n → ¬ (a = i ∧ b = j) → okSm z s w g a b → okSm (spl i j 27 z1) s w g a b) := by
    intro z1 k1 k2 k3 k4
    obtain ⟨⟨a1, a2, a3⟩, a4, -⟩ := spl_ok (i := i) (j := j) (by omega) 27 z1 (Nat.le_refl _)
    have oth : ∀ a b, a ≤ b → b ≤ n → ¬ (a = i ∧ b = j) → okSm z s w g a b → okSm z1 s w g a b := fun a b h1 h2 h3 h4 => ⟨fun q h5 h6 => by rw [k2]; exact h4.1 q h5 h6, fun h5 => by rw [k3 a b h2 h3]; exact h4.2 h5⟩
    refine ⟨a1.trans k1, ⟨fun q h1 h2 => ?_, fun h1 => by rw [a2]; exact k4 h1⟩, fun a b h1 h2 h3 h4 => ?_⟩
    · rw [a4 q h1 (by omega)]
      exact rsV_eq (h.c k1) hd hn hw hs hp' hij hj h1 h2 (fun a b h3 h4 h5 => oth a b h3 h4 (by omega) (ho a b h3 h4 h5)) k4
    · obtain ⟨o1, o2⟩ := oth a b h1 h2 h3 h4
      exact ⟨fun q h5 h6 => by rw [a3 a b q h3 (by omega) (by omega)]; exact o1 q h5 h6, fun h5 => by rw [a2]; exact o2 h5⟩
  by_cases e : i + 1 < j
  · rw [if_pos e]
    refine key _ rfl rfl (fun a b h1 h2 => ?_) (fun _ => ?_)
    · show vp_updL (z.L 61) (27 * i + j) _ (27 * a + b) = _
      rw [pk_uLn]
      intro h9
      have : a = i := by omega
      exact h2 ⟨this, by omega⟩
    · show vp_updL (z.L 61) (27 * i + j) _ (27 * i + j) = _
      rw [pk_uLs]
      exact inV_eq h hd hn hw hs hp' e hj ho
  · rw [if_neg e]
    exact key z rfl rfl (fun _ _ _ _ => rfl) (fun h9 => absurd h9 (by omega))
theorem sis_ok {sz : Nat} (hd : DP w s p n g fe) (hn : n ≤ 26) (hw : ∀ k, k < 26 → w k ≤ 1001) (hs : s ≤ 50) (hp' : p ≤ 50) (hsz : sz ≤ n) : ∀ (m i : Nat) (z : Sg), i + m = n + 1 - sz → MW z n s p w → (∀ a b, a ≤ b → b ≤ n → (b - a < sz ∨ (b - a = sz ∧ a < i)) → okSm z s w g a b) → (sis sz m i z).A = z.A ∧ ∀ a b, a ≤ b → b ≤ n → b - a < sz + 1 → okSm (sis sz m i z) s w g a b
  | 0, i, z, hi, _, ho => ⟨rfl, fun a b h1 h2 h3 => ho a b h1 h2 (by omega)⟩
  | m + 1, i, z, hi, h, ho => by
    rw [sis]
    obtain ⟨a1, a2, a3⟩ := sij_ok h hd hn hw hs hp' (i := i) (j := i + sz) (by omega) (by omega) (fun a b h1 h2 h3 => ho a b h1 h2 (Or.inl (by omega)))
    obtain ⟨b1, b2⟩ := sis_ok hd hn hw hs hp' hsz m (i + 1) (sij i (i + sz) z) (by omega) (h.c a1) (fun a b h1 h2 h3 => by
      by_cases e : a = i ∧ b = i + sz
      · rw [e.1, e.2]
        exact a2
      · exact a3 a b h1 h2 e (ho a b h1 h2 (by omega)))
    exact ⟨b1.trans a1, b2⟩
theorem ssz_ok (hd : DP w s p n g fe) (hn : n ≤ 26) (hw : ∀ k, k < 26 → w k ≤ 1001) (hs : s ≤ 50) (hp' : p ≤ 50) : ∀ (m sz : Nat) (z : Sg), sz + m = n + 1 → MW z n s p w → (∀ a b, a ≤ b → b ≤ n → b - a < sz → okSm z s w g a b) → (ssz n m sz z).A = z.A ∧ ∀ a b, a ≤ b → b ≤ n → okSm (ssz n m sz z) s w g a b
  | 0, sz, z, hi, _, ho => ⟨rfl, fun a b h1 h2 => ho a b h1 h2 (by omega)⟩
  | m + 1, sz, z, hi, h, ho => by
    rw [ssz]
    obtain ⟨a1, a2⟩ := sis_ok (sz := sz) hd hn hw hs hp' (by omega) (n + 1 - sz) 0 z (by omega) h (fun a b h1 h2 h3 => ho a b h1 h2 (by omega))
    obtain ⟨b1, b2⟩ := ssz_ok hd hn hw hs hp' m (sz + 1) _ (by omega) (h.c a1) (fun a b h1 h2 h3 => a2 a b h1 h2 h3)
    exact ⟨b1.trans a1, b2⟩
/-- where the model ends an item: where the desk does -/
theorem hK_of {z : Sg} (h : MW z n s p w) (hd : DP w s p n g fe) (hn : n ≤ 26) (hw : ∀ k, k < 26 → w k ≤ 1001) (hs : s ≤ 50) (hp' : p ≤ 50) (ho : ∀ a b, a ≤ b → b ≤ n → okSm z s w g a b) : hK z (fun f j _ _ => fe f j) n := by
  intro f j q wh h1 h2 h3 h4 h5
  obtain ⟨d1, d2, d3, d4, d5, d6, d7⟩ := hd.2 f j h1 h2
  have hc : ∀ x, f < x → x ≤ j → itr z f x j q = lN (cwN w s p g f x j + (q - 1) * s * SW w f j) ∧ cwN w s p g f x j + (q - 1) * s * SW w f j < 2 ^ 31 := fun x h6 h7 => by
    refine cand h hd hn hw hs hp' h1 h2 h6 h7 h4 h3 (fun h8 => (ho f x (by omega) (by omega)).2 h8) ?_
    have h8 := (ho x j h7 h2).1 (q + 1) (by omega) (by omega)
    rw [Nat.add_sub_cancel] at h8
    exact h8
  have hdu : duM z f j q wh = lN (g f j + (q - 1) * s * SW w f j) := by
    unfold duM
    by_cases e : wh = true
    · rw [if_pos e, (ho f j (by omega) h2).2 (by have := h5 e; omega), (h5 e).2, Nat.sub_self, Nat.zero_mul, Nat.zero_mul, Nat.add_zero]
    · rw [if_neg e]
      exact (ho f j (by omega) h2).1 q h4 h3
  obtain ⟨e1, e2⟩ := hc (fe f j) d1 d2
  refine ⟨d1, d2, fun e => d3 (h5 e).1, ?_, fun x h6 h7 h8 => ?_⟩
  · rw [hdu, e1, ← d4]
  · have h7' : x < fe f j := h7
    obtain ⟨g1, g2⟩ := hc x h6 (by omega)
    rw [← d4] at e2
    rw [hdu, g1, lN_eq g2 e2] at h8
    have := d6 x h6 h7'
    omega
end DP4
