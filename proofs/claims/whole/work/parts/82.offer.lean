/-! OFFERED: both sides -/
/-- the model's arrays but the marks -/
abbrev sm58 (m z : Sg) : Prop := ∀ a, ¬ a = 58 → z.A a = m.A a
theorem nxt_c {m z : Sg} (h : sm58 m z) (a : Nat) : nxt z a = nxt m a := by
  unfold nxt lgt
  rw [h 42 (by decide), h 45 (by decide), h 46 (by decide), h 47 (by decide)]
theorem arn_c {m z : Sg} (h : sm58 m z) (one other : Int32) : ∀ (k a : Nat), arn z one other k a = arn m one other k a
  | 0, _ => rfl
  | k + 1, a => by
    have hc : arC z one other a ↔ arC m one other a := by
      unfold arC
      rw [nxt_c h, h 40 (by decide), h 41 (by decide)]
    rw [arn, arn, arn_c h one other k (a + 1)]
    by_cases e : arC m one other a
    · rw [if_pos e, if_pos (hc.mpr e)]
    · rw [if_neg e, if_neg (fun h9 => e (hc.mp h9))]
theorem oin_c {m z : Sg} (h : sm58 m z) (t q W nn : Nat) : ∀ (k i u : Nat) (b : Bool), oin z t q W nn k i u b = oin m t q W nn k i u b
  | 0, _, _, _ => rfl
  | k + 1, i, u, b => by rw [oin, oin, oin_c h t q W nn k, oin_c h t q W nn k, arn_c h, h 55 (by decide), h 48 (by decide)]
theorem oin_ge (z : Sg) (t q W nn : Nat) : ∀ (k i u : Nat) (b : Bool), u ≤ (oin z t q W nn k i u b).1
  | 0, _, u, _ => Nat.le_refl u
  | k + 1, i, u, b => by
    rw [oin]
    split
    · exact oin_ge z t q W nn k (i + 1) u b
    · exact Nat.le_trans (Nat.le_succ u) (oin_ge z t q W nn k (i + 1) (u + 1) _)
theorem oin_f (z : Sg) (t q W nn : Nat) : ∀ (k i u : Nat), (oin z t q W nn k i u false).2 = false
  | 0, _, _ => rfl
  | k + 1, i, u => by
    rw [oin]
    split
    · exact oin_f z t q W nn k (i + 1) u
    · rw [Bool.false_and]
      exact oin_f z t q W nn k (i + 1) (u + 1)
theorem oin_0 (z : Sg) (t q W nn : Nat) : ∀ (k i u : Nat) (b : Bool), (oin z t q W nn k i u b).1 = 0 ↔ u = 0 ∧ ∀ j, i ≤ j → j < i + k → z.A 55 (12 * W + j) = z.A 48 (t - q + j)
  | 0, i, u, b => ⟨fun h => ⟨h, fun j h1 h2 => absurd h2 (by omega)⟩, fun h => h.1⟩
  | k + 1, i, u, b => by
    rw [oin]
    by_cases e : z.A 55 (12 * W + i) = z.A 48 (t - q + i)
    · rw [if_pos e, oin_0 z t q W nn k (i + 1) u b]
      constructor
      · rintro ⟨h1, h2⟩
        refine ⟨h1, fun j h3 h4 => ?_⟩
        by_cases e2 : j = i
        · rw [e2]; exact e
        · exact h2 j (by omega) (by omega)
      · rintro ⟨h1, h2⟩
        exact ⟨h1, fun j h3 h4 => h2 j (by omega) (by omega)⟩
    · rw [if_neg e]
      constructor
      · intro h9
        have := oin_ge z t q W nn k (i + 1) (u + 1) (b && arn z (z.A 55 (12 * W + i)) (z.A 48 (t - q + i)) nn 0)
        omega
      · rintro ⟨-, h2⟩
        exact absurd (h2 i (Nat.le_refl i) (by omega)) e
/-- the mark of a word -/
def omV (m : Sg) (t q nn V : Nat) : Int32 := if m.A 56 V = nI q then (if (oin m t q V nn q 0 0 true).2 = true ∧ (oin m t q V nn q 0 0 true).1 ≤ 2 then nI (oin m t q V nn q 0 0 true).1 else -1) else -1
theorem om1_58 (z : Sg) (W V : Nat) : (om1 z W).A 58 V = if V = W then -1 else z.A 58 V := rfl
theorem omz_58 {m z : Sg} (h : sm58 m z) (t q nn W V : Nat) (hW : m.A 56 W = nI q) : (omz z t q nn W).A 58 V = if V = W then omV m t q nn W else z.A 58 V := by
  have h1 : sm58 m (om1 z W) := fun a ha => by
    unfold om1
    rw [A_stA, if_neg ha]
    exact h a ha
  have e : omr z t q nn W = oin m t q W nn q 0 0 true := oin_c h1 t q W nn q 0 0 true
  unfold omz omV
  rw [e, if_pos hW]
  by_cases h9 : (oin m t q W nn q 0 0 true).2 = true ∧ (oin m t q W nn q 0 0 true).1 ≤ 2
  · rw [if_pos h9, if_pos h9, A_stA, if_pos rfl]
    unfold upd
    by_cases e2 : V = W
    · rw [if_pos e2, if_pos e2]
    · rw [if_neg e2, if_neg e2, om1_58, if_neg e2]
  · rw [if_neg h9, if_neg h9, om1_58]
theorem sm_om1 {m z : Sg} (h : sm58 m z) (W : Nat) : sm58 m (om1 z W) := fun a ha => by
  unfold om1
  rw [A_stA, if_neg ha]
  exact h a ha
theorem sm_omz {m z : Sg} (h : sm58 m z) (t q nn W : Nat) : sm58 m (omz z t q nn W) := fun a ha => by
  unfold omz
  split
  · rw [A_stA, if_neg ha]
    exact sm_om1 h W a ha
  · exact sm_om1 h W a ha
theorem omk_58 {m : Sg} (t q nn : Nat) : ∀ (k W : Nat) (p : Bool) (z : Sg), sm58 m z → (∀ V, (omk t q nn k W p z).2.A 58 V = if W ≤ V ∧ V < W + k then omV m t q nn V else z.A 58 V) ∧ ((omk t q nn k W p z).1 = true ↔ p = true ∨ ∃ V, W ≤ V ∧ V < W + k ∧ m.A 56 V = nI q ∧ (oin m t q V nn q 0 0 true).1 = 0) ∧ sm58 m (omk t q nn k W p z).2
  | 0, W, p, z, h => by
    rw [omk]
    refine ⟨fun V => by rw [if_neg (by omega)], ⟨Or.inl, ?_⟩, h⟩
    rintro (h9 | ⟨V, h1, h2, -⟩)
    · exact h9
    · omega
  | k + 1, W, p, z, h => by
    rw [omk, h 56 (by decide)]
    by_cases hW : m.A 56 W = nI q
    · rw [if_pos hW]
      obtain ⟨a1, a2, a3⟩ := omk_58 (m := m) t q nn k (W + 1) (p || decide ((omr z t q nn W).1 = 0)) (omz z t q nn W) (sm_omz h _ _ _ _)
      refine ⟨fun V => ?_, ?_, a3⟩
      · rw [a1, omz_58 h t q nn W V hW]
        by_cases e : V = W
        · rw [if_neg (by omega), if_pos e, if_pos (by omega), e]
        · by_cases e2 : W + 1 ≤ V ∧ V < W + 1 + k
          · rw [if_pos e2, if_pos (by omega)]
          · rw [if_neg e2, if_neg e, if_neg (by omega)]
      · have e : omr z t q nn W = oin m t q W nn q 0 0 true := oin_c (sm_om1 h W) t q W nn q 0 0 true
        rw [a2, Bool.or_eq_true_iff, decide_eq_true_iff, e]
        constructor
        · rintro ((h9 | h9) | ⟨V, h1, h2, h3⟩)
          · exact Or.inl h9
          · exact Or.inr ⟨W, Nat.le_refl W, by omega, hW, h9⟩
          · exact Or.inr ⟨V, by omega, by omega, h3⟩
        · rintro (h9 | ⟨V, h1, h2, h3, h4⟩)
          · exact Or.inl (Or.inl h9)
          · by_cases e2 : V = W
            · rw [e2] at h4
              exact Or.inl (Or.inr h4)
            · exact Or.inr ⟨V, by omega, by omega, h3, h4⟩
    · rw [if_neg hW]
      obtain ⟨a1, a2, a3⟩ := omk_58 (m := m) t q nn k (W + 1) p (om1 z W) (sm_om1 h W)
      refine ⟨fun V => ?_, ?_, a3⟩
      · rw [a1, om1_58]
        by_cases e : V = W
        · rw [if_neg (by omega), if_pos e, if_pos (by omega), e]
          unfold omV
          rw [if_neg hW]
        · by_cases e2 : W + 1 ≤ V ∧ V < W + 1 + k
          · rw [if_pos e2, if_pos (by omega)]
          · rw [if_neg e2, if_neg e, if_neg (by omega)]
      · rw [a2]
        constructor
        · rintro (h9 | ⟨V, h1, h2, h3⟩)
          · exact Or.inl h9
          · exact Or.inr ⟨V, by omega, by omega, h3⟩
        · rintro (h9 | ⟨V, h1, h2, h3, h4⟩)
          · exact Or.inl h9
          · by_cases e2 : V = W
            · rw [e2] at h3
              exact absurd h3 hW
            · exact Or.inr ⟨V, by omega, by omega, h3, h4⟩
theorem slp_oin {d m : Sg} {t q nn V : Nat} (h1 : ∀ i, i < q → d.A 25 (12 * V + i) = m.A 55 (12 * V + i)) (h2 : ∀ i, i < q → d.A 29 i = m.A 48 (t - q + i)) (h3 : ∀ i, i < q → (nbP d (m.A 55 (12 * V + i)) (m.A 48 (t - q + i)) ↔ arn m (m.A 55 (12 * V + i)) (m.A 48 (t - q + i)) nn 0 = true)) : ∀ (k i u : Nat), i + k = q → u ≤ 2 → slp d V k i u = if (oin m t q V nn k i u true).2 = true ∧ (oin m t q V nn k i u true).1 ≤ 2 then nI (oin m t q V nn k i u true).1 else -1
  | 0, i, u, hi, hu => by rw [slp, oin, if_pos ⟨rfl, hu⟩]
  | k + 1, i, u, hi, hu => by
    rw [slp, oin, h1 i (by omega), h2 i (by omega)]
    by_cases e : m.A 55 (12 * V + i) = m.A 48 (t - q + i)
    · rw [if_pos e, if_pos e, slp_oin h1 h2 h3 k (i + 1) u (by omega) hu]
    · rw [if_neg e, if_neg e, Bool.true_and]
      by_cases e2 : 2 < u + 1 ∨ ¬ nbP d (m.A 55 (12 * V + i)) (m.A 48 (t - q + i))
      · rw [if_pos e2, if_neg]
        rintro ⟨g1, g2⟩
        rcases e2 with e2 | e2
        · have := oin_ge m t q V nn k (i + 1) (u + 1) (arn m (m.A 55 (12 * V + i)) (m.A 48 (t - q + i)) nn 0)
          omega
        · have e3 : arn m (m.A 55 (12 * V + i)) (m.A 48 (t - q + i)) nn 0 = false := by
            cases e4 : arn m (m.A 55 (12 * V + i)) (m.A 48 (t - q + i)) nn 0 with
            | false => rfl
            | true => exact absurd ((h3 i (by omega)).mpr e4) e2
          rw [e3, oin_f] at g1
          exact absurd g1 (by decide)
      · rw [if_neg e2]
        have e3 : arn m (m.A 55 (12 * V + i)) (m.A 48 (t - q + i)) nn 0 = true := (h3 i (by omega)).mp (Classical.byContradiction fun h9 => e2 (Or.inr h9))
        rw [e3]
        exact slp_oin h1 h2 h3 k (i + 1) (u + 1) (by omega) (Nat.le_of_not_lt fun h9 => e2 (Or.inl h9))
theorem nb_c {z z0 : Sg} (h : z.A 16 = z0.A 16) (x v : Int32) : nbP z x v ↔ nbP z0 x v := by
  unfold nbP
  rw [h]
theorem slp_c {z z0 : Sg} (hz : ∀ a, ¬ a = 30 → ¬ a = 31 → z.A a = z0.A a) (W : Nat) : ∀ (k i u : Nat), slp z W k i u = slp z0 W k i u
  | 0, _, _ => rfl
  | k + 1, i, u => by
    have hn : (2 < u + 1 ∨ ¬ nbP z (z0.A 25 (12 * W + i)) (z0.A 29 i)) ↔ (2 < u + 1 ∨ ¬ nbP z0 (z0.A 25 (12 * W + i)) (z0.A 29 i)) := by rw [nb_c (hz 16 (by decide) (by decide))]
    rw [slp, slp, slp_c hz W k, slp_c hz W k, hz 25 (by decide) (by decide), hz 29 (by decide) (by decide)]
    by_cases e : z0.A 25 (12 * W + i) = z0.A 29 i
    · rw [if_pos e, if_pos e]
    · rw [if_neg e, if_neg e]
      by_cases e2 : 2 < u + 1 ∨ ¬ nbP z0 (z0.A 25 (12 * W + i)) (z0.A 29 i)
      · rw [if_pos e2, if_pos (hn.mpr e2)]
      · rw [if_neg e2, if_neg (fun h9 => e2 (hn.mp h9))]
section Offer
variable {mk ct : Nat → Int32} {N q : Nat}
theorem sof_ok {z0 : Sg} (hcond : ∀ V, V < N → (ofC z0 q V → mk V = slp z0 V q 0 0 ∧ 0 ≤ (mk V).toInt) ∧ (¬ ofC z0 q V → mk V = -1)) (hct : ∀ x, x < N → z0.A 27 x = ct x) : ∀ (m W : Nat) (z : Sg) (L : List Nat), W + m = N → IV mk ct z L W → bkOK z N → (∀ a, ¬ a = 30 → ¬ a = 31 → z.A a = z0.A a) → ∃ L', IV mk ct (sof q m W L.length z) L' N
  | 0, W, z, L, hW, hI, _, _ => by
    rw [sof, ← show W = N by omega]
    exact ⟨L, hI⟩
  | m + 1, W, z, L, hW, hI, hb, hz => by
    have hc : ofC z q W ↔ ofC z0 q W := by
      unfold ofC
      rw [hz 26 (by decide) (by decide), slp_c hz]
    obtain ⟨c1, c2⟩ := hcond W (by omega)
    rw [sof]
    by_cases h : ofC z q W
    · obtain ⟨hm, hp0⟩ := c1 (hc.mp h)
      obtain ⟨L', a1, a2⟩ := IV_put hI hb (by omega) (fun x hx => by rw [hz 27 (by decide) (by decide)]; exact hct x hx) hp0
      rw [hm, ← slp_c hz W q 0 0] at a1
      rw [if_pos h, ← a2]
      exact sof_ok hcond hct m (W + 1) _ L' (by omega) a1 (bk_enl hb _ _) (fun a h1 h2 => by rw [A_enl _ _ _ _ h1 h2]; exact hz a h1 h2)
    · rw [if_neg h]
      exact sof_ok hcond hct m (W + 1) z L (by omega) (IV_skip hI (by rw [c2 (fun h9 => h (hc.mpr h9))]; decide)) hb hz
end Offer
