/-! THE TRAY, both sides: rows of lights, places, neighbours -/
def pr (m : Sg) (a b : Nat) (x y : Nat) : Prop := m.A 40 x = 1 ∧ m.A 40 y = 1 ∧ ((m.A 41 x = nI (97 + a) ∧ m.A 41 y = nI (97 + b)) ∨ (m.A 41 x = nI (97 + b) ∧ m.A 41 y = nI (97 + a)))
def RI (d m : Sg) (n i : Nat) (row : Nat → List Nat) : Prop :=
  (∀ g, g < n → (row g).length < i ∧ d.A 11 g = nI (row g).length ∧ m.A 46 g = nI (row g).length ∧ d.A 12 g = nx (row g)[0]? ∧ d.A 13 g = nx (row g)[(row g).length - 1]?) ∧
  (∀ (g k x : Nat), g < n → (row g)[k]? = some x → 0 < x ∧ x < i ∧ m.A 45 (60 * g + k) = nI x ∧ m.A 42 x = nI g ∧ m.A 44 x = 1 ∧ m.A 47 x = nI (k + 1) ∧ d.A 10 x = nI (k + 1) ∧ d.A 14 x = nx (row g)[k + 1]?) ∧
  (∀ x, 0 < x → x < i → m.A 44 x = 1 → ∃ (g k : Nat), g < n ∧ (row g)[k]? = some x) ∧
  (∀ x, x < n → (x = 0 ∨ i ≤ x ∨ m.A 44 x = 0) → m.A 47 x = -1 ∧ d.A 10 x = -1 ∧ d.A 14 x = -1) ∧
  (∀ a b, a < 26 → b < 26 → (bt (d.A 16 a) b = true ↔ ∃ (g k x y : Nat), g < n ∧ (row g)[k]? = some x ∧ (row g)[k + 1]? = some y ∧ pr m a b x y))
theorem RI.c {d m d' m' : Sg} {n i : Nat} {row : Nat → List Nat} (h : RI d m n i row) (hd : ∀ a, 10 ≤ a → a ≤ 16 → ¬ a = 15 → d'.A a = d.A a) (hm : ∀ a, 40 ≤ a → a ≤ 47 → m'.A a = m.A a) : RI d' m' n i row := by
  unfold RI pr
  rw [hd 10 (by decide) (by decide) (by decide), hd 11 (by decide) (by decide) (by decide), hd 12 (by decide) (by decide) (by decide), hd 13 (by decide) (by decide) (by decide), hd 14 (by decide) (by decide) (by decide), hd 16 (by decide) (by decide) (by decide), hm 40 (by decide) (by decide), hm 41 (by decide) (by decide), hm 42 (by decide) (by decide), hm 44 (by decide) (by decide), hm 45 (by decide) (by decide), hm 46 (by decide) (by decide), hm 47 (by decide) (by decide)]
  exact h
theorem b_one {x : Nat} : bt 1 x = decide (x = 0) := by
  unfold bt
  by_cases h : x < 32
  · exact (by decide +kernel : ∀ x, x < 32 → (1 : Int32).toBitVec.getLsbD x = decide (x = 0)) x h
  · rw [BitVec.getLsbD_of_ge _ _ (by omega)]
    exact (decide_eq_false (by omega)).symm
theorem b_put {v : Int32} {b b' : Nat} (hb : b < 26) (hb' : b' < 26) : bt (v ||| (1 <<< (nI b &&& 31))) b' = true ↔ bt v b' = true ∨ b' = b := by
  rw [b_or, b_shl b (by omega) 1 (by omega), b_one, Bool.or_eq_true_iff, Bool.and_eq_true_iff, decide_eq_true_iff, decide_eq_true_iff]
  constructor
  · rintro (h | ⟨h1, h2⟩)
    · exact Or.inl h
    · exact Or.inr (by omega)
  · rintro (h | h)
    · exact Or.inl h
    · exact Or.inr ⟨by omega, by omega⟩
theorem b_get {v : Int32} {b : Nat} (hb : b < 26) : ((v >>> (nI b &&& 31)) &&& 1) = 1 ↔ bt v b = true := by
  constructor
  · intro h
    have h1 : bt ((v >>> (nI b &&& 31)) &&& 1) 0 = bt 1 0 := by rw [h]
    rw [b_and, b_sshr b (by omega) v (by omega), if_pos (by omega)] at h1
    simpa [b_one] using h1
  · intro h
    refine b_ext fun i hi => ?_
    rw [b_and, b_one]
    by_cases e : i = 0
    · rw [e, b_sshr b (by omega) v (by omega), if_pos (by omega), Nat.add_zero, h]
      rfl
    · rw [decide_eq_false e, Bool.and_false]
theorem jnF_b {f : Nat → Int32} {a b a' b' : Nat} (ha : a < 26) (hb : b < 26) (hb' : b' < 26) : bt (jnF f (nI a) (nI b) a') b' = true ↔ bt (f a') b' = true ∨ (a' = a ∧ b' = b) := by
  unfold jnF
  rw [nI_clamp (by omega)]
  by_cases e : a' = a
  · rw [e, pk_us, b_put hb hb']
    constructor
    · rintro (h | h)
      · exact Or.inl h
      · exact Or.inr ⟨rfl, h⟩
    · rintro (h | h)
      · exact Or.inl h
      · exact Or.inr h.2
  · rw [pk_un e]
    constructor
    · exact Or.inl
    · rintro (h | h)
      · exact h
      · exact absurd h.1 e
/-- join, bit by bit -/
theorem jn_b {z : Sg} {o t a b : Nat} (ho : o < 60) (ht : t < 60) (ha : a < 26) (hb : b < 26) : bt ((jn z (nI o) (nI t)).A 16 a) b = true ↔ bt (z.A 16 a) b = true ∨ (z.A 7 o = 1 ∧ z.A 7 t = 1 ∧ ((z.A 8 o = nI (97 + a) ∧ z.A 8 t = nI (97 + b)) ∨ (z.A 8 o = nI (97 + b) ∧ z.A 8 t = nI (97 + a)))) := by
  have hoc : (nI o).toNatClampNeg = o := nI_clamp (by omega)
  have htc : (nI t).toNatClampNeg = t := nI_clamp (by omega)
  have hL : ∀ k, k < 26 → isL (nI (97 + k)) := fun k hk => ⟨by rw [nI_toInt (by omega)]; omega, by rw [nI_toInt (by omega)]; omega⟩
  unfold jn
  by_cases h : jnOK z (nI o) (nI t)
  · rw [if_pos h]
    obtain ⟨h1, h2, h3, h4⟩ := h
    rw [hoc] at h1 h3
    rw [htc] at h2 h4
    obtain ⟨p, hp1, hp2, hp3⟩ := letter_sub h3
    obtain ⟨q, hq1, hq2, hq3⟩ := letter_sub h4
    rw [A_stA, if_pos rfl, hoc, htc, hp2, hq2, jnF_b hq1 hp1 hb, jnF_b hp1 hq1 hb, hp3, hq3, nI_eq (by omega) (by omega), nI_eq (by omega) (by omega), nI_eq (by omega) (by omega), nI_eq (by omega) (by omega)]
    constructor
    · rintro ((h9 | h9) | h9)
      · exact Or.inl h9
      · exact Or.inr ⟨h1, h2, Or.inl ⟨by omega, by omega⟩⟩
      · exact Or.inr ⟨h1, h2, Or.inr ⟨by omega, by omega⟩⟩
    · rintro (h9 | ⟨-, -, h9⟩)
      · exact Or.inl (Or.inl h9)
      · rcases h9 with h9 | h9
        · exact Or.inl (Or.inr ⟨by omega, by omega⟩)
        · exact Or.inr ⟨by omega, by omega⟩
  · rw [if_neg h]
    constructor
    · exact Or.inl
    · rintro (h9 | ⟨h1, h2, h9⟩)
      · exact h9
      · refine absurd ?_ h
        rcases h9 with ⟨h3, h4⟩ | ⟨h3, h4⟩
        · exact ⟨by rw [hoc]; exact h1, by rw [htc]; exact h2, by rw [hoc, h3]; exact hL a ha, by rw [htc, h4]; exact hL b hb⟩
        · exact ⟨by rw [hoc]; exact h1, by rw [htc]; exact h2, by rw [hoc, h3]; exact hL b hb, by rw [htc, h4]; exact hL a ha⟩
theorem A_jn {a : Nat} (h : ¬ a = 16) (z : Sg) (o t : Int32) : (jn z o t).A a = z.A a := by
  unfold jn
  split
  · rw [A_stA, if_neg h, A_stA, if_neg h]
  · rfl
theorem app_get {l : List Nat} {i k x : Nat} : (l ++ [i])[k]? = some x ↔ l[k]? = some x ∨ (k = l.length ∧ x = i) := by
  rcases Nat.lt_trichotomy k l.length with h | h | h
  · rw [List.getElem?_append_left h]
    constructor
    · exact Or.inl
    · rintro (h9 | h9)
      · exact h9
      · omega
  · rw [List.getElem?_append_right (by omega), h, Nat.sub_self]
    constructor
    · intro h9
      simp at h9
      exact Or.inr ⟨rfl, h9.symm⟩
    · rintro (h9 | h9)
      · rw [List.getElem?_eq_none (by omega)] at h9
        exact absurd h9 (by simp)
      · simp [h9.2]
  · rw [List.getElem?_eq_none (by simp; omega)]
    constructor
    · intro h9
      exact absurd h9 (by simp)
    · rintro (h9 | h9)
      · rw [List.getElem?_eq_none (by omega)] at h9
        exact absurd h9 (by simp)
      · omega
theorem get_lt {l : List Nat} {k x : Nat} (h : l[k]? = some x) : k < l.length := (List.getElem?_eq_some_iff.mp h).1
theorem app_nx {l : List Nat} {i k : Nat} (h : k + 1 < l.length) : (l ++ [i])[k + 1]? = l[k + 1]? := List.getElem?_append_left h
/-- one node more: what the desk's rows are behind it -/
def st3 (d d' : Sg) (i g len last : Nat) : Prop := d'.A 11 = upd (d.A 11) g (nI (len + 1)) ∧ d'.A 10 = upd (d.A 10) i (nI (len + 1)) ∧ d'.A 13 = upd (d.A 13) g (nI i) ∧ d'.A 12 = (if len = 0 then upd (d.A 12) g (nI i) else d.A 12) ∧ d'.A 14 = (if len = 0 then d.A 14 else upd (d.A 14) last (nI i)) ∧ ∀ a b, a < 26 → b < 26 → (bt (d'.A 16 a) b = true ↔ bt (d.A 16 a) b = true ∨ (0 < len ∧ d.A 7 last = 1 ∧ d.A 7 i = 1 ∧ ((d.A 8 last = nI (97 + a) ∧ d.A 8 i = nI (97 + b)) ∨ (d.A 8 last = nI (97 + b) ∧ d.A 8 i = nI (97 + a)))))
theorem st3_sb {d : Sg} {n i g len last : Nat} (hF : d.F 6 10 = nI n) (hn : n ≤ 60) (hi : i < n) (hg : g < n) (h11 : d.A 11 g = nI len) (h0 : len = 0 → d.A 13 g = -1) (h1 : 0 < len → last < n ∧ d.A 13 g = nI last) : st3 d (sb d (nI i) (nI g)) i g len last := by
  have hgc : (nI g).toNatClampNeg = g := nI_clamp (by omega)
  have hic : (nI i).toNatClampNeg = i := nI_clamp (by omega)
  by_cases hl : len = 0
  · have h13 := h0 hl
    unfold sb
    rw [hgc, h13, if_neg nl_m1]
    unfold sb1
    refine ⟨?_, ?_, ?_, ?_, ?_, ?_⟩
    · show upd (d.A 11) (nI g).toNatClampNeg _ = _
      rw [hgc, h11, nI_1]
    · show upd (d.A 10) (nI i).toNatClampNeg _ = _
      rw [hgc, hic, pk_us, h11, nI_1]
    · show upd (d.A 13) (nI g).toNatClampNeg _ = _
      rw [hgc]
    · rw [if_pos hl]
      rfl
    · rw [if_pos hl]
      rfl
    · intro a b ha hb
      constructor
      · exact Or.inl
      · rintro (h9 | h9)
        · exact h9
        · omega
  · obtain ⟨h2, h3⟩ := h1 (by omega)
    have hlc : (nI last).toNatClampNeg = last := nI_clamp (by omega)
    unfold sb
    rw [hgc, h3, if_pos ⟨by rw [nI_toInt (by omega)]; omega, by rw [hF, nI_toInt (by omega), nI_toInt (by omega)]; omega⟩, hlc]
    refine ⟨?_, ?_, ?_, ?_, ?_, ?_⟩
    · rw [A_jn (by decide)]
      show upd (d.A 11) (nI g).toNatClampNeg _ = _
      rw [hgc, h11, nI_1]
    · rw [A_jn (by decide)]
      show upd (d.A 10) (nI i).toNatClampNeg _ = _
      rw [hgc, hic, pk_us, h11, nI_1]
    · rw [A_jn (by decide)]
      show upd (d.A 13) (nI g).toNatClampNeg _ = _
      rw [hgc]
    · rw [A_jn (by decide), if_neg hl]
      rfl
    · rw [A_jn (by decide), if_neg hl]
      rfl
    · intro a b ha hb
      rw [jn_b (by omega) (by omega) ha hb]
      constructor
      · rintro (h9 | h9)
        · exact Or.inl h9
        · exact Or.inr ⟨by omega, h9⟩
      · rintro (h9 | h9)
        · exact Or.inl h9
        · exact Or.inr h9.2
