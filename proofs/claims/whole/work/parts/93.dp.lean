/-! LAYING: the numbers of both sides -/
def preW (w : Nat → Nat) : Nat → Nat
  | 0 => 0
  | i + 1 => preW w i + w i
abbrev SW (w : Nat → Nat) (i j : Nat) : Nat := preW w j - preW w i
theorem pre_mono (w : Nat → Nat) {i j : Nat} (h : i ≤ j) : preW w i ≤ preW w j := by
  induction j with
  | zero => rw [show i = 0 by omega]; exact Nat.le_refl _
  | succ j ih =>
    by_cases e : i = j + 1
    · rw [e]; exact Nat.le_refl _
    · rw [preW]
      have := ih (by omega)
      omega
theorem SW_add (w : Nat → Nat) {i k j : Nat} (h1 : i ≤ k) (h2 : k ≤ j) : SW w i k + SW w k j = SW w i j := by
  have := pre_mono w h1
  have := pre_mono w h2
  unfold SW
  omega
theorem pre_le (w : Nat → Nat) (hw : ∀ k, k < 26 → w k ≤ 1001) : ∀ i, i ≤ 26 → preW w i ≤ 1001 * i
  | 0, _ => Nat.le_refl _
  | i + 1, h => by
    rw [preW]
    have := pre_le w hw i (by omega)
    have := hw i (by omega)
    omega
/-- what a part costs if its first item ends at f -/
def cwN (w : Nat → Nat) (s p : Nat) (g : Nat → Nat → Nat) (a f b : Nat) : Nat := s * SW w a b + p * SW w a f + (if 1 < f - a then g a f else 0) + g f b
/-- least costs g and first ends fe of the parts of a row of n letters -/
def DP (w : Nat → Nat) (s p n : Nat) (g fe : Nat → Nat → Nat) : Prop :=
  (∀ a b, b ≤ a → g a b = 0) ∧ ∀ a b, a < b → b ≤ n → a < fe a b ∧ fe a b ≤ b ∧ (a + 1 < b → fe a b < b) ∧ g a b = cwN w s p g a (fe a b) b ∧ (∀ x, a < x → x < b → g a b ≤ cwN w s p g a x b) ∧ (∀ x, a < x → x < fe a b → g a b < cwN w s p g a x b) ∧ g a b ≤ 40000000
/-- the first end of all: least, and the first of the least -/
theorem fel_spec (z : Sg) (i j : Nat) : ∀ (m f b : Nat), b < f → (fel z i j m f b (cwZ z i b j) = b ∨ (f ≤ fel z i j m f b (cwZ z i b j) ∧ fel z i j m f b (cwZ z i b j) < f + m)) ∧ cwZ z i (fel z i j m f b (cwZ z i b j)) j ≤ cwZ z i b j ∧ (∀ x, f ≤ x → x < f + m → cwZ z i (fel z i j m f b (cwZ z i b j)) j ≤ cwZ z i x j) ∧ (¬ fel z i j m f b (cwZ z i b j) = b → cwZ z i (fel z i j m f b (cwZ z i b j)) j < cwZ z i b j) ∧ (∀ x, f ≤ x → x < fel z i j m f b (cwZ z i b j) → cwZ z i (fel z i j m f b (cwZ z i b j)) j < cwZ z i x j)
  | 0, f, b, hb => by
    rw [fel]
    exact ⟨Or.inl rfl, Int32.le_refl _, fun x h1 h2 => absurd h2 (by omega), fun h => absurd rfl h, fun x h1 h2 => absurd h2 (by omega)⟩
  | m + 1, f, b, hb => by
    rw [fel]
    by_cases h : cwZ z i f j < cwZ z i b j
    · rw [if_pos h]
      obtain ⟨a1, a2, a3, a4, a5⟩ := fel_spec z i j m (f + 1) f (by omega)
      generalize fel z i j m (f + 1) f (cwZ z i f j) = r at a1 a2 a3 a4 a5
      simp only [i32_lt, i32_le] at *
      refine ⟨Or.inr ?_, by omega, fun x h1 h2 => ?_, fun _ => by omega, fun x h1 h2 => ?_⟩
      · rcases a1 with a1 | a1 <;> omega
      · by_cases e : x = f
        · rw [e]; exact a2
        · exact a3 x (by omega) (by omega)
      · by_cases e : x = f
        · rw [e]; exact a4 (by omega)
        · exact a5 x (by omega) h2
    · rw [if_neg h]
      obtain ⟨a1, a2, a3, a4, a5⟩ := fel_spec z i j m (f + 1) b (by omega)
      generalize fel z i j m (f + 1) b (cwZ z i b j) = r at a1 a2 a3 a4 a5
      simp only [i32_lt, i32_le] at *
      refine ⟨?_, a2, fun x h1 h2 => ?_, a4, fun x h1 h2 => ?_⟩
      · rcases a1 with a1 | a1
        · exact Or.inl a1
        · exact Or.inr (by omega)
      · by_cases e : x = f
        · rw [e]; omega
        · exact a3 x (by omega) (by omega)
      · by_cases e : x = f
        · rw [e]
          have := a4 (by omega)
          omega
        · exact a5 x (by omega) h2
theorem feZ_spec (z : Sg) {i j : Nat} (h : i < j) : i < feZ z i j ∧ feZ z i j ≤ j ∧ (i + 1 < j → feZ z i j < j) ∧ (∀ x, i < x → x < j → cwZ z i (feZ z i j) j ≤ cwZ z i x j) ∧ (∀ x, i < x → x < feZ z i j → cwZ z i (feZ z i j) j < cwZ z i x j) := by
  obtain ⟨a1, a2, a3, a4, a5⟩ := fel_spec z i j (j - (i + 2)) (i + 2) (i + 1) (by omega)
  unfold feZ
  generalize fel z i j (j - (i + 2)) (i + 2) (i + 1) (cwZ z i (i + 1) j) = r at a1 a2 a3 a4 a5
  refine ⟨by omega, by omega, fun _ => by omega, fun x h1 h2 => ?_, fun x h1 h2 => ?_⟩
  · by_cases e : x = i + 1
    · rw [e]; exact a2
    · exact a3 x (by omega) (by omega)
  · by_cases e : x = i + 1
    · rw [e]; exact a4 (by omega)
    · exact a5 x (by omega) h2
/-- cwZ reads parts within alone -/
theorem cwZ_c {z z' : Sg} {a b f : Nat} (h5 : z'.A 5 = z.A 5) (h36 : z'.A 36 = z.A 36) (hf : a < f) (hfb : f < b ∨ (f = b ∧ b = a + 1)) (h37 : ∀ x y, x < y → y ≤ b → a ≤ x → ¬ (x = a ∧ y = b) → z'.A 37 (27 * x + y) = z.A 37 (27 * x + y)) : cwZ z' a f b = cwZ z a f b := by
  have e1 : (if 1 < f - a then lstZ z' a f else 0) = (if 1 < f - a then lstZ z a f else 0) := by
    by_cases h : 1 < f - a
    · rw [if_pos h, if_pos h]
      unfold lstZ
      rw [h37 a f (by omega) (by omega) (Nat.le_refl a) (by omega)]
    · rw [if_neg h, if_neg h]
  have e2 : lstZ z' f b = lstZ z f b := by
    unfold lstZ
    by_cases h : ptP f b
    · rw [if_pos h, if_pos h, h37 f b h.1 (Nat.le_refl b) (by omega) (by omega)]
    · rw [if_neg h, if_neg h]
  unfold cwZ sumZ
  rw [e1, e2, h5, h36]
theorem fel_c {z z' : Sg} {i j : Nat} : ∀ (m f b : Nat) (l : Int32), (∀ x, f ≤ x → x < f + m → cwZ z' i x j = cwZ z i x j) → fel z' i j m f b l = fel z i j m f b l
  | 0, _, _, _, _ => rfl
  | m + 1, f, b, l, h => by
    rw [fel, fel, h f (Nat.le_refl f) (by omega), fel_c m (f + 1) f _ (fun x h1 h2 => h x (by omega) (by omega)), fel_c m (f + 1) b l (fun x h1 h2 => h x (by omega) (by omega))]
theorem feZ_c {z z' : Sg} {i j : Nat} (h : ∀ x, i < x → (x < j ∨ x = i + 1) → cwZ z' i x j = cwZ z i x j) : feZ z' i j = feZ z i j := by
  unfold feZ
  rw [h (i + 1) (by omega) (Or.inr rfl), fel_c _ _ _ _ (fun x h1 h2 => h x (by omega) (Or.inl (by omega)))]
/-- a part's entry is right -/
def enR (z : Sg) (a b : Nat) : Prop := z.A 37 (27 * a + b) = cwZ z a (feZ z a b) b
theorem enR_c {z z' : Sg} {a b : Nat} (hab : a < b) (h5 : z'.A 5 = z.A 5) (h36 : z'.A 36 = z.A 36) (h37 : ∀ x y, x < y → y ≤ b → a ≤ x → z'.A 37 (27 * x + y) = z.A 37 (27 * x + y)) (h : enR z a b) : enR z' a b := by
  have hc : ∀ x, a < x → (x < b ∨ x = a + 1) → cwZ z' a x b = cwZ z a x b := fun x h1 h2 => by
    by_cases e : x < b
    · exact cwZ_c h5 h36 h1 (Or.inl e) (fun x y h3 h4 h5 _ => h37 x y h3 h4 h5)
    · exact cwZ_c h5 h36 h1 (Or.inr (by omega)) (fun x y h3 h4 h5 _ => h37 x y h3 h4 h5)
  have hs := feZ_spec z hab
  unfold enR
  rw [h37 a b hab (Nat.le_refl b) (Nat.le_refl a), feZ_c hc, hc (feZ z a b) hs.1 (by omega)]
  exact h
theorem enR_new {z : Sg} {i j : Nat} (hij : i < j) (hj : j ≤ 26) : enR (stA z 37 (upd (z.A 37) (27 * i + j) (cwZ z i (feZ z i j) j))) i j := by
  have hx : ∀ x y, x < y → y ≤ j → i ≤ x → ¬ (x = i ∧ y = j) → (stA z 37 (upd (z.A 37) (27 * i + j) (cwZ z i (feZ z i j) j))).A 37 (27 * x + y) = z.A 37 (27 * x + y) := by
    intro x y h1 h2 h3 h4
    show upd (z.A 37) (27 * i + j) _ (27 * x + y) = _
    rw [pk_un]
    intro h9
    by_cases e : x = i
    · omega
    · omega
  have hc : ∀ x, i < x → (x < j ∨ x = i + 1) → cwZ (stA z 37 (upd (z.A 37) (27 * i + j) (cwZ z i (feZ z i j) j))) i x j = cwZ z i x j := fun x h1 h2 => by
    by_cases e : x < j
    · exact cwZ_c rfl rfl h1 (Or.inl e) hx
    · exact cwZ_c rfl rfl h1 (Or.inr (by omega)) hx
  have hs := feZ_spec z hij
  unfold enR
  rw [feZ_c hc, hc (feZ z i j) hs.1 (by omega)]
  show upd (z.A 37) (27 * i + j) _ (27 * i + j) = _
  rw [pk_us]
theorem sl3_ok {n i : Nat} (hn : n ≤ 26) : ∀ (m j : Nat) (z : Sg), j + m = n + 1 → i < j → (∀ a b, i < a → a < b → b ≤ n → enR z a b) → (∀ b, i < b → b < j → enR z i b) → (∀ a b, i ≤ a → a < b → b ≤ n → enR (sl3 i m j z) a b)
  | 0, j, z, hj, hij, h1, h2 => by
    intro a b h3 h4 h5
    rw [sl3]
    by_cases e : a = i
    · rw [e] at h4 ⊢
      exact h2 b h4 (by omega)
    · exact h1 a b (by omega) h4 h5
  | m + 1, j, z, hj, hij, h1, h2 => by
    rw [sl3]
    have hk : ∀ x y, x < y → y ≤ n → ¬ (x = i ∧ y = j) → (stA z 37 (upd (z.A 37) (27 * i + j) (cwZ z i (feZ z i j) j))).A 37 (27 * x + y) = z.A 37 (27 * x + y) := by
      intro x y h3 h4 h5
      show upd (z.A 37) (27 * i + j) _ (27 * x + y) = _
      rw [pk_un]
      intro h9
      by_cases e : x = i
      · omega
      · omega
    refine sl3_ok hn m (j + 1) _ (by omega) (by omega) (fun a b h3 h4 h5 => ?_) (fun b h3 h4 => ?_)
    · exact enR_c (z := z) h4 rfl rfl (fun x y h6 h7 h8 => hk x y h6 (by omega) (by omega)) (h1 a b h3 h4 h5)
    · by_cases e : b = j
      · rw [e]
        exact enR_new hij (by omega)
      · exact enR_c (z := z) h3 rfl rfl (fun x y h6 h7 h8 => hk x y h6 (by omega) (by omega)) (h2 b h3 (by omega))
theorem sl2_ok {n : Nat} (hn : n ≤ 26) : ∀ (i : Nat) (z : Sg), i ≤ n → (∀ a b, i ≤ a → a < b → b ≤ n → enR z a b) → ∀ a b, a < b → b ≤ n → enR (sl2 n i z) a b
  | 0, z, _, h => fun a b h1 h2 => h a b (by omega) h1 h2
  | i + 1, z, hi, h => by
    rw [sl2]
    refine sl2_ok hn i _ (by omega) ?_
    exact sl3_ok hn (n - i) (i + 1) z (by omega) (by omega) (fun a b h1 h2 h3 => h a b (by omega) h2 h3) (fun b h1 h2 => absurd h2 (by omega))
/-- sums of shares on the desk -/
theorem sl1_ok {n : Nat} {w : Nat → Nat} (hn : n ≤ 26) : ∀ (m i : Nat) (z : Sg), i + m = n → (∀ k, k < n → (if isL (z.A 23 k) then z.A 33 (z.A 23 k - 97).toNatClampNeg else 0) + 1 = nI (w k)) → (∀ k, k ≤ i → z.A 36 k = nI (preW w k)) → ∀ k, k ≤ n → (sl1 m i z).A 36 k = nI (preW w k)
  | 0, i, z, hi, _, h => fun k hk => h k (by omega)
  | m + 1, i, z, hi, hw, h => by
    rw [sl1]
    refine sl1_ok hn m (i + 1) _ (by omega) hw (fun k hk => ?_)
    show upd (z.A 36) (i + 1) (s1V z i) k = _
    by_cases e : k = i + 1
    · rw [e, pk_us]
      unfold s1V
      rw [h i (Nat.le_refl i), Int32.add_assoc, hw i (by omega), nI_add]
      rfl
    · rw [pk_un e]
      exact h k (by omega)
