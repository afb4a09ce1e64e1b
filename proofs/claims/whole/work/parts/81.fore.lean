/-! NEIGHBOURS, the book, FORESEEN: both sides -/
def BR (d m : Sg) (N : Nat) : Prop := d.F 24 3 = nI N ∧ m.F 39 32 = nI N ∧ N ≤ 40 ∧ ∀ W, W < N → (∃ L, 1 ≤ L ∧ L ≤ 12 ∧ d.A 26 W = nI L ∧ m.A 56 W = nI L ∧ ∀ i, i < L → d.A 25 (12 * W + i) = m.A 55 (12 * W + i) ∧ isL (m.A 55 (12 * W + i))) ∧ d.A 27 W = m.A 57 W
theorem BR.c {d m d' m' : Sg} {N : Nat} (h : BR d m N) (h1 : d'.F 24 3 = d.F 24 3) (h2 : m'.F 39 32 = m.F 39 32) (h3 : d'.A 25 = d.A 25) (h4 : d'.A 26 = d.A 26) (h5 : d'.A 27 = d.A 27) (h6 : m'.A 55 = m.A 55) (h7 : m'.A 56 = m.A 56) (h8 : m'.A 57 = m.A 57) : BR d' m' N := by
  unfold BR
  rw [h1, h2, h3, h4, h5, h6, h7, h8]
  exact h
theorem BR.bk {d m : Sg} {N : Nat} (h : BR d m N) : bkOK d N := ⟨h.1, h.2.2.1, fun W hW => by obtain ⟨⟨L, a, b, c, -⟩, -⟩ := h.2.2.2 W hW; exact ⟨L, a, b, c⟩⟩
theorem BR.md {d m : Sg} {N : Nat} (h : BR d m N) : mdOK m N := ⟨h.2.1, h.2.2.1, fun W hW => by obtain ⟨⟨L, a, b, -, c, -⟩, -⟩ := h.2.2.2 W hW; exact ⟨L, a, b, c⟩⟩
theorem arn_iff (z : Sg) (one other : Int32) : ∀ (m a : Nat), arn z one other m a = true ↔ ∃ x, a ≤ x ∧ x < a + m ∧ arC z one other x
  | 0, a => by
    rw [arn]
    constructor
    · intro h9
      exact absurd h9 (by decide)
    · rintro ⟨x, h1, h2, -⟩
      omega
  | m + 1, a => by
    rw [arn]
    by_cases h : arC z one other a
    · rw [if_pos h]
      exact ⟨fun _ => ⟨a, Nat.le_refl a, by omega, h⟩, fun _ => rfl⟩
    · rw [if_neg h, arn_iff z one other m (a + 1)]
      constructor
      · rintro ⟨x, h1, h2, h3⟩
        exact ⟨x, by omega, by omega, h3⟩
      · rintro ⟨x, h1, h2, h3⟩
        refine ⟨x, ?_, by omega, h3⟩
        by_cases e : x = a
        · rw [e] at h3
          exact absurd h3 h
        · omega
theorem TR.near {d m : Sg} {n : Nat} {row : Nat → List Nat} (h : TR d m n row) {x v : Int32} (hx : isL x) (hv : isL v) : nbP d x v ↔ arn m x v n 0 = true := by
  have hn := h.n60
  obtain ⟨a, ha, ha2, ha3⟩ := letter_sub hx
  obtain ⟨b, hb, hb2, hb3⟩ := letter_sub hv
  have hbit : nbP d x v ↔ bt (d.A 16 a) b = true := by
    unfold nbP
    rw [ha2, hb2, nI_clamp (by omega), b_get hb]
    exact ⟨fun h9 => h9.2.2, fun h9 => ⟨hx, hv, h9⟩⟩
  rw [hbit, h.2.2.2.2.2.2 a b ha hb, arn_iff]
  have hnx : ∀ g k y : Nat, g < n → (row g)[k]? = some y → nxt m y = nx (row g)[k + 1]? := by
    intro g k y hg hy
    obtain ⟨-, -, -, e1, -, e2, -⟩ := h.2.2.2.1 g k y hg hy
    unfold nxt
    rw [e1, e2, h.lite hg (by have := get_lt hy; have := h.len hg; omega)]
  constructor
  · rintro ⟨g, k, y, w, hg, hy, hw, p1, p2, p3⟩
    have hyn := h.node hg hy
    have hwn := h.node hg hw
    refine ⟨y, by omega, by omega, p1, ?_, ?_, ?_, ?_⟩
    · rw [ha3, hb3]
      rcases p3 with p3 | p3
      · exact Or.inl p3.1
      · exact Or.inr p3.1
    · rw [hnx g k y hg hy, hw]
      exact nI_m1 (by omega)
    · rw [hnx g k y hg hy, hw]
      show m.A 40 (nI w).toNatClampNeg = 1
      rw [nI_clamp (by omega)]
      exact p2
    · rw [hnx g k y hg hy, hw]
      show m.A 41 (nI w).toNatClampNeg = _
      rw [nI_clamp (by omega), ha3, hb3]
      rcases p3 with p3 | p3
      · rw [if_pos p3.1]
        exact p3.2
      · by_cases e : m.A 41 y = nI (97 + a)
        · rw [if_pos e, p3.2, ← e]
          exact p3.1
        · rw [if_neg e]
          exact p3.2
  · rintro ⟨y, -, hy, c1, c2, c3, c4, c5⟩
    have hy0 : 0 < y := by
      rcases Nat.eq_zero_or_pos y with e | e
      · rw [e, h.1.2.2.2.2.2.1.1] at c1
        exact absurd c1 (by decide)
      · exact e
    obtain ⟨g, k, hg, hk, -, -⟩ := h.key (by omega) hy0 ((h.2.1.1 y (by omega)).2 (by rw [c1]; decide))
    rw [hnx g k y hg hk] at c3 c4 c5
    have hw : ∃ w : Nat, (row g)[k + 1]? = some w := by
      cases e : (row g)[k + 1]? with
      | none =>
        rw [e] at c3
        exact absurd rfl c3
      | some w => exact ⟨w, rfl⟩
    obtain ⟨w, hw⟩ := hw
    have hwn := h.node hg hw
    rw [hw] at c4 c5
    rw [show nx (some w) = nI w from rfl, nI_clamp (by omega)] at c4 c5
    refine ⟨g, k, y, w, hg, hk, hw, c1, c4, ?_⟩
    rw [← ha3, ← hb3]
    by_cases e : m.A 41 y = x
    · rw [if_pos e] at c5
      exact Or.inl ⟨e, c5⟩
    · rw [if_neg e] at c5
      rcases c2 with c2 | c2
      · exact absurd c2 e
      · exact Or.inr ⟨c2, c5⟩
/-- letters written, on both sides -/
theorem mwr_wr {f : Nat → Int32} {r : List Int32} (h : TX f r) : ∀ (k n : Nat), n + k = r.length → mwr f r.length k n = n + wr (r.drop n)
  | 0, n, hn => by
    rw [mwr, List.drop_eq_nil_of_le (by omega)]
    rfl
  | k + 1, n, hn => by
    have hd : r.drop n = r.getD n 0 :: r.drop (n + 1) := by
      rw [List.getD_eq_getElem?_getD, List.getElem?_eq_getElem (by omega), Option.getD_some, List.drop_eq_getElem_cons (by omega)]
    have hf : f (r.length - 1 - n) = r.getD n 0 := by rw [h _ (by omega), show r.length - 1 - (r.length - 1 - n) = n by omega]
    rw [mwr, hf, hd]
    by_cases e : isL (r.getD n 0)
    · rw [if_pos e, wr_cons_t e, mwr_wr h k (n + 1) (by omega)]
      omega
    · rw [if_neg e, wr_cons_f e, Nat.add_zero]
theorem mwr_eq {f : Nat → Int32} {r : List Int32} (h : TX f r) : mwr f r.length r.length 0 = wr r := by
  rw [mwr_wr h r.length 0 (by omega), Nat.zero_add]
  rfl
theorem wr_L : ∀ (r : List Int32) (i : Nat), i < wr r → isL (r.getD i 0)
  | [], i, h => absurd h (by rw [wr_nil]; omega)
  | x :: r, i, h => by
    by_cases e : isL x
    · rw [wr_cons_t e] at h
      cases i with
      | zero => exact e
      | succ i => exact wr_L r i (by omega)
    · rw [wr_cons_f e] at h
      omega
theorem IV_nil {mk ct : Nat → Int32} {z : Sg} (h : z.F 28 6 = nI 0) : IV mk ct z [] 0 := by
  refine ⟨⟨h, fun j x hx => by simp at hx⟩, List.Pairwise.nil, fun x => ?_, fun w => by simp, Nat.le_refl _⟩
  constructor
  · intro h9
    simp at h9
  · intro h9
    omega
section Fore
variable {mk ct : Nat → Int32} {N q : Nat}
theorem sfl_ok {z0 : Sg} (hcond : ∀ V, V < N → (fsC z0 q V → mk V = 0) ∧ (¬ fsC z0 q V → mk V = -1)) (hct : ∀ x, x < N → z0.A 27 x = ct x) : ∀ (m W : Nat) (z : Sg) (L : List Nat), W + m = N → IV mk ct z L W → bkOK z N → (∀ a, ¬ a = 30 → ¬ a = 31 → z.A a = z0.A a) → ∃ L', IV mk ct (sfl q m W L.length z) L' N
  | 0, W, z, L, hW, hI, _, _ => by
    rw [sfl, ← show W = N by omega]
    exact ⟨L, hI⟩
  | m + 1, W, z, L, hW, hI, hb, hz => by
    have hc : fsC z q W ↔ fsC z0 q W := by
      unfold fsC
      rw [hz 26 (by decide) (by decide), hz 25 (by decide) (by decide), hz 29 (by decide) (by decide)]
    obtain ⟨c1, c2⟩ := hcond W (by omega)
    rw [sfl]
    by_cases h : fsC z q W
    · have hm := c1 (hc.mp h)
      obtain ⟨L', a1, a2⟩ := IV_put hI hb (by omega) (fun x hx => by rw [hz 27 (by decide) (by decide)]; exact hct x hx) (by rw [hm]; decide)
      rw [hm] at a1
      rw [if_pos h, ← a2]
      exact sfl_ok hcond hct m (W + 1) _ L' (by omega) a1 (bk_enl hb _ _) (fun a h1 h2 => by rw [A_enl _ _ _ _ h1 h2]; exact hz a h1 h2)
    · rw [if_neg h]
      exact sfl_ok hcond hct m (W + 1) z L (by omega) (IV_skip hI (by rw [c2 (fun h9 => h (hc.mpr h9))]; decide)) hb hz
end Fore
section Fore2
variable {d m : Sg} {r : List Int32} {N : Nat}
theorem rw_29 (hq : wr r ≤ 12) (z : Sg) {i : Nat} (hi : i < wr r) : (rwZ z r).A 29 i = r.getD (wr r - 1 - i) 0 := by
  unfold rwZ
  rw [if_pos hq]
  show (if 0 ≤ i ∧ i < wr r then r.getD (wr r - 1 - i) 0 else _) = _
  rw [if_pos ⟨by omega, hi⟩]
theorem tx_at {f : Nat → Int32} (h : TX f r) {i : Nat} (hi : i < wr r) : f (r.length - wr r + i) = r.getD (wr r - 1 - i) 0 := by
  have hle := wr_le r
  rw [h _ (by omega), show r.length - 1 - (r.length - wr r + i) = wr r - 1 - i by omega]
/-- the words foreseen, in their order: both sides -/
theorem fore_list (hb : BR d m N) (hl : r.length ≤ 200) (hx : TX (m.A 48) r) : ∃ L, IV (fun V => fmV m r.length (wr r) V) (m.A 57) (zsf d r N) L N := by
  have hN := hb.2.2.1
  have hle := wr_le r
  unfold zsf
  refine sfl_ok (z0 := rwZ (stF d 28 6 0) r) ?_ ?_ N 0 _ [] (by omega) (IV_nil (by rw [F_rwZ, F_self]; rfl)) (bk_rwZ (z := stF d 28 6 0) hb.bk r) (fun _ _ _ => rfl)
  · intro V hV
    obtain ⟨⟨L, l1, l2, l3, l4, l5⟩, -⟩ := hb.2.2.2 V hV
    have e25 : (rwZ (stF d 28 6 0) r).A 25 = d.A 25 := A_rwZ _ _ (by decide)
    have e26 : (rwZ (stF d 28 6 0) r).A 26 = d.A 26 := A_rwZ _ _ (by decide)
    have key : fsC (rwZ (stF d 28 6 0) r) (wr r) V ↔ fsM m r.length (wr r) V (wr r) := by
      unfold fsC fsM
      rw [e25, e26, l3, l4]
      constructor
      · rintro ⟨a, b, c⟩
        refine ⟨a, fun j hj => ?_⟩
        have hjL : wr r < L := by
          rcases Nat.lt_or_ge (wr r) L with h9 | h9
          · exact h9
          · exact absurd (nI_le h9 (by omega)) a
        rw [← (l5 j (by omega)).1, c j hj, rw_29 b _ hj, tx_at hx hj]
      · rintro ⟨a, c⟩
        have hjL : wr r < L := by
          rcases Nat.lt_or_ge (wr r) L with h9 | h9
          · exact h9
          · exact absurd (nI_le h9 (by omega)) a
        refine ⟨a, by omega, fun j hj => ?_⟩
        rw [(l5 j (by omega)).1, c j hj, rw_29 (by omega) _ hj, tx_at hx hj]
    constructor
    · intro h9
      exact if_pos (key.mp h9)
    · intro h9
      exact if_neg (fun h8 => h9 (key.mpr h8))
  · intro x hx'
    rw [A_rwZ _ _ (by decide)]
    exact (hb.2.2.2 x hx').2
theorem fore_rank {z : Sg} (hb : BR d m N) (hl : r.length ≤ 200) (hx : TX (m.A 48) r) (h48 : z.A 48 = m.A 48) (h55 : z.A 55 = m.A 55) (h56 : z.A 56 = m.A 56) (h57 : z.A 57 = m.A 57) (k : Int32) : rnk (zfm r.length N z) N k N 0 = fat (zsf d r N) k := by
  obtain ⟨L, hL⟩ := fore_list hb hl hx
  refine rank_eq hb.2.2.1 hL (fun V hV => ?_) (fun V hV => ?_) k
  · unfold zfm
    rw [h48, mwr_eq hx, fmk_mark, if_pos (by omega)]
    unfold fmV fsM
    rw [h48, h55, h56]
  · unfold zfm
    rw [A_fmk _ _ (by decide), h57]
theorem fat_len {mk ct : Nat → Int32} {z : Sg} {L : List Nat} (hN : N ≤ 40) (h : IV mk ct z L N) {i : Nat} (hi : i ≤ N) : fat z (nI i) = -1 ↔ L.length ≤ i := by
  have h5 := h.2.2.2.2
  unfold fat
  rw [h.1.1]
  by_cases e : i < L.length
  · rw [if_pos ⟨by rw [nI_toInt (by omega)]; omega, by rw [nI_toInt (by omega), nI_toInt (by omega)]; omega⟩, nI_clamp (by omega)]
    have hx : L[i]? = some L[i] := List.getElem?_eq_getElem e
    have hxn := (h.2.2.1 _).mp (List.getElem_mem e)
    rw [(h.1.2 i _ hx).1]
    exact ⟨fun h9 => absurd h9 (nI_m1 (by omega)), fun h9 => by omega⟩
  · rw [if_neg (fun h9 => e (by have := h9.2; rw [nI_toInt (by omega), nI_toInt (by omega)] at this; omega))]
    exact ⟨fun _ => by omega, fun _ => rfl⟩
theorem fore_count (hb : BR d m N) (hl : r.length ≤ 200) (hx : TX (m.A 48) r) : ∀ (k i : Nat) (z : Sg), i + k = N → nI i ≤ (zsf d r N).F 28 6 → z.A 48 = m.A 48 → z.A 55 = m.A 55 → z.A 56 = m.A 56 → z.A 57 = m.A 57 → nI (cfz r.length N k i z).1 = (zsf d r N).F 28 6 := by
  obtain ⟨L, hL⟩ := fore_list hb hl hx
  have hN := hb.2.2.1
  have h5 := hL.2.2.2.2
  intro k
  induction k with
  | zero =>
    intro i z hi hle h48 h55 h56 h57
    rw [hL.1.1, nI_leI (by omega) (by omega)] at hle
    rw [hL.1.1, cfz, show i = L.length by omega]
  | succ k ih =>
    intro i z hi hle h48 h55 h56 h57
    rw [cfz, fore_rank hb hl hx h48 h55 h56 h57]
    by_cases e : fat (zsf d r N) (nI i) = -1
    · rw [if_pos e]
      have h9 := (fat_len hN hL (by omega)).mp e
      rw [hL.1.1, nI_leI (by omega) (by omega)] at hle
      rw [hL.1.1, show i = L.length by omega]
    · rw [if_neg e]
      have h9 : ¬ L.length ≤ i := fun h8 => e ((fat_len hN hL (by omega)).mpr h8)
      refine ih (i + 1) _ (by omega) (by rw [hL.1.1]; exact nI_le (by omega) (by omega)) ?_ ?_ ?_ ?_
      · unfold zfm; rw [A_fmk _ _ (by decide)]; exact h48
      · unfold zfm; rw [A_fmk _ _ (by decide)]; exact h55
      · unfold zfm; rw [A_fmk _ _ (by decide)]; exact h56
      · unfold zfm; rw [A_fmk _ _ (by decide)]; exact h57
end Fore2
