/-! THE TRAY, both sides: the relation between calls -/
def KY (m : Sg) (n : Nat) : Prop := (∀ x, x < n → (m.A 44 x = 0 ∨ m.A 44 x = 1) ∧ (¬ m.A 40 x = 0 → m.A 44 x = 1)) ∧ ∀ g, g < 60 → ∃ c, c < 60 ∧ m.A 46 g = nI c
def TR (d m : Sg) (n : Nat) (row : Nat → List Nat) : Prop := TB d m n ∧ KY m n ∧ RI d m n n row
theorem TR.c {d m d' m' : Sg} {n : Nat} {row : Nat → List Nat} (h : TR d m n row) (h6 : d'.F 6 10 = d.F 6 10) (hm : m'.F 39 5 = m.F 39 5) (hd : ∀ a, 7 ≤ a → a ≤ 16 → ¬ a = 15 → d'.A a = d.A a) (hM : ∀ a, 40 ≤ a → a ≤ 47 → m'.A a = m.A a) : TR d' m' n row := by
  refine ⟨h.1.c h6 (hd 7 (by decide) (by decide) (by decide)) (hd 8 (by decide) (by decide) (by decide)) (hd 9 (by decide) (by decide) (by decide)) hm (hM 40 (by decide) (by decide)) (hM 41 (by decide) (by decide)) (hM 42 (by decide) (by decide)), ?_, h.2.2.c (fun a h1 h2 h3 => hd a (by omega) h2 h3) hM⟩
  unfold KY
  rw [hM 40 (by decide) (by decide), hM 44 (by decide) (by decide), hM 46 (by decide) (by decide)]
  exact h.2.1
theorem A_zcl_i {a : Nat} (h : a < 10 ∨ 16 < a ∨ a = 15) (z : Sg) : (zcl z).A a = z.A a := by
  unfold zcl flz
  rw [A_stA, if_neg (by omega), A_stA, if_neg (by omega), A_stA, if_neg (by omega), A_stA, if_neg (by omega), A_stA, if_neg (by omega), A_stA, if_neg (by omega)]
theorem A_lo3 {a : Nat} (h : ¬ a = 45 ∧ ¬ a = 46 ∧ ¬ a = 47) : ∀ (m i : Nat) (z : Sg), (lo3 m i z).A a = z.A a
  | 0, _, _ => rfl
  | m + 1, i, z => by
    rw [lo3, A_lo3 h]
    split
    · exact A_lk h _ _ _
    · rfl
theorem lo3_46 {n : Nat} (hn : n ≤ 60) : ∀ (m i : Nat) (z : Sg), i + m = n → inOK n z → 1 ≤ i → ∀ g, n ≤ g → (lo3 m i z).A 46 g = z.A 46 g
  | 0, _, _, _, _, _, _, _ => rfl
  | m + 1, i, z, hi, hI, h1, g, hg => by
    rw [lo3, lo3_46 hn m (i + 1) _ (by omega) (by split <;> exact hI) (by omega) g hg]
    split
    · obtain ⟨g', a, b⟩ := hI i (by omega) (by omega)
      rw [b, A46_lk, nI_clamp (by omega), pk_un (by omega)]
    · rfl
theorem TB.inOK {d m : Sg} {n : Nat} (h : TB d m n) : inOK n m := by
  intro i h1 h2
  obtain ⟨g, a, b, -⟩ := h.2.2.2.2.2.2.1 i h1 h2
  exact ⟨g, by omega, b⟩
theorem A_li3 {a : Nat} (h : a < 10 ∨ 16 < a ∨ a = 15) : ∀ (m i : Nat) (z : Sg), (li3 m i z).A a = z.A a
  | 0, _, _ => rfl
  | m + 1, i, z => by
    rw [li3, A_li3 h]
    split
    · exact A_sb h _ _ _
    · rfl
/-- the lights found anew, on both sides -/
theorem TR_new {d m : Sg} {n : Nat} (hb : TB d m n) (hc : ∀ g, g < 60 → ∃ c, c < 60 ∧ m.A 46 g = nI c) : ∃ row, TR (zfl n d) (zlk n m) n row := by
  have b1 := TB_1 hb
  have k1 := LK_1 hb
  have h1 := hb.2.2.1
  have hn := hb.2.2.2.1
  have b2 := TB_2 b1 (n - 1)
  have k2 := LK_2 (n - 1) _ _ (by omega) b1 k1
  have b3 : TB (zcl (li2 (n - 1) (li1 n 0 d))) (lo2 (n - 1) (lo1 n 0 m)) n := b2.c rfl (A_zcl_i (by decide) _) (A_zcl_i (by decide) _) (A_zcl_i (by decide) _) rfl rfl rfl rfl
  have k3 : LK (zcl (li2 (n - 1) (li1 n 0 d))) (lo2 (n - 1) (lo1 n 0 m)) n := fun x hx => k2 x hx
  have m46 : ∀ x, x < n → (lo2 (n - 1) (lo1 n 0 m)).A 46 x = 0 := fun x hx => by rw [A_lo2 (by decide), lo1_46, if_pos (by omega)]
  have m47 : ∀ x, x < n → (lo2 (n - 1) (lo1 n 0 m)).A 47 x = -1 := fun x hx => by rw [A_lo2 (by decide), lo1_47, if_pos (by omega)]
  have r0 : RI (zcl (li2 (n - 1) (li1 n 0 d))) (lo2 (n - 1) (lo1 n 0 m)) n 1 (fun _ => []) := by
    refine ⟨fun g hg => ?_, fun g k x hg hx => ?_, fun x h2 h3 => absurd h3 (by omega), fun x hx _ => ?_, fun a b ha hb' => ?_⟩
    · refine ⟨by simp, ?_, m46 g hg, ?_, ?_⟩
      · show (if g < 60 then (0 : Int32) else _) = 0
        rw [if_pos (by omega)]
      · show (if g < 60 then (-1 : Int32) else _) = -1
        rw [if_pos (by omega)]
      · show (if g < 60 then (-1 : Int32) else _) = -1
        rw [if_pos (by omega)]
    · simp at hx
    · refine ⟨m47 x hx, ?_, ?_⟩
      · show (if x < 60 then (-1 : Int32) else _) = -1
        rw [if_pos (by omega)]
      · show (if x < 60 then (-1 : Int32) else _) = -1
        rw [if_pos (by omega)]
    · have e : (zcl (li2 (n - 1) (li1 n 0 d))).A 16 a = 0 := by
        show (if a < 26 then (0 : Int32) else _) = 0
        rw [if_pos ha]
      rw [e, b_0]
      constructor
      · intro h9
        exact absurd h9 (by decide)
      · rintro ⟨g, k, x, y, -, h9, -⟩
        simp at h9
  obtain ⟨row, r⟩ := RI_all (n - 1) 1 _ _ (by omega) (by omega) b3 k3 ⟨_, r0⟩
  refine ⟨row, ?_, ⟨fun x hx => ?_, fun g hg => ?_⟩, r⟩
  · refine b3.c ?_ ?_ ?_ ?_ ?_ ?_ ?_ ?_
    · rw [F_zfl]
      show d.F 6 10 = (li2 (n - 1) (li1 n 0 d)).F 6 10
      rw [F_li2, F_li1]
    · exact A_li3 (by decide) _ _ _
    · exact A_li3 (by decide) _ _ _
    · exact A_li3 (by decide) _ _ _
    · rw [F_zlk, F_lo2, F_lo1]
    · exact A_lo3 (by decide) _ _ _
    · exact A_lo3 (by decide) _ _ _
    · exact A_lo3 (by decide) _ _ _
  · have e44 : (zlk n m).A 44 = (lo2 (n - 1) (lo1 n 0 m)).A 44 := A_lo3 (by decide) _ _ _
    have e40 : (zlk n m).A 40 = (lo2 (n - 1) (lo1 n 0 m)).A 40 := A_lo3 (by decide) _ _ _
    rw [e44, e40]
    exact (k3 x hx).2
  · by_cases h9 : g < n
    · obtain ⟨a, -, b, -⟩ := r.1 g h9
      exact ⟨_, by omega, b⟩
    · obtain ⟨c, c1, c2⟩ := hc g hg
      refine ⟨c, c1, ?_⟩
      have e : (zlk n m).A 46 g = (lo2 (n - 1) (lo1 n 0 m)).A 46 g := lo3_46 hn (n - 1) 1 _ (by omega) b3.inOK (by omega) g (by omega)
      rw [e, A_lo2 (by decide), lo1_46, if_neg (by omega)]
      exact c2
section TRuse
variable {d m : Sg} {n : Nat} {row : Nat → List Nat}
theorem TR.n60 (h : TR d m n row) : n ≤ 60 := h.1.2.2.2.1
theorem TR.len (h : TR d m n row) {g : Nat} (hg : g < n) : (row g).length < n := (h.2.2.1 g hg).1
theorem TR.lite (h : TR d m n row) {g k : Nat} (hg : g < n) (hk : k < 60) : lgt m (nI g) (nI k) = nx (row g)[k]? := by
  have hn := h.n60
  have hl := h.len hg
  unfold lgt
  rw [nI_clamp (by omega), (h.2.2.1 g hg).2.2.1]
  by_cases h9 : (row g).length ≤ k
  · rw [if_pos (nI_le h9 (by omega)), List.getElem?_eq_none h9]
    rfl
  · rw [if_neg (nI_ge (by omega) (by omega)), show (60 : Int32) = nI 60 from rfl, pk_mul, nI_add, nI_clamp (by omega)]
    have hx : (row g)[k]? = some (row g)[k] := List.getElem?_eq_getElem (by omega)
    rw [hx, (h.2.2.2.1 g k _ hg hx).2.2.1]
    rfl
theorem TR.node (h : TR d m n row) {g k x : Nat} (hg : g < n) (hx : (row g)[k]? = some x) : 0 < x ∧ x < n := ⟨(h.2.2.2.1 g k x hg hx).1, (h.2.2.2.1 g k x hg hx).2.1⟩
theorem TR.first (h : TR d m n row) {g : Nat} (hg : g < n) : tg d 12 (nI g) (-1) = nx (row g)[0]? := by rw [tg_at h.1.1 h.n60 hg, (h.2.2.1 g hg).2.2.2.1]
theorem TR.next (h : TR d m n row) {g k x : Nat} (hg : g < n) (hx : (row g)[k]? = some x) : tg d 14 (nI x) (-1) = nx (row g)[k + 1]? := by rw [tg_at h.1.1 h.n60 (h.node hg hx).2, (h.2.2.2.1 g k x hg hx).2.2.2.2.2.2.2]
theorem TR.many (h : TR d m n row) {g : Nat} (hg : g < n) : m.A 46 g = nI (row g).length := (h.2.2.1 g hg).2.2.1
/-- a key has a place -/
theorem TR.key (h : TR d m n row) {x : Nat} (hx : x < n) (h0 : 0 < x) (hk : m.A 44 x = 1) : ∃ g k, g < n ∧ (row g)[k]? = some x ∧ m.A 42 x = nI g ∧ m.A 47 x = nI (k + 1) := by
  obtain ⟨g, k, a, b⟩ := h.2.2.2.2.1 x h0 hx hk
  obtain ⟨-, -, -, c, -, e, -⟩ := h.2.2.2.1 g k x a b
  exact ⟨g, k, a, b, c, e⟩
theorem TR.gr (h : TR d m n row) : grOK m n := ⟨h.n60, fun a h0 ha => by obtain ⟨g, b, c, -⟩ := h.1.2.2.2.2.2.2.1 a h0 ha; exact ⟨g, b, c⟩⟩
theorem TR.mt (h : TR d m n row) : mtOK m n := by
  have hn := h.n60
  refine ⟨h.1.2.1, h.1.2.2.1, hn, h.gr.2, h.2.1.2, fun a ha h1 => ?_, fun g k c hg hc h60 hk => ?_⟩
  · have h0 : 0 < a := by
      rcases Nat.eq_zero_or_pos a with e | e
      · rw [e, h.1.2.2.2.2.2.1.1] at h1
        exact absurd h1 (by decide)
      · exact e
    obtain ⟨g, k, b1, b2, -, b3⟩ := h.key ha h0 ((h.2.1.1 a ha).2 (by rw [h1]; decide))
    have := h.len b1
    have := get_lt b2
    exact ⟨h0, k + 1, by omega, b3⟩
  · have hl := h.len hg
    rw [h.many hg, nI_eq (by omega) (by omega)] at hc
    have hx : (row g)[k]? = some (row g)[k] := List.getElem?_eq_getElem (by omega)
    exact ⟨_, (h.node hg hx).2, (h.2.2.2.1 g k _ hg hx).2.2.1⟩
theorem TR.same (h : TR d m n row) {x : Nat} (hx : x < n) : d.A 10 x = m.A 47 x := by
  by_cases h9 : x = 0 ∨ n ≤ x ∨ m.A 44 x = 0
  · obtain ⟨a, b, -⟩ := h.2.2.2.2.2.1 x hx h9
    rw [a, b]
  · have h1 : m.A 44 x = 1 := by
      rcases (h.2.1.1 x hx).1 with h8 | h8
      · exact absurd (Or.inr (Or.inr h8)) h9
      · exact h8
    obtain ⟨g, k, a, b⟩ := h.2.2.2.2.1 x (by omega) hx h1
    obtain ⟨-, -, -, -, -, e, f, -⟩ := h.2.2.2.1 g k x a b
    rw [e, f]
end TRuse
