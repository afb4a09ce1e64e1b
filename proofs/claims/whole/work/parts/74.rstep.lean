/-! THE TRAY, both sides: one node more, all nodes -/
theorem RI_step {d m : Sg} {n i : Nat} {row : Nat → List Nat} (hb : TB d m n) (hk : LK d m n) (h : RI d m n i row) (h1 : 1 ≤ i) (hi : i < n) : ∃ row', RI (if liC d i then sb d (nI i) (d.A 9 i) else d) (if ¬ m.A 44 i = 0 then lk m i (m.A 42 i) else m) n (i + 1) row' := by
  obtain ⟨r1, r2, r3, r4, r5⟩ := h
  obtain ⟨g, hg, eg, -⟩ := hb.2.2.2.2.2.2.1 i h1 hi
  have hn := hb.2.2.2.1
  have e9 : d.A 9 i = nI g := by rw [(hb.2.2.2.2.1 i hi).2.2, eg]
  have hgc : (nI g).toNatClampNeg = g := nI_clamp (by omega)
  obtain ⟨k1, k2, k3⟩ := hk i hi
  by_cases hz : m.A 44 i = 0
  · rw [if_neg (show ¬ liC d i from fun h9 => h9.1 (by rw [k1]; exact hz)), if_neg (show ¬ ¬ m.A 44 i = 0 from fun h9 => h9 hz)]
    refine ⟨row, ?_, ?_, ?_, ?_, r5⟩
    · intro g' hg'
      obtain ⟨a, b⟩ := r1 g' hg'
      exact ⟨by omega, b⟩
    · intro g' k x hg' hx
      obtain ⟨a, b, c⟩ := r2 g' k x hg' hx
      exact ⟨a, by omega, c⟩
    · intro x hx0 hx hx1
      by_cases e : x = i
      · rw [e, hz] at hx1
        exact absurd hx1 (by decide)
      · exact r3 x hx0 (by omega) hx1
    · intro x hx hx1
      refine r4 x hx ?_
      rcases hx1 with h9 | h9 | h9
      · exact Or.inl h9
      · exact Or.inr (Or.inl (by omega))
      · exact Or.inr (Or.inr h9)
  · have hz1 : m.A 44 i = 1 := by
      rcases k2 with h9 | h9
      · exact absurd h9 hz
      · exact h9
    have hlt : ltN (d.A 9 i) (d.F 6 10) := by
      rw [e9, hb.1]
      exact ⟨by rw [nI_toInt (by omega)]; omega, by rw [nI_toInt (by omega), nI_toInt (by omega)]; omega⟩
    rw [if_pos hz, if_pos (show liC d i from ⟨by rw [k1]; exact hz, hlt⟩), e9, eg]
    obtain ⟨g1, g2, g3, g4, g5⟩ := r1 g (by omega)
    generalize hlen : (row g).length = len at g1 g2 g3 g5
    have hlast : ∃ last, 0 < len → (row g)[len - 1]? = some last := by
      by_cases h9 : 0 < len
      · exact ⟨(row g)[len - 1], fun _ => List.getElem?_eq_getElem (by omega)⟩
      · exact ⟨0, fun h8 => absurd h8 h9⟩
    obtain ⟨last, hlast⟩ := hlast
    have hl2 : 0 < len → 0 < last ∧ last < i ∧ m.A 42 last = nI g ∧ m.A 44 last = 1 ∧ m.A 47 last = nI len := by
      intro h9
      obtain ⟨a, b, -, c, e, f, -⟩ := r2 g (len - 1) last (by omega) (hlast h9)
      exact ⟨a, b, c, e, by rw [f, show len - 1 + 1 = len by omega]⟩
    have hs : st3 d (sb d (nI i) (nI g)) i g len last := st3_sb hb.1 hn hi (by omega) g2 (fun h9 => by rw [g5, List.getElem?_eq_none (by omega)]; rfl) (fun h9 => ⟨by have := hl2 h9; omega, by rw [g5, hlast h9]; rfl⟩)
    obtain ⟨s11, s10, s13, s12, s14, s16⟩ := hs
    have m40 : (lk m i (nI g)).A 40 = m.A 40 := rfl
    have m41 : (lk m i (nI g)).A 41 = m.A 41 := rfl
    have m42 : (lk m i (nI g)).A 42 = m.A 42 := rfl
    have m44 : (lk m i (nI g)).A 44 = m.A 44 := rfl
    have m45 : (lk m i (nI g)).A 45 = upd (m.A 45) (60 * g + len) (nI i) := by
      show upd (m.A 45) (60 * nI g + m.A 46 (nI g).toNatClampNeg).toNatClampNeg (nI i) = _
      rw [hgc, g3, show (60 : Int32) = nI 60 from rfl, pk_mul, nI_add, nI_clamp (by omega)]
    have m46 : (lk m i (nI g)).A 46 = upd (m.A 46) g (nI (len + 1)) := by
      show upd (m.A 46) (nI g).toNatClampNeg (m.A 46 (nI g).toNatClampNeg + 1) = _
      rw [hgc, g3, nI_1]
    have m47 : (lk m i (nI g)).A 47 = upd (m.A 47) i (nI (len + 1)) := by
      show upd (m.A 47) i (upd (m.A 46) (nI g).toNatClampNeg (m.A 46 (nI g).toNatClampNeg + 1) (nI g).toNatClampNeg) = _
      rw [hgc, pk_us, g3, nI_1]
    generalize lk m i (nI g) = m' at m40 m41 m42 m44 m45 m46 m47 ⊢
    generalize sb d (nI i) (nI g) = d' at s11 s10 s13 s12 s14 s16 ⊢
    have hr : ∀ h, (if h = g then row g ++ [i] else row h) = if h = g then row g ++ [i] else row h := fun _ => rfl
    have hrg : (if g = g then row g ++ [i] else row g) = row g ++ [i] := if_pos rfl
    refine ⟨fun h => if h = g then row g ++ [i] else row h, ?_, ?_, ?_, ?_, ?_⟩
    · intro g' hg'
      dsimp only
      by_cases e : g' = g
      · rw [e, hrg, List.length_append, hlen, s11, m46, s12, s13, pk_us, pk_us, pk_us]
        refine ⟨by simp; omega, rfl, rfl, ?_, ?_⟩
        · by_cases h9 : len = 0
          · have hnil : row g = [] := List.length_eq_zero_iff.mp (by omega)
            rw [if_pos h9, pk_us, hnil]
            rfl
          · rw [if_neg h9, g4, List.getElem?_append_left (by omega)]
        · show nI i = nx (row g ++ [i])[len + 1 - 1]?
          rw [List.getElem?_append_right (by omega), hlen, show len + 1 - 1 - len = 0 by omega]
          rfl
      · rw [if_neg e, s11, m46, s12, s13, pk_un e, pk_un e, pk_un e]
        obtain ⟨a, b, c, d1, d2⟩ := r1 g' hg'
        refine ⟨by omega, b, c, ?_, d2⟩
        by_cases h9 : len = 0
        · rw [if_pos h9, pk_un e]
          exact d1
        · rw [if_neg h9]
          exact d1
    · intro g' k x hg' hx
      dsimp only at hx ⊢
      rw [m42, m44, m45, m47, s10, s14]
      by_cases e : g' = g
      · rw [if_pos e] at hx ⊢
        rw [e]
        rcases app_get.mp hx with h9 | ⟨h9, h8⟩
        · have hkl := get_lt h9
          rw [hlen] at hkl
          obtain ⟨a1, a2, a3, a4, a5, a6, a7, a8⟩ := r2 g k x (by omega) h9
          refine ⟨a1, by omega, by rw [pk_un (by omega)]; exact a3, a4, a5, by rw [pk_un (by omega)]; exact a6, by rw [pk_un (by omega)]; exact a7, ?_⟩
          rw [if_neg (by omega)]
          by_cases h8 : k + 1 = len
          · have hxl : x = last := by
              have h7 := hlast (by omega)
              rw [show len - 1 = k by omega, h9] at h7
              exact Option.some.inj h7
            rw [hxl, pk_us, List.getElem?_append_right (by omega), hlen, show k + 1 - len = 0 by omega]
            rfl
          · have hxl : ¬ x = last := fun h7 => by
              have h6 := (hl2 (by omega)).2.2.2.2
              rw [← h7, a6, nI_eq (by omega) (by omega)] at h6
              omega
            rw [pk_un hxl, app_nx (by omega)]
            exact a8
        · rw [hlen] at h9
          rw [h8, h9]
          refine ⟨by omega, by omega, by rw [pk_us], eg, hz1, by rw [pk_us], by rw [pk_us], ?_⟩
          rw [List.getElem?_eq_none (by simp; omega)]
          have h7 := (r4 i hi (Or.inr (Or.inl (Nat.le_refl i)))).2.2
          by_cases h6 : len = 0
          · rw [if_pos h6]
            exact h7
          · rw [if_neg h6, pk_un (by have := hl2 (by omega); omega)]
            exact h7
      · rw [if_neg e] at hx ⊢
        obtain ⟨a1, a2, a3, a4, a5, a6, a7, a8⟩ := r2 g' k x hg' hx
        have hkl := get_lt hx
        have hkl2 := (r1 g' hg').1
        have hix : ¬ 60 * g' + k = 60 * g + len := by
          rcases Nat.lt_or_ge g' g with h9 | h9
          · omega
          · have : g + 1 ≤ g' := by omega
            omega
        refine ⟨a1, by omega, by rw [pk_un hix]; exact a3, a4, a5, by rw [pk_un (by omega)]; exact a6, by rw [pk_un (by omega)]; exact a7, ?_⟩
        by_cases h9 : len = 0
        · rw [if_pos h9]
          exact a8
        · rw [if_neg h9, pk_un (fun h8 => e (by
            have h7 := (hl2 (by omega)).2.2.1
            rw [← h8, a4, nI_eq (by omega) (by omega)] at h7
            exact h7))]
          exact a8
    · intro x hx0 hx hx1
      rw [m44] at hx1
      by_cases e : x = i
      · refine ⟨g, len, by omega, ?_⟩
        dsimp only
        rw [hrg]
        exact app_get.mpr (Or.inr ⟨hlen.symm, e⟩)
      · obtain ⟨g', k, a, b⟩ := r3 x hx0 (by omega) hx1
        refine ⟨g', k, a, ?_⟩
        dsimp only
        by_cases e2 : g' = g
        · rw [if_pos e2]
          rw [e2] at b
          exact app_get.mpr (Or.inl b)
        · rw [if_neg e2]
          exact b
    · intro x hx hx1
      rw [m44] at hx1
      have hxi : ¬ x = i := fun e => by
        rcases hx1 with h9 | h9 | h9
        · omega
        · omega
        · rw [e, hz1] at h9
          exact absurd h9 (by decide)
      have hxl : 0 < len → ¬ x = last := fun h8 e => by
        have h7 := hl2 h8
        rcases hx1 with h9 | h9 | h9
        · omega
        · omega
        · rw [e, h7.2.2.2.1] at h9
          exact absurd h9 (by decide)
      obtain ⟨a, b, c⟩ := r4 x hx (by
        rcases hx1 with h9 | h9 | h9
        · exact Or.inl h9
        · exact Or.inr (Or.inl (by omega))
        · exact Or.inr (Or.inr h9))
      rw [m47, s10, s14, pk_un hxi, pk_un hxi]
      refine ⟨a, b, ?_⟩
      by_cases h9 : len = 0
      · rw [if_pos h9]
        exact c
      · rw [if_neg h9, pk_un (hxl (by omega))]
        exact c
    · intro a b ha hb'
      rw [s16 a b ha hb', r5 a b ha hb']
      unfold pr
      rw [m40, m41]
      constructor
      · rintro (⟨g', k, x, y, c1, c2, c3, c4⟩ | ⟨c0, c1, c2, c3⟩)
        · refine ⟨g', k, x, y, c1, ?_, ?_, c4⟩
          · dsimp only
            by_cases e2 : g' = g
            · rw [if_pos e2]
              rw [e2] at c2
              exact app_get.mpr (Or.inl c2)
            · rw [if_neg e2]
              exact c2
          · dsimp only
            by_cases e2 : g' = g
            · rw [if_pos e2]
              rw [e2] at c3
              exact app_get.mpr (Or.inl c3)
            · rw [if_neg e2]
              exact c3
        · have h7 := hl2 c0
          have t1 := hb.2.2.2.2.1 last (by omega)
          have t2 := hb.2.2.2.2.1 i hi
          rw [t1.1] at c1
          rw [t2.1] at c2
          rw [t1.2.1, t2.2.1] at c3
          refine ⟨g, len - 1, last, i, by omega, ?_, ?_, c1, c2, c3⟩
          · dsimp only
            rw [hrg]
            exact app_get.mpr (Or.inl (hlast c0))
          · dsimp only
            rw [hrg]
            exact app_get.mpr (Or.inr ⟨by omega, rfl⟩)
      · rintro ⟨g', k, x, y, c1, c2, c3, c4⟩
        dsimp only at c2 c3
        by_cases e2 : g' = g
        · rw [if_pos e2] at c2 c3
          rcases app_get.mp c3 with h9 | ⟨h9, h8⟩
          · have h7 := get_lt h9
            rcases app_get.mp c2 with h6 | ⟨h6, -⟩
            · exact Or.inl ⟨g, k, x, y, by omega, h6, h9, c4⟩
            · omega
          · rw [hlen] at h9
            have c0 : 0 < len := by omega
            rcases app_get.mp c2 with h6 | ⟨h6, -⟩
            · have hxl : x = last := by
                have h5 := hlast c0
                rw [show len - 1 = k by omega, h6] at h5
                exact Option.some.inj h5
              have h7 := hl2 c0
              have t1 := hb.2.2.2.2.1 last (by omega)
              have t2 := hb.2.2.2.2.1 i hi
              rw [hxl, h8] at c4
              refine Or.inr ⟨c0, ?_, ?_, ?_⟩
              · rw [t1.1]; exact c4.1
              · rw [t2.1]; exact c4.2.1
              · rw [t1.2.1, t2.2.1]; exact c4.2.2
            · rw [hlen] at h6
              omega
        · rw [if_neg e2] at c2 c3
          exact Or.inl ⟨g', k, x, y, c1, c2, c3, c4⟩
theorem A_sb {a : Nat} (h : a < 10 ∨ 16 < a ∨ a = 15) (z : Sg) (nd g : Int32) : (sb z nd g).A a = z.A a := by
  unfold sb sb1
  split
  · rw [A_jn (by omega), A_stA, if_neg (by omega), A_stA, if_neg (by omega), A_stA, if_neg (by omega), A_stA, if_neg (by omega)]
  · rw [A_stA, if_neg (by omega), A_stA, if_neg (by omega), A_stA, if_neg (by omega), A_stA, if_neg (by omega)]
theorem A_lk {a : Nat} (h : ¬ a = 45 ∧ ¬ a = 46 ∧ ¬ a = 47) (z : Sg) (i : Nat) (g : Int32) : (lk z i g).A a = z.A a := by
  unfold lk
  rw [A_stA, if_neg h.2.2, A_stA, if_neg h.2.1, A_stA, if_neg h.1]
theorem RI_all {n : Nat} : ∀ (k i : Nat) (d m : Sg), i + k = n → 1 ≤ i → TB d m n → LK d m n → (∃ row, RI d m n i row) → ∃ row, RI (li3 k i d) (lo3 k i m) n n row
  | 0, i, d, m, hi, h1, hb, hk, h => by
    rw [show i = n by omega] at h
    exact h
  | k + 1, i, d, m, hi, h1, hb, hk, ⟨row, h⟩ => by
    rw [li3, lo3]
    have hA : ∀ a, a < 10 ∨ 16 < a ∨ a = 15 → (if liC d i then sb d (nI i) (d.A 9 i) else d).A a = d.A a := by
      intro a ha
      split
      · exact A_sb ha _ _ _
      · rfl
    have hM : ∀ a, ¬ a = 45 ∧ ¬ a = 46 ∧ ¬ a = 47 → (if ¬ m.A 44 i = 0 then lk m i (m.A 42 i) else m).A a = m.A a := by
      intro a ha
      split
      · exact A_lk ha _ _ _
      · rfl
    have hF : (if liC d i then sb d (nI i) (d.A 9 i) else d).F = d.F := by
      split
      · rw [F_sb]
      · rfl
    have hFm : (if ¬ m.A 44 i = 0 then lk m i (m.A 42 i) else m).F = m.F := by split <;> rfl
    refine RI_all k (i + 1) _ _ (by omega) (by omega) (hb.c (by rw [hF]) (hA _ (by decide)) (hA _ (by decide)) (hA _ (by decide)) (by rw [hFm]) (hM _ (by decide)) (hM _ (by decide)) (hM _ (by decide))) ?_ (RI_step hb hk h h1 (by omega))
    intro x hx
    rw [hA 15 (by decide), hM 44 (by decide), hM 40 (by decide)]
    exact hk x hx
