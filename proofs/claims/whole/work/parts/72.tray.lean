/-! THE TRAY, both sides: kinds, groups, which nodes bear a key -/
def nx (o : Option Nat) : Int32 := match o with
  | some y => nI y
  | none => -1
abbrev kOK (k v : Int32) : Prop := inB k 0 6 ∧ (if k = 1 then isL v ∨ v = 32 else if hasV k then inB v 0 4 else v = -1)
def TB (d m : Sg) (n : Nat) : Prop := d.F 6 10 = nI n ∧ m.F 39 5 = nI n ∧ 1 ≤ n ∧ n ≤ 60 ∧ (∀ x, x < n → d.A 7 x = m.A 40 x ∧ d.A 8 x = m.A 41 x ∧ d.A 9 x = m.A 42 x) ∧ (m.A 40 0 = 0 ∧ m.A 41 0 = -1 ∧ m.A 42 0 = -1) ∧ (∀ x, 0 < x → x < n → ∃ g, g < x ∧ m.A 42 x = nI g ∧ m.A 40 g = 0) ∧ (∀ x, x < n → kOK (m.A 40 x) (m.A 41 x))
theorem TB.c {d m d' m' : Sg} {n : Nat} (h : TB d m n) (h6 : d'.F 6 10 = d.F 6 10) (h7 : d'.A 7 = d.A 7) (h8 : d'.A 8 = d.A 8) (h9 : d'.A 9 = d.A 9) (hm : m'.F 39 5 = m.F 39 5) (h40 : m'.A 40 = m.A 40) (h41 : m'.A 41 = m.A 41) (h42 : m'.A 42 = m.A 42) : TB d' m' n := by
  unfold TB
  rw [h6, h7, h8, h9, hm, h40, h41, h42]
  exact h
theorem A_li1 {a : Nat} (h : ¬ a = 15) : ∀ (m i : Nat) (z : Sg), (li1 m i z).A a = z.A a
  | 0, _, _ => rfl
  | m + 1, i, z => by rw [li1, A_li1 h, A_stA, if_neg h]
theorem A_li2 {a : Nat} (h : ¬ a = 15) : ∀ (i : Nat) (z : Sg), (li2 i z).A a = z.A a
  | 0, _ => rfl
  | i + 1, z => by
    rw [li2, A_li2 h]
    split
    · rw [A_stA, if_neg h]
    · rfl
theorem li1_15 : ∀ (m i : Nat) (z : Sg) (x : Nat), (li1 m i z).A 15 x = if i ≤ x ∧ x < i + m then b2i (¬ z.A 7 x = 0) else z.A 15 x
  | 0, i, z, x => by rw [li1, if_neg (by omega)]
  | m + 1, i, z, x => by
    rw [li1, li1_15 m (i + 1)]
    by_cases h : i + 1 ≤ x ∧ x < i + 1 + m
    · rw [if_pos h, if_pos (by omega)]
      rfl
    · rw [if_neg h, A_stA, if_pos rfl]
      by_cases e : x = i
      · rw [e, pk_us, if_pos (by omega)]
      · rw [pk_un e, if_neg (by omega)]
theorem A_lo1 {a : Nat} (h1 : ¬ a = 44) (h2 : ¬ a = 46) (h3 : ¬ a = 47) : ∀ (m i : Nat) (z : Sg), (lo1 m i z).A a = z.A a
  | 0, _, _ => rfl
  | m + 1, i, z => by rw [lo1, A_lo1 h1 h2 h3, A_stA, if_neg h3, A_stA, if_neg h2, A_stA, if_neg h1]
theorem lo1_44 : ∀ (m i : Nat) (z : Sg) (x : Nat), (lo1 m i z).A 44 x = if i ≤ x ∧ x < i + m then b2i (¬ z.A 40 x = 0) else z.A 44 x
  | 0, i, z, x => by rw [lo1, if_neg (by omega)]
  | m + 1, i, z, x => by
    rw [lo1, lo1_44 m (i + 1)]
    by_cases h : i + 1 ≤ x ∧ x < i + 1 + m
    · rw [if_pos h, if_pos (by omega)]
      rfl
    · rw [if_neg h]
      show upd (z.A 44) i (b2i (¬ z.A 40 i = 0)) x = _
      by_cases e : x = i
      · rw [e, pk_us, if_pos (by omega)]
      · rw [pk_un e, if_neg (by omega)]
theorem lo1_46 : ∀ (m i : Nat) (z : Sg) (x : Nat), (lo1 m i z).A 46 x = if i ≤ x ∧ x < i + m then 0 else z.A 46 x
  | 0, i, z, x => by rw [lo1, if_neg (by omega)]
  | m + 1, i, z, x => by
    rw [lo1, lo1_46 m (i + 1)]
    by_cases h : i + 1 ≤ x ∧ x < i + 1 + m
    · rw [if_pos h, if_pos (by omega)]
    · rw [if_neg h]
      show upd (z.A 46) i 0 x = _
      by_cases e : x = i
      · rw [e, pk_us, if_pos (by omega)]
      · rw [pk_un e, if_neg (by omega)]
theorem lo1_47 : ∀ (m i : Nat) (z : Sg) (x : Nat), (lo1 m i z).A 47 x = if i ≤ x ∧ x < i + m then -1 else z.A 47 x
  | 0, i, z, x => by rw [lo1, if_neg (by omega)]
  | m + 1, i, z, x => by
    rw [lo1, lo1_47 m (i + 1)]
    by_cases h : i + 1 ≤ x ∧ x < i + 1 + m
    · rw [if_pos h, if_pos (by omega)]
    · rw [if_neg h]
      show upd (z.A 47) i (-1) x = _
      by_cases e : x = i
      · rw [e, pk_us, if_pos (by omega)]
      · rw [pk_un e, if_neg (by omega)]
theorem A_lo2 {a : Nat} (h : ¬ a = 44) : ∀ (i : Nat) (z : Sg), (lo2 i z).A a = z.A a
  | 0, _ => rfl
  | i + 1, z => by rw [lo2, A_lo2 h, A_stA, if_neg h]
/-- which nodes bear a key: alike on both sides -/
def LK (d m : Sg) (n : Nat) : Prop := ∀ x, x < n → d.A 15 x = m.A 44 x ∧ (m.A 44 x = 0 ∨ m.A 44 x = 1) ∧ (¬ m.A 40 x = 0 → m.A 44 x = 1)
theorem LK_1 {d m : Sg} {n : Nat} (h : TB d m n) : LK (li1 n 0 d) (lo1 n 0 m) n := by
  intro x hx
  rw [li1_15, lo1_44, if_pos (by omega), if_pos (by omega), (h.2.2.2.2.1 x hx).1, A_lo1 (by decide) (by decide) (by decide)]
  exact ⟨rfl, b2i_01, fun h9 => b2i_t h9⟩
theorem TB_1 {d m : Sg} {n : Nat} (h : TB d m n) : TB (li1 n 0 d) (lo1 n 0 m) n := h.c (by rw [F_li1]) (A_li1 (by decide) _ _ _) (A_li1 (by decide) _ _ _) (A_li1 (by decide) _ _ _) (by rw [F_lo1]) (A_lo1 (by decide) (by decide) (by decide) _ _ _) (A_lo1 (by decide) (by decide) (by decide) _ _ _) (A_lo1 (by decide) (by decide) (by decide) _ _ _)
theorem TB_2 {d m : Sg} {n : Nat} (h : TB d m n) (i : Nat) : TB (li2 i d) (lo2 i m) n := h.c (by rw [F_li2]) (A_li2 (by decide) _ _) (A_li2 (by decide) _ _) (A_li2 (by decide) _ _) (by rw [F_lo2]) (A_lo2 (by decide) _ _) (A_lo2 (by decide) _ _) (A_lo2 (by decide) _ _)
theorem LK_2 {n : Nat} : ∀ (i : Nat) (d m : Sg), i < n → TB d m n → LK d m n → LK (li2 i d) (lo2 i m) n
  | 0, d, m, _, _, h => h
  | i + 1, d, m, hi, hb, h => by
    obtain ⟨g, hg, eg, -⟩ := hb.2.2.2.2.2.2.1 (i + 1) (by omega) hi
    have hn := hb.2.2.2.1
    have e9 : d.A 9 (i + 1) = nI g := by rw [(hb.2.2.2.2.1 (i + 1) hi).2.2, eg]
    have hgc : (nI g).toNatClampNeg = g := nI_clamp (by omega)
    obtain ⟨h1, h2, h3⟩ := h (i + 1) hi
    obtain ⟨g1, g2, g3⟩ := h g (by omega)
    have hlt : ltN (d.A 9 (i + 1)) (d.F 6 10) := by
      rw [e9, hb.1]
      exact ⟨by rw [nI_toInt (by omega)]; omega, by rw [nI_toInt (by omega), nI_toInt (by omega)]; omega⟩
    have hA : ∀ a, ¬ a = 15 → (if liC d (i + 1) then stA d 15 (upd (d.A 15) (d.A 9 (i + 1)).toNatClampNeg 1) else d).A a = d.A a := by
      intro a ha
      split
      · rw [A_stA, if_neg ha]
      · rfl
    have hF : (if liC d (i + 1) then stA d 15 (upd (d.A 15) (d.A 9 (i + 1)).toNatClampNeg 1) else d).F = d.F := by split <;> rfl
    rw [li2, lo2]
    refine LK_2 i _ _ (by omega) (hb.c (by rw [hF]) (hA _ (by decide)) (hA _ (by decide)) (hA _ (by decide)) rfl rfl rfl rfl) ?_
    intro x hx
    obtain ⟨x1, x2, x3⟩ := h x hx
    show _ = upd (m.A 44) (m.A 42 (i + 1)).toNatClampNeg (b2i (loC m (i + 1))) x ∧ (upd (m.A 44) (m.A 42 (i + 1)).toNatClampNeg (b2i (loC m (i + 1))) x = 0 ∨ upd (m.A 44) (m.A 42 (i + 1)).toNatClampNeg (b2i (loC m (i + 1))) x = 1) ∧ (¬ m.A 40 x = 0 → upd (m.A 44) (m.A 42 (i + 1)).toNatClampNeg (b2i (loC m (i + 1))) x = 1)
    have hcc : (m.A 42 (i + 1)).toNatClampNeg = g := by rw [eg, hgc]
    generalize hbv : b2i (loC m (i + 1)) = bb
    rw [hcc]
    by_cases hk : m.A 44 (i + 1) = 0
    · rw [if_neg (show ¬ liC d (i + 1) from fun h9 => h9.1 (by rw [h1]; exact hk))]
      by_cases e : x = g
      · rw [e, pk_us, g1]
        have hb2 : bb = m.A 44 g := by
          rw [← hbv]
          rcases g2 with h9 | h9
          · rw [h9]
            exact b2i_f (fun h8 => h8.elim (fun h7 => h7 (by rw [eg, hgc]; exact h9)) (fun h7 => h7 hk))
          · rw [h9]
            exact b2i_t (Or.inl (by rw [eg, hgc, h9]; decide))
        rw [hb2]
        exact ⟨rfl, g2, g3⟩
      · rw [pk_un e]
        exact ⟨x1, x2, x3⟩
    · have ht : bb = 1 := by rw [← hbv]; exact b2i_t (Or.inr hk)
      rw [if_pos (show liC d (i + 1) from ⟨by rw [h1]; exact hk, hlt⟩), ht, A_stA, if_pos rfl, e9, hgc]
      by_cases e : x = g
      · rw [e, pk_us, pk_us]
        exact ⟨rfl, Or.inr rfl, fun _ => rfl⟩
      · rw [pk_un e, pk_un e]
        exact ⟨x1, x2, x3⟩
