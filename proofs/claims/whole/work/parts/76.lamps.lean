/-! THE LAMP, both sides -/
/-- the lamps at group g, its k-th light; the desk's clock at Td, the model's at Tm -/
def LW (n c : Nat) (row : Nat → List Nat) (g k Td Tm C p : Nat) (dF mF : Nat → Int32) : Prop :=
  g < n ∧ (k < (row g).length ∨ (k = 0 ∧ row g = [])) ∧ C ≤ Td ∧ p ≤ c ∧
  dF 3 = nI g ∧ mF 11 = nI g ∧ dF 4 = nx (row g)[k]? ∧ mF 12 = nI k ∧ dF 2 = nI Td ∧ mF 10 = nI Tm ∧ dF 6 = nI C ∧ mF 14 = nI C ∧ dF 7 = mF 15 ∧ dF 8 = nI p ∧ mF 16 = nI p ∧ dF 5 = mF 13 ∧ (mF 13 = -1 ∨ ∃ j b : Nat, (row g)[j]? = some b ∧ mF 13 = nI b) ∧ (p = 0 → mF 17 = -1) ∧ (0 < p → dF 9 = mF 17 ∧ ∃ q : Nat, q ≤ 1000000 ∧ mF 17 = nI q)
def LV (n c : Nat) (row : Nat → List Nat) (dF mF : Nat → Int32) : Prop := ∃ g k T C p, T ≤ 1000000 ∧ LW n c row g k T T C p dF mF
theorem F_self (z : Sg) (i j : Nat) (v : Int32) : (stF z i j v).F i j = v := by rw [F_stF, if_pos rfl, if_pos rfl]
theorem F_oth (z : Sg) (i j : Nat) (v : Int32) {l : Nat} (h : ¬ l = j) : (stF z i j v).F i l = z.F i l := by rw [F_stF, if_pos rfl, if_neg h]
theorem stF_stF (z : Sg) (i j : Nat) (v w : Int32) : stF (stF z i j v) i j w = stF z i j w := by
  refine Prod.ext rfl (Prod.ext (funext fun a => funext fun b => ?_) rfl)
  show (stF (stF z i j v) i j w).F a b = (stF z i j w).F a b
  rw [F_stF, F_stF, F_stF, F_stF]
  by_cases h1 : a = i
  · rw [if_pos h1, if_pos h1]
    by_cases h2 : b = j
    · rw [if_pos h2, if_pos h2]
    · rw [if_neg h2, if_neg h2, if_pos rfl, if_neg h2]
  · rw [if_neg h1, if_neg h1, if_neg h1]
theorem stF_self (z : Sg) (i j : Nat) : stF z i j (z.F i j) = z := by
  refine Prod.ext rfl (Prod.ext (funext fun a => funext fun b => ?_) rfl)
  show (stF z i j (z.F i j)).F a b = z.F a b
  rw [F_stF]
  by_cases h1 : a = i
  · rw [if_pos h1]
    by_cases h2 : b = j
    · rw [if_pos h2, h1, h2]
    · rw [if_neg h2, h1]
  · rw [if_neg h1]
theorem tks_add : ∀ (a b : Nat) (z : Sg), tks (a + b) z = tks b (tks a z)
  | 0, b, z => by rw [Nat.zero_add]; rfl
  | a + 1, b, z => by rw [show a + 1 + b = a + b + 1 by omega, tks, tks, tks_add a b]
/-- spans and the like, told on both sides -/
def NR (d m : Sg) : Prop := (∀ j, j < 5 → d.A 5 j = m.A 43 j) ∧ (∃ s, 1 ≤ s ∧ s ≤ 50 ∧ m.A 43 0 = nI s) ∧ (∃ s, s ≤ 9 ∧ m.A 43 1 = nI s) ∧ (∃ s, s ≤ 20 ∧ m.A 43 2 = nI s) ∧ (∃ s, s ≤ 20 ∧ m.A 43 3 = nI s) ∧ (∃ s, s ≤ 50 ∧ m.A 43 4 = nI s)
theorem nx_m1 {l : List Nat} {k : Nat} (hl : ∀ x ∈ l, x < 2 ^ 31) : nx l[k]? = -1 ↔ l.length ≤ k := by
  by_cases h : k < l.length
  · rw [List.getElem?_eq_getElem h]
    constructor
    · intro h9
      exact absurd h9 (nI_m1 (hl _ (List.getElem_mem h)))
    · intro h9
      omega
  · rw [List.getElem?_eq_none (by omega)]
    exact ⟨fun _ => by omega, fun _ => rfl⟩
section Lamps
variable {d m : Sg} {n c : Nat} {row : Nat → List Nat}
theorem TR.small (h : TR d m n row) {g : Nat} (hg : g < n) : ∀ x ∈ row g, x < 2 ^ 31 := fun x hx => by
  obtain ⟨k, hk, e⟩ := List.mem_iff_getElem.mp hx
  have := (h.node hg (show (row g)[k]? = some x by rw [List.getElem?_eq_getElem hk, e])).2
  have := h.n60
  omega
theorem TR.litR (h : TR d m n row) {g k : Nat} (hg : g < n) (hk : k < 60) (h1 : m.F 39 11 = nI g) (h2 : m.F 39 12 = nI k) : litM m = nx (row g)[k]? := by
  unfold litM
  rw [h1, h2, h.lite hg hk]
theorem LW.k60 (h : TR d m n row) {g k Td Tm C p : Nat} {dF mF : Nat → Int32} (hw : LW n c row g k Td Tm C p dF mF) : k < 60 := by
  have := h.len hw.1
  have := h.n60
  rcases hw.2.1 with h9 | ⟨h9, -⟩ <;> omega
/-- ticks at which nothing changes -/
theorem idle_run (ht : TR d m n row) (hs : NR d m) {g k Td C p s : Nat} : ∀ (j T : Nat) (m' : Sg), (∀ a, m'.A a = m.A a) → m'.F 39 11 = nI g → g < n → m'.F 39 10 = nI T → m'.F 39 14 = nI C → C ≤ T → m.A 43 0 = nI s → T + j ≤ 1000100 → s ≤ 50 → (row g = [] ∨ T + j < C + s) → tks j m' = stF m' 39 10 (nI (T + j)) := by
  intro j
  induction j with
  | zero =>
    intro T m' hA h1 h2 h3 h4 h5 h6 h7 h8 h9
    rw [tks, Nat.add_zero, ← h3, stF_self]
  | succ j ih =>
    intro T m' hA h1 h2 h3 h4 h5 h6 h7 h8 h9
    have hn := ht.n60
    have hI : tkI m' := by
      rcases h9 with h9 | h9
      · refine Or.inl ?_
        rw [h1, nI_clamp (by omega), hA, ht.many h2, h9]
        rfl
      · refine Or.inr ?_
        rw [h3, h4, nI_1, pk_sub (by omega), hA, h6]
        exact nI_lt (by omega) (by omega)
    rw [tks, tk, if_pos hI, h3, nI_1]
    have h10 := ih (T + 1) (stF m' 39 10 (nI (T + 1))) hA (by rw [F_oth _ _ _ _ (by decide)]; exact h1) h2 (F_self _ _ _ _) (by rw [F_oth _ _ _ _ (by decide)]; exact h4) (by omega) h6 (by omega) h8 (by
      rcases h9 with h9 | h9
      · exact Or.inl h9
      · exact Or.inr (by omega))
    rw [h10, stF_stF, show T + 1 + j = T + (j + 1) by omega]
/-- as the desk comes to a group, so does the model -/
theorem LW_come (ht : TR d m n row) {g k Td Tm C p : Nat} (hw : LW n c row g k Td Tm C p (d.F 17) (m.F 39)) (he : Tm = Td) {g' : Nat} (hg : g' < n) : LW n c row g' 0 Td Td Td p ((zct d (nI g')).F 17) ((zcm m (nI g')).F 39) := by
  obtain ⟨a1, a2, a3, a4, a5, a6, a7, a8, a9, b1, b2, b3, b4, b5, b6, b7, b8, b9, c1⟩ := hw
  have hf := ht.first hg
  refine ⟨hg, ?_, Nat.le_refl _, a4, ?_, ?_, ?_, ?_, ?_, ?_, ?_, ?_, ?_, ?_, ?_, ?_, Or.inl ?_, ?_, ?_⟩
  · rcases Nat.eq_zero_or_pos (row g').length with h9 | h9
    · exact Or.inr ⟨rfl, List.length_eq_zero_iff.mp h9⟩
    · exact Or.inl h9
  · rfl
  · rfl
  · exact hf
  · rfl
  · exact a9
  · rw [← he]; exact b1
  · exact a9
  · rw [← he]; exact b1
  · rfl
  · exact b5
  · exact b6
  · rfl
  · rfl
  · exact b9
  · exact c1
/-- a change: the desk's clock at T, the model's one behind it -/
theorem LW_chg (ht : TR d m n row) (hs : NR d m) {g k T C p s : Nat} (hT : T ≤ 1000000) (hw : LW n c row g k T (T - 1) C p (d.F 17) (m.F 39)) (h1 : 1 ≤ T) (hne : ¬ row g = []) (hsp : m.A 43 0 = nI s) (hsl : s ≤ 50) (hdue : C + s ≤ T) : ∃ g' k', LW n c row g' k' T T T p ((chg d).F 17) ((tk m).F 39) := by
  have hk60 := hw.k60 ht
  obtain ⟨a1, a2, a3, a4, a5, a6, a7, a8, a9, b1, b2, b3, b4, b5, b6, b7, b8, b9, c1⟩ := hw
  have hn := ht.n60
  have hkl : k < (row g).length := by
    rcases a2 with h9 | ⟨-, h9⟩
    · exact h9
    · exact absurd h9 hne
  have hx : (row g)[k]? = some (row g)[k] := List.getElem?_eq_getElem hkl
  generalize (row g)[k] = x at hx
  have hxn := ht.node a1 hx
  have hlit := ht.litR a1 hk60 a6 a8
  have hl := ht.len a1
  have hm := ht.many a1
  have hTT : m.F 39 10 + 1 = nI T := by rw [b1, nI_1, show T - 1 + 1 = T by omega]
  rw [hx] at a7 hlit
  have hnI : ¬ tkI m := fun h9 => by
    rcases h9 with h9 | h9
    · rw [a6, nI_clamp (by omega), hm] at h9
      exact nI_ne0 (by omega) (by omega) h9
    · rw [hTT, b3, pk_sub (by omega), hsp] at h9
      exact nI_nlt (by omega) (by omega) h9
  have hmany : m.A 46 (m.F 39 11).toNatClampNeg = nI (row g).length := by rw [a6, nI_clamp (by omega), hm]
  have hnx := ht.next a1 hx
  have hgx : d.F 17 4 = nI x := a7
  have hr1 : d.A 5 1 = m.A 43 1 := hs.1 1 (by decide)
  unfold chg tk
  rw [if_neg hnI, hgx, hnx, hmany, a8, nI_1]
  by_cases hlt : k + 1 < (row g).length
  · have hy : (row g)[k + 1]? = some (row g)[k + 1] := List.getElem?_eq_getElem hlt
    generalize (row g)[k + 1] = y at hy
    have hyn := ht.node a1 hy
    rw [if_neg (by rw [hy]; exact nI_m1 (by omega)), if_pos (nI_lt hlt (by omega))]
    refine ⟨g, k + 1, a1, Or.inl hlt, Nat.le_refl _, a4, a5, a6, ?_, ?_, a9, hTT, a9, hTT, b4, b5, b6, ?_, ?_, b9, c1⟩
    · rfl
    · show m.F 39 12 + 1 = nI (k + 1)
      rw [a8, nI_1]
    · show d.F 17 4 = litM m
      rw [hgx, hlit]
      rfl
    · refine Or.inr ⟨k, x, hx, ?_⟩
      show litM m = nI x
      rw [hlit]
      rfl
  · rw [if_pos (by rw [List.getElem?_eq_none (by omega)]; rfl), if_neg (nI_nlt (by omega) (by omega))]
    have hrd : rdOK d ↔ rdM m := by
      unfold rdOK rdM
      rw [a5, a6, b4, hr1]
    by_cases hr : rdM m
    · rw [if_pos (hrd.mpr hr), if_pos hr]
      have hd2 : LW n c row g k T T C p ((stF d 17 7 (d.F 17 7 + 1)).F 17) ((tk2 m).F 39) ∨ True := Or.inr trivial
      have hf := ht.first (show 0 < n by omega)
      refine ⟨0, 0, by omega, ?_, Nat.le_refl _, a4, rfl, rfl, hf, rfl, a9, hTT, a9, hTT, rfl, b5, b6, rfl, Or.inl rfl, b9, c1⟩
      rcases Nat.eq_zero_or_pos (row 0).length with h9 | h9
      · exact Or.inr ⟨rfl, List.length_eq_zero_iff.mp h9⟩
      · exact Or.inl h9
    · rw [if_neg (fun h9 => hr (hrd.mp h9)), if_neg hr]
      have hf := ht.first a1
      refine ⟨g, 0, a1, Or.inl (by omega), Nat.le_refl _, a4, a5, a6, ?_, rfl, a9, hTT, a9, hTT, ?_, b5, b6, ?_, ?_, b9, c1⟩
      · show tg d 12 (d.F 17 3) (-1) = nx (row g)[0]?
        rw [a5]
        exact hf
      · show d.F 17 7 + 1 = m.F 39 15 + 1
        rw [b4]
      · show d.F 17 4 = litM m
        rw [hgx, hlit]
        rfl
      · refine Or.inr ⟨k, x, hx, ?_⟩
        show litM m = nI x
        rw [hlit]
        rfl
end Lamps
