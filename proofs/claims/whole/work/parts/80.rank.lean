/-! WORDS IN THEIR ORDER: put in one by one (the desk), counted (the model) -/
abbrev AH (mk ct : Nat → Int32) (v w : Nat) : Prop := (mk v).toInt < (mk w).toInt ∨ ((mk v).toInt = (mk w).toInt ∧ ((ct w).toInt < (ct v).toInt ∨ ((ct v).toInt = (ct w).toInt ∧ v < w)))
abbrev BE (mk ct : Nat → Int32) (w x : Nat) : Prop := if mk w = mk x then ct x < ct w else mk w < mk x
def EL (mk : Nat → Int32) (z : Sg) (L : List Nat) : Prop := z.F 28 6 = nI L.length ∧ ∀ (j x : Nat), L[j]? = some x → z.A 30 j = nI x ∧ z.A 31 j = mk x
theorem ins_get {L : List Nat} {q w : Nat} (hq : q ≤ L.length) (j : Nat) : (L.take q ++ w :: L.drop q)[j]? = if j < q then L[j]? else if j = q then some w else L[j - 1]? := by
  have hl : (L.take q).length = q := by rw [List.length_take]; omega
  by_cases h1 : j < q
  · rw [if_pos h1, List.getElem?_append_left (by omega), List.getElem?_take, if_pos h1]
  · rw [if_neg h1, List.getElem?_append_right (by omega), hl]
    by_cases h2 : j = q
    · rw [if_pos h2, h2, Nat.sub_self]
      rfl
    · rw [if_neg h2, show j - q = (j - 1 - q) + 1 by omega, List.getElem?_cons_succ, List.getElem?_drop, show q + (j - 1 - q) = j - 1 by omega]
theorem ins_len {L : List Nat} {q w : Nat} (hq : q ≤ L.length) : (L.take q ++ w :: L.drop q).length = L.length + 1 := by
  rw [List.length_append, List.length_cons, List.length_take, List.length_drop]
  omega
section Rank
variable {mk ct : Nat → Int32} {N : Nat}
theorem put_ok {z : Sg} {L : List Nat} {w q : Nat} (hq : q ≤ L.length) (hF : z.F 28 6 = nI L.length) (h1 : ∀ (j x : Nat), j < q → L[j]? = some x → z.A 30 j = nI x ∧ z.A 31 j = mk x) (h2 : ∀ (j x : Nat), q ≤ j → L[j]? = some x → z.A 30 (j + 1) = nI x ∧ z.A 31 (j + 1) = mk x) : EL mk (ePut z (nI w) (mk w) q) (L.take q ++ w :: L.drop q) := by
  refine ⟨?_, fun j x hx => ?_⟩
  · show z.F 28 6 + 1 = _
    rw [hF, nI_1, ins_len hq]
  · show upd (z.A 30) q (nI w) j = nI x ∧ upd (z.A 31) q (mk w) j = mk x
    rw [ins_get hq] at hx
    by_cases e1 : j < q
    · rw [if_pos e1] at hx
      rw [pk_un (by omega), pk_un (by omega)]
      exact h1 j x e1 hx
    · rw [if_neg e1] at hx
      by_cases e2 : j = q
      · rw [if_pos e2] at hx
        rw [e2, pk_us, pk_us, Option.some.inj hx]
        exact ⟨rfl, rfl⟩
      · rw [if_neg e2] at hx
        rw [pk_un e2, pk_un e2]
        have h9 := h2 (j - 1) x (by omega) hx
        rw [show j - 1 + 1 = j by omega] at h9
        exact h9
theorem esh_ok {L : List Nat} {w : Nat} (hw : w < N) (hLN : ∀ x ∈ L, x < N) : ∀ (p : Nat) (z : Sg), p ≤ L.length → bkOK z N → (∀ x, x < N → z.A 27 x = ct x) → z.F 28 6 = nI L.length → (∀ (j x : Nat), j < p → L[j]? = some x → z.A 30 j = nI x ∧ z.A 31 j = mk x) → (∀ (j x : Nat), p ≤ j → L[j]? = some x → z.A 30 (j + 1) = nI x ∧ z.A 31 (j + 1) = mk x) → (∀ (j x : Nat), p ≤ j → L[j]? = some x → BE mk ct w x) → ∃ q, q ≤ L.length ∧ EL mk (esh (nI w) (mk w) p z) (L.take q ++ w :: L.drop q) ∧ (∀ (j x : Nat), q ≤ j → L[j]? = some x → BE mk ct w x) ∧ (∀ x : Nat, 0 < q → L[q - 1]? = some x → ¬ BE mk ct w x) := by
  intro p
  induction p with
  | zero =>
    intro z hp hb hc hF h1 h2 h3
    exact ⟨0, by omega, put_ok (by omega) hF h1 h2, h3, fun x h9 => absurd h9 (by omega)⟩
  | succ p ih =>
    intro z hp hb hc hF h1 h2 h3
    have hn := hb.2.1
    have hx : L[p]? = some L[p] := List.getElem?_eq_getElem (by omega)
    have hxN := hLN _ (List.getElem_mem (show p < L.length by omega))
    generalize L[p] = x at hx hxN
    obtain ⟨e1, e2⟩ := h1 p x (by omega) hx
    have hB : isB z (nI w) (mk w) p ↔ BE mk ct w x := by
      unfold isB BE
      rw [e1, e2, bg_at hb hxN, bg_at hb hw, hc x hxN, hc w hw]
    rw [esh]
    by_cases h9 : BE mk ct w x
    · rw [if_pos (hB.mpr h9)]
      refine ih (eSh z p) (by omega) (bk_eSh hb p) hc hF (fun j y hj hy => ?_) (fun j y hj hy => ?_) (fun j y hj hy => ?_)
      · show upd (z.A 30) (p + 1) (z.A 30 p) j = _ ∧ upd (z.A 31) (p + 1) (z.A 31 p) j = _
        rw [pk_un (by omega), pk_un (by omega)]
        exact h1 j y (by omega) hy
      · show upd (z.A 30) (p + 1) (z.A 30 p) (j + 1) = _ ∧ upd (z.A 31) (p + 1) (z.A 31 p) (j + 1) = _
        by_cases e : j = p
        · rw [e] at hy ⊢
          rw [pk_us, pk_us]
          exact h1 p y (by omega) hy
        · rw [pk_un (by omega), pk_un (by omega)]
          exact h2 j y (by omega) hy
      · by_cases e : j = p
        · rw [e, hx] at hy
          rw [← Option.some.inj hy]
          exact h9
        · exact h3 j y (by omega) hy
    · rw [if_neg (fun h8 => h9 (hB.mp h8))]
      refine ⟨p + 1, hp, put_ok hp hF h1 h2, h3, fun y _ hy => ?_⟩
      rw [show p + 1 - 1 = p by omega, hx] at hy
      rw [← Option.some.inj hy]
      exact h9
/-- the words below W that are marked, in their order -/
def IV (mk ct : Nat → Int32) (z : Sg) (L : List Nat) (W : Nat) : Prop := EL mk z L ∧ L.Pairwise (AH mk ct) ∧ (∀ x, x ∈ L ↔ x < W ∧ 0 ≤ (mk x).toInt) ∧ (∀ w, (List.range W).countP (fun v => decide (0 ≤ (mk v).toInt ∧ AH mk ct v w)) = L.countP (fun v => decide (AH mk ct v w))) ∧ L.length ≤ W
theorem IV_skip {z : Sg} {L : List Nat} {W : Nat} (h : IV mk ct z L W) (hm : ¬ 0 ≤ (mk W).toInt) : IV mk ct z L (W + 1) := by
  obtain ⟨h1, h2, h3, h4, h5⟩ := h
  refine ⟨h1, h2, fun x => ?_, fun w => ?_, by omega⟩
  · rw [h3]
    constructor
    · rintro ⟨a, b⟩
      exact ⟨by omega, b⟩
    · rintro ⟨a, b⟩
      refine ⟨?_, b⟩
      by_cases e : x = W
      · rw [e] at b
        exact absurd b hm
      · omega
  · rw [List.range_succ, List.countP_append, h4, List.countP_singleton, if_neg]
    · rw [Nat.add_zero]
    · rw [decide_eq_true_iff]
      exact fun h9 => hm h9.1
theorem AH_tr {a b c : Nat} (h1 : AH mk ct a b) (h2 : AH mk ct b c) : AH mk ct a c := by
  unfold AH at *
  omega
theorem IV_put {z : Sg} {L : List Nat} {W : Nat} (h : IV mk ct z L W) (hb : bkOK z N) (hW : W < N) (hc : ∀ x, x < N → z.A 27 x = ct x) (hm : 0 ≤ (mk W).toInt) : ∃ L', IV mk ct (enl z (nI W) (mk W) L.length) L' (W + 1) ∧ L'.length = L.length + 1 := by
  obtain ⟨h1, h2, h3, h4, h5⟩ := h
  have hn := hb.2.1
  have hLN : ∀ x ∈ L, x < N := fun x hx => by have := (h3 x).mp hx; omega
  obtain ⟨q, q1, q2, q3, q4⟩ := esh_ok (mk := mk) (ct := ct) hW hLN L.length z (Nat.le_refl _) hb hc h1.1 (fun j x _ hx => h1.2 j x hx) (fun j x hj hx => absurd (get_lt hx) (by omega)) (fun j x hj hx => absurd (get_lt hx) (by omega))
  have hen : enl z (nI W) (mk W) L.length = esh (nI W) (mk W) L.length z := by
    unfold enl
    rw [if_pos (by omega)]
  have hL : L = L.take q ++ L.drop q := (List.take_append_drop q L).symm
  have hlo : ∀ x ∈ L.take q, AH mk ct x W := by
    intro x hx
    have hq0 : 0 < q := by
      rcases Nat.eq_zero_or_pos q with e | e
      · rw [e] at hx
        simp at hx
      · exact e
    have hy : L[q - 1]? = some L[q - 1] := List.getElem?_eq_getElem (by omega)
    generalize hyy : L[q - 1] = y at hy
    have hyW : y < W := by
      have : y ∈ L := by rw [← hyy]; exact List.getElem_mem _
      exact ((h3 y).mp this).1
    have h9 := q4 y hq0 hy
    have hyA : AH mk ct y W := by
      unfold BE at h9
      unfold AH
      by_cases e : mk W = mk y
      · rw [if_pos e, i32_lt] at h9
        rw [e]
        omega
      · rw [if_neg e, i32_lt] at h9
        rw [i32_eq] at e
        omega
    obtain ⟨j, hj, ej⟩ := List.mem_iff_getElem.mp hx
    rw [List.length_take] at hj
    rw [List.getElem_take] at ej
    by_cases e : j = q - 1
    · have : x = y := by rw [← ej, ← hyy]; congr 1
      rw [this]
      exact hyA
    · have h8 := (List.pairwise_iff_getElem.mp h2) j (q - 1) (by omega) (by omega) (by omega)
      rw [ej, hyy] at h8
      exact AH_tr h8 hyA
  have hhi : ∀ x ∈ L.drop q, AH mk ct W x := by
    intro x hx
    obtain ⟨j, hj, ej⟩ := List.mem_iff_getElem.mp hx
    rw [List.length_drop] at hj
    rw [List.getElem_drop] at ej
    have h9 := q3 (q + j) x (by omega) (by rw [List.getElem?_eq_getElem (by omega), ej])
    unfold BE at h9
    unfold AH
    by_cases e : mk W = mk x
    · rw [if_pos e, i32_lt] at h9
      rw [e]
      omega
    · rw [if_neg e, i32_lt] at h9
      omega
  refine ⟨L.take q ++ W :: L.drop q, ⟨by rw [hen]; exact q2, ?_, fun x => ?_, fun w => ?_, by rw [ins_len q1]; omega⟩, ins_len q1⟩
  · rw [List.pairwise_append, List.pairwise_cons]
    refine ⟨h2.sublist (List.take_sublist q L), ⟨hhi, h2.sublist (List.drop_sublist q L)⟩, fun a ha b hb' => ?_⟩
    rcases List.mem_cons.mp hb' with e | e
    · rw [e]
      exact hlo a ha
    · exact AH_tr (hlo a ha) (hhi b e)
  · have hmem : x ∈ L.take q ++ W :: L.drop q ↔ x ∈ L ∨ x = W := by
      rw [List.mem_append, List.mem_cons]
      conv => rhs; rw [hL]
      rw [List.mem_append]
      constructor
      · rintro (h9 | h9 | h9)
        · exact Or.inl (Or.inl h9)
        · exact Or.inr h9
        · exact Or.inl (Or.inr h9)
      · rintro ((h9 | h9) | h9)
        · exact Or.inl h9
        · exact Or.inr (Or.inr h9)
        · exact Or.inr (Or.inl h9)
    rw [hmem, h3]
    constructor
    · rintro (⟨a, b⟩ | e)
      · exact ⟨by omega, b⟩
      · rw [e]
        exact ⟨by omega, hm⟩
    · rintro ⟨a, b⟩
      by_cases e : x = W
      · exact Or.inr e
      · exact Or.inl ⟨by omega, b⟩
  · rw [List.range_succ, List.countP_append, h4, List.countP_singleton, List.countP_append, List.countP_cons]
    conv => lhs; rw [hL]
    rw [List.countP_append]
    have : (decide (0 ≤ (mk W).toInt ∧ AH mk ct W w)) = decide (AH mk ct W w) := by
      by_cases e : AH mk ct W w
      · rw [decide_eq_true e, decide_eq_true ⟨hm, e⟩]
      · rw [decide_eq_false e, decide_eq_false (fun h9 => e h9.2)]
    rw [this]
    omega
theorem rnA_cnt {z : Sg} {n : Nat} (w : Nat) (hm : ∀ V, V < n → z.A 58 V = mk V) (hc : ∀ V, V < n → z.A 57 V = ct V) (hw : w < n) : ∀ (m v c : Nat), v + m = n → rnA z w m v c = c + (List.range' v m).countP (fun v => decide (0 ≤ (mk v).toInt ∧ AH mk ct v w))
  | 0, v, c, _ => rfl
  | m + 1, v, c, h => by
    have hah : ahP z w v ↔ (0 ≤ (mk v).toInt ∧ AH mk ct v w) := by
      unfold ahP AH
      rw [hm v (by omega), hm w hw, hc v (by omega), hc w hw]
      simp only [i32_lt, i32_eq, Int32.reduceToInt]
      by_cases e : v = w
      · subst e
        omega
      · omega
    rw [rnA, List.range'_succ, List.countP_cons]
    by_cases e : ahP z w v
    · rw [if_pos e, rnA_cnt w hm hc hw m (v + 1) (c + 1) (by omega), if_pos (decide_eq_true (hah.mp e))]
      omega
    · rw [if_neg e, rnA_cnt w hm hc hw m (v + 1) c (by omega), if_neg (by rw [decide_eq_true_iff]; exact fun h9 => e (hah.mpr h9))]
      omega
/-- a word's rank is its place -/
theorem rank_at {z : Sg} {L : List Nat} {n : Nat} (hI : L.Pairwise (AH mk ct)) (hcn : ∀ w, (List.range n).countP (fun v => decide (0 ≤ (mk v).toInt ∧ AH mk ct v w)) = L.countP (fun v => decide (AH mk ct v w))) (hm : ∀ V, V < n → z.A 58 V = mk V) (hc : ∀ V, V < n → z.A 57 V = ct V) {j w : Nat} (hj : L[j]? = some w) (hw : w < n) : rnA z w n 0 0 = j := by
  rw [rnA_cnt w hm hc hw n 0 0 (by omega), ← List.range_eq_range', hcn, Nat.zero_add]
  have hjl := get_lt hj
  have hjw : L[j] = w := by
    rw [List.getElem?_eq_getElem hjl] at hj
    exact Option.some.inj hj
  have hL : L = L.take j ++ w :: L.drop (j + 1) := by
    conv => lhs; rw [← List.take_append_drop j L, List.drop_eq_getElem_cons hjl, hjw]
  have hp := hI
  rw [hL, List.pairwise_append, List.pairwise_cons] at hp
  rw [hL, List.countP_append, List.countP_cons, if_neg (by rw [decide_eq_true_iff]; unfold AH; omega)]
  have h1 : (L.take j).countP (fun v => decide (AH mk ct v w)) = (L.take j).length := List.countP_eq_length.mpr (fun a ha => decide_eq_true (hp.2.2 a ha w List.mem_cons_self))
  have h2 : (L.drop (j + 1)).countP (fun v => decide (AH mk ct v w)) = 0 := List.countP_eq_zero.mpr (fun a ha => by
    rw [decide_eq_true_iff]
    have h9 := hp.2.1.1 a ha
    unfold AH at *
    omega)
  rw [h1, h2, List.length_take]
  omega
theorem rank_eq {z d : Sg} {L : List Nat} {n : Nat} (hn : n ≤ 40) (hI : IV mk ct d L n) (hm : ∀ V, V < n → z.A 58 V = mk V) (hc : ∀ V, V < n → z.A 57 V = ct V) (k : Int32) : rnk z n k n 0 = fat d k := by
  obtain ⟨h1, h2, h3, h4, h5⟩ := hI
  have hle : L.length ≤ 40 := by omega
  have key : ∀ V, V < n → rkC z n k V → ∃ j : Nat, L[j]? = some V ∧ k = nI j := by
    intro V hV ⟨a, b⟩
    rw [hm V hV, i32_lt] at a
    simp only [Int32.reduceToInt] at a
    obtain ⟨j, hj, ej⟩ := List.mem_iff_getElem.mp ((h3 V).mpr ⟨hV, by omega⟩)
    have hj2 : L[j]? = some V := by rw [List.getElem?_eq_getElem hj, ej]
    refine ⟨j, hj2, ?_⟩
    rw [← b, rank_at h2 h4 hm hc hj2 hV]
  unfold fat
  rw [h1.1]
  by_cases hk : ltN k (nI L.length)
  · rw [if_pos hk]
    obtain ⟨k1, k2⟩ := hk
    rw [nI_toInt (by omega)] at k2
    have hkn : k = nI k.toInt.toNat := by rw [i32_eq, nI_toInt (by omega)]; omega
    have hkl : k.toInt.toNat < L.length := by omega
    generalize k.toInt.toNat = kk at hkn hkl
    have hx : L[kk]? = some L[kk] := List.getElem?_eq_getElem hkl
    have hxn := (h3 _).mp (List.getElem_mem hkl)
    generalize L[kk] = x at hx hxn
    rw [hkn, nI_clamp (by omega), (h1.2 kk x hx).1]
    rcases rnk_cases z n (nI kk) n 0 with ⟨-, a2⟩ | ⟨V, -, a2, a3, a4⟩
    · refine absurd ?_ (a2 x (by omega) (by omega))
      refine ⟨?_, by rw [rank_at h2 h4 hm hc hx hxn.1]⟩
      rw [hm x hxn.1, i32_lt]
      simp only [Int32.reduceToInt]
      omega
    · rw [a3]
      obtain ⟨j, b1, b2⟩ := key V (by omega) (by rw [hkn]; exact a4)
      rw [hkn, nI_eq (by omega) (by have := get_lt b1; omega)] at b2
      rw [← b2, hx] at b1
      rw [Option.some.inj b1]
  · rw [if_neg hk]
    rcases rnk_cases z n k n 0 with ⟨a1, -⟩ | ⟨V, -, a2, -, a4⟩
    · exact a1
    · obtain ⟨j, b1, b2⟩ := key V (by omega) a4
      refine absurd ?_ hk
      have := get_lt b1
      rw [b2]
      exact ⟨by rw [nI_toInt (by omega)]; omega, by rw [nI_toInt (by omega), nI_toInt (by omega)]; omega⟩
end Rank
