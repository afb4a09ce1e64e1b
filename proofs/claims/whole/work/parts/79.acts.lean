/-! ACTS, both sides -/
theorem getD_drop {r : List Int32} {q i : Nat} : (r.drop q).getD i 0 = r.getD (q + i) 0 := by
  rw [List.getD_eq_getElem?_getD, List.getD_eq_getElem?_getD, List.getElem?_drop]
section Acts3
variable {d m : Sg} {r : List Int32} {sd : Option (List Int32)} {o k : Nat}
theorem TX_cons {f g : Nat → Int32} {r : List Int32} {x : Int32} (h : TX f r) (h1 : g r.length = x) (h2 : ∀ j, j < r.length → g j = f j) : TX g (x :: r) := by
  intro j hj
  rw [List.length_cons] at hj ⊢
  by_cases e : j = r.length
  · rw [e, h1, show r.length + 1 - 1 - r.length = 0 by omega]
    rfl
  · rw [h2 j (by omega), h j (by omega), show r.length + 1 - 1 - j = (r.length - 1 - j) + 1 by omega]
    rfl
theorem TX_drop {f : Nat → Int32} {r : List Int32} {q : Nat} (h : TX f r) : TX f (r.drop q) := by
  intro j hj
  rw [List.length_drop] at hj ⊢
  rw [h j (by omega), getD_drop, show q + (r.length - q - 1 - j) = r.length - 1 - j by omega]
theorem SX_put (h : SX d m r sd o k) (hl : r.length < 200) {v : Int32} (hv : okB v) : SX (pch d v (r.length + 1)) (mpt m v) (v :: r) sd o k := by
  obtain ⟨⟨a1, a2, a3, a4, a5⟩, b, c1, c2, c3, c4⟩ := h
  have hcl : (m.F 39 24).toNatClampNeg = r.length := by rw [a4, nI_clamp (by omega)]
  refine ⟨⟨ch_pch v a1, by rw [List.length_cons]; omega, ?_, ?_, ?_⟩, ?_, c1, c2, c3, ?_⟩
  · intro x hx
    rcases List.mem_cons.mp hx with e | e
    · rw [e]; exact hv
    · exact a3 x e
  · show m.F 39 24 + 1 = nI (r.length + 1)
    rw [a4, nI_1]
  · refine TX_cons a5 ?_ (fun j hj => ?_)
    · show upd (m.A 48) (m.F 39 24).toNatClampNeg (vp_nar .byte v.toInt8.toInt32) r.length = v
      rw [hcl, pk_us]
      have h9 := okB_nar hv
      rw [show v.toInt8.toInt32 = vp_nar .byte v from rfl, h9, h9]
    · show upd (m.A 48) (m.F 39 24).toNatClampNeg _ j = _
      rw [hcl, pk_un (by omega)]
  · exact b.mono _
  · exact c4.mono _
theorem SX_act1 (h : SX d m r sd o k) {v : Int32} (hv : okB v) : SR (if r.length < 200 then pch (kp d o k) v (r.length + 1) else d) (if r.length = 200 then m else mpt (mkp m k) v) := by
  have h2 := h.1.2.1
  by_cases hl : r.length < 200
  · rw [if_pos hl, if_neg (by omega)]
    obtain ⟨o', k', -, h3⟩ := RG_keep h
    exact ⟨_, _, _, _, SX_put h3 hl hv⟩
  · rw [if_neg hl, if_pos (by omega)]
    exact ⟨_, _, _, _, h⟩
theorem SX_cut (h : SX d m r sd o k) {q c' : Nat} (hc : ch d.D c' (r.drop q)) (hq : q ≤ r.length) : SX (stT d c') (stF m 39 24 (nI (r.length - q))) (r.drop q) sd o k := by
  obtain ⟨⟨a1, a2, a3, a4, a5⟩, b, c1, c2, c3, c4⟩ := h
  refine ⟨⟨hc, by rw [List.length_drop]; omega, fun x hx => a3 x (List.mem_of_mem_drop hx), ?_, TX_drop a5⟩, b, c1, c2, c3, c4⟩
  rw [F_self, List.length_drop]
theorem SX_act2 (h : SX d m r sd o k) {c' : Nat} (hc : ch d.D c' (r.drop 1)) : SR (if 0 < r.length then stT (kp d o k) c' else d) (if r.length = 0 then m else stF (mkp m k) 39 24 (nI (r.length - 1))) := by
  by_cases hl : 0 < r.length
  · rw [if_pos hl, if_neg (by omega)]
    obtain ⟨o', k', -, h3⟩ := RG_keep h
    exact ⟨_, _, _, _, SX_cut h3 (by rw [D_kp]; exact hc) hl⟩
  · rw [if_neg hl, if_pos (by omega)]
    exact ⟨_, _, _, _, h⟩
theorem SX_act3 (h : SX d m r sd o k) : SR (if 0 < k then tb d o k else d) (if k = 0 then m else mun m k) := by
  by_cases hk : 0 < k
  · rw [if_pos hk, if_neg (by omega)]
    exact RG_undo h hk
  · rw [if_neg hk, if_pos (by omega)]
    exact ⟨_, _, _, _, h⟩
theorem SX_said (h : SX d m r sd o k) : ∃ rs : List Int32, rs.length ≤ 200 ∧ (∀ s, d.S = some s → ch d.D s rs) ∧ ((0 < r.length ∨ d.S = none ∨ 0 < rs.length) ↔ ¬ (r.length = 0 ∧ m.F 39 25 = 0)) := by
  have h2 := h.2.1
  cases sd with
  | none =>
    obtain ⟨b1, b2⟩ := h2
    refine ⟨[], by simp, fun s hs => by rw [b1] at hs; exact absurd hs (by simp), ?_⟩
    rw [b1, b2]
    exact ⟨fun _ h9 => absurd h9.2 (by decide), fun _ => Or.inr (Or.inl rfl)⟩
  | some rs =>
    obtain ⟨s, b1, b2⟩ := h2
    refine ⟨rs, b2.2.1, fun s' hs => by rw [b1] at hs; exact Option.some.inj hs ▸ b2.1, ?_⟩
    rw [b1, b2.2.2.2.1]
    have hl := b2.2.1
    constructor
    · rintro (h9 | h9 | h9) h8
      · omega
      · exact absurd h9 (by simp)
      · exact nI_ne0 h9 (by omega) h8.2
    · intro h9
      by_cases e : r.length = 0
      · refine Or.inr (Or.inr ?_)
        rcases Nat.eq_zero_or_pos rs.length with h8 | h8
        · exact absurd ⟨e, by rw [h8]; rfl⟩ h9
        · exact h8
      · exact Or.inl (by omega)
theorem SX_say (h : SX d m r sd o k) : SX (stT (stS d (some d.T)) 19) (mspk m r.length) [] (some r) o k := by
  obtain ⟨⟨a1, a2, a3, a4, a5⟩, b, c1, c2, c3, c4⟩ := h
  refine ⟨⟨rfl, by simp, fun x hx => absurd hx (by simp), rfl, fun j hj => absurd hj (by simp)⟩, ⟨d.T, rfl, a1, a2, a3, rfl, ?_⟩, c1, c2, c3, c4⟩
  refine TX.nar a5 a3 fun j hj => ?_
  show scp (m.A 49) (m.A 48) r.length j = _
  unfold scp
  rw [if_pos hj]
theorem SX_act5 (h : SX d m r sd o k) {rs : List Int32} (hc : (0 < r.length ∨ d.S = none ∨ 0 < rs.length) ↔ ¬ (r.length = 0 ∧ m.F 39 25 = 0)) : SR (if 0 < r.length ∨ d.S = none ∨ 0 < rs.length then stT (stS (kp d o k) (some d.T)) 19 else d) (if r.length = 0 ∧ m.F 39 25 = 0 then m else mspk (mkp m k) r.length) := by
  by_cases h9 : r.length = 0 ∧ m.F 39 25 = 0
  · rw [if_pos h9, if_neg (fun h8 => hc.mp h8 h9)]
    exact ⟨_, _, _, _, h⟩
  · rw [if_neg h9, if_pos (hc.mpr h9)]
    obtain ⟨o', k', -, h3⟩ := RG_keep h
    have h4 := SX_say h3
    rw [T_kp] at h4
    exact ⟨_, _, _, _, h4⟩
/-- letters put behind, one by one -/
def pu (g : Nat → Int32) : Nat → Nat → List Int32 → List Int32
  | 0, _, r => r
  | m + 1, i, r => pu g m (i + 1) (g i :: r)
theorem pu_len (g : Nat → Int32) : ∀ (m i : Nat) (r : List Int32), (pu g m i r).length = r.length + m
  | 0, _, _ => rfl
  | m + 1, i, r => by rw [pu, pu_len, List.length_cons]; omega
theorem pu_add (g : Nat → Int32) : ∀ (a b i : Nat) (r : List Int32), pu g (a + b) i r = pu g b (i + a) (pu g a i r)
  | 0, b, i, r => by rw [Nat.zero_add, Nat.add_zero]; rfl
  | a + 1, b, i, r => by rw [show a + 1 + b = a + b + 1 by omega, pu, pu, pu_add g a b, show i + 1 + a = i + (a + 1) by omega]
theorem pu_c {g g' : Nat → Int32} : ∀ (m i : Nat) (r : List Int32), (∀ j, i ≤ j → j < i + m → g j = g' j) → pu g m i r = pu g' m i r
  | 0, _, _, _ => rfl
  | m + 1, i, r, h => by rw [pu, pu, h i (Nat.le_refl i) (by omega), pu_c m (i + 1) _ (fun j h1 h2 => h j (by omega) (by omega))]
/-- what is written already, put again, is what it was -/
theorem pu_back (g : Nat → Int32) {r : List Int32} {q : Nat} (hq : q ≤ r.length) (hg : ∀ i, i < q → g i = r.getD (q - 1 - i) 0) : ∀ a, a ≤ q → pu g a 0 (r.drop q) = r.drop (q - a)
  | 0, _ => rfl
  | a + 1, h => by
    rw [pu_add g a 1, pu_back g hq hg a (by omega)]
    show g (0 + a) :: r.drop (q - a) = r.drop (q - (a + 1))
    rw [Nat.zero_add, hg a (by omega), show q - (a + 1) = q - 1 - a by omega, List.drop_eq_getElem_cons (show q - 1 - a < r.length by omega), show q - 1 - a + 1 = q - a by omega, List.getD_eq_getElem?_getD, List.getElem?_eq_getElem (show q - 1 - a < r.length by omega), Option.getD_some]
end Acts3
theorem pcw_ok (W b : Nat) : ∀ (m i : Nat) (z : Sg) (r : List Int32), ch z.D z.T r → r.length = b + i → ch (pcw m i b W z).D (pcw m i b W z).T (pu (fun j => z.A 25 (12 * W + j)) m i r) ∧ (∃ w, (pcw m i b W z).D = z.D ++ w) ∧ (pcw m i b W z).S = z.S ∧ (pcw m i b W z).P = z.P ∧ (pcw m i b W z).F = z.F ∧ (pcw m i b W z).A = z.A
  | 0, i, z, r, h, _ => ⟨h, ⟨[], (List.append_nil _).symm⟩, rfl, rfl, rfl, rfl⟩
  | m + 1, i, z, r, h, hl => by
    rw [pcw, pu]
    have h1 := ch_pch (z.A 25 (12 * W + i)) h
    rw [hl] at h1
    obtain ⟨a1, ⟨w, a2⟩, a3, a4, a5, a6⟩ := pcw_ok W b m (i + 1) (pch z (z.A 25 (12 * W + i)) (b + i + 1)) (z.A 25 (12 * W + i) :: r) h1 (by rw [List.length_cons]; omega)
    exact ⟨a1, ⟨_, by rw [a2]; exact List.append_assoc _ _ _⟩, a3, a4, a5, a6⟩
theorem mps_ok (W : Nat) : ∀ (m i : Nat) (z : Sg) (r : List Int32), z.F 39 24 = nI r.length → r.length + m ≤ 200 → TX (z.A 48) r → (∀ j, i ≤ j → j < i + m → okB (z.A 55 (12 * W + j))) → TX ((mps W m i z).A 48) (pu (fun j => z.A 55 (12 * W + j)) m i r) ∧ (mps W m i z).F 39 24 = nI (r.length + m) ∧ (∀ a, ¬ a = 48 → (mps W m i z).A a = z.A a) ∧ (∀ j, ¬ j = 24 → (mps W m i z).F 39 j = z.F 39 j)
  | 0, i, z, r, h, _, hx, _ => ⟨hx, h, fun _ _ => rfl, fun _ _ => rfl⟩
  | m + 1, i, z, r, h, hl, hx, hv => by
    rw [mps, pu]
    have hcl : (z.F 39 24).toNatClampNeg = r.length := by rw [h, nI_clamp (by omega)]
    have h9 := okB_nar (hv i (Nat.le_refl i) (by omega))
    obtain ⟨a1, a2, a3, a4⟩ := mps_ok W m (i + 1) (mpt z (z.A 55 (12 * W + i))) (z.A 55 (12 * W + i) :: r) (by show z.F 39 24 + 1 = _; rw [h, nI_1]; rfl) (by rw [List.length_cons]; omega) (by
      refine TX_cons hx ?_ (fun j hj => ?_)
      · show upd (z.A 48) (z.F 39 24).toNatClampNeg (vp_nar .byte (z.A 55 (12 * W + i)).toInt8.toInt32) r.length = _
        rw [hcl, pk_us, show (z.A 55 (12 * W + i)).toInt8.toInt32 = vp_nar .byte (z.A 55 (12 * W + i)) from rfl, h9, h9]
      · show upd (z.A 48) (z.F 39 24).toNatClampNeg _ j = _
        rw [hcl, pk_un (by omega)]) (fun j h1 h2 => hv j (by omega) (by omega))
    refine ⟨a1, ?_, fun a ha => ?_, fun j hj => ?_⟩
    · rw [a2, List.length_cons, show r.length + 1 + m = r.length + (m + 1) by omega]
    · rw [a3 a ha]
      show (stA z 48 _).A a = z.A a
      rw [A_stA, if_neg ha]
    · rw [a4 j hj]
      unfold mpt
      rw [F_oth _ _ _ _ hj]
      rfl
