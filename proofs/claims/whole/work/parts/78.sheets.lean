/-! THE SHEETS, both sides -/
abbrev okB (x : Int32) : Prop := isL x ∨ x = 32
theorem okB_nar {x : Int32} (h : okB x) : vp_nar .byte x = x := by
  rcases h with h | h
  · exact byL h
  · rw [h]; rfl
/-- a row of bytes, its last one first, and the model's array -/
def TX (f : Nat → Int32) (r : List Int32) : Prop := ∀ j, j < r.length → f j = r.getD (r.length - 1 - j) 0
theorem getD_mem {r : List Int32} {i : Nat} (h : i < r.length) : r.getD i 0 ∈ r := by
  rw [List.getD_eq_getElem?_getD, List.getElem?_eq_getElem h, Option.getD_some]
  exact List.getElem_mem h
theorem TX.ok {f : Nat → Int32} {r : List Int32} (h : TX f r) (hr : ∀ x ∈ r, okB x) {j : Nat} (hj : j < r.length) : okB (f j) := by
  rw [h j hj]
  exact hr _ (getD_mem (by omega))
theorem TX.nar {f g : Nat → Int32} {r : List Int32} (h : TX f r) (hr : ∀ x ∈ r, okB x) (hg : ∀ j, j < r.length → g j = vp_nar .byte (f j)) : TX g r := by
  intro j hj
  rw [hg j hj, okB_nar (h.ok hr hj)]
  exact h j hj
theorem TX.same {f g : Nat → Int32} {r : List Int32} (h : TX f r) (hg : ∀ j, j < r.length → g j = f j) : TX g r := by
  intro j hj
  rw [hg j hj]
  exact h j hj
def TXT (D : HP) (T : Nat) (len : Int32) (f : Nat → Int32) (r : List Int32) : Prop := ch D T r ∧ r.length ≤ 200 ∧ (∀ x ∈ r, okB x) ∧ len = nI r.length ∧ TX f r
def SDO (D : HP) (S : Option Nat) (len : Int32) (f : Nat → Int32) : Option (List Int32) → Prop
  | none => S = none ∧ len = -1
  | some rs => ∃ s, S = some s ∧ TXT D s len f rs
theorem TXT.mono {D : HP} {T : Nat} {len : Int32} {f : Nat → Int32} {r : List Int32} (h : TXT D T len f r) (w : HP) : TXT (D ++ w) T len f r := ⟨ch_mono w h.1, h.2⟩
theorem SDO.mono {D : HP} {S : Option Nat} {len : Int32} {f : Nat → Int32} : ∀ {sd : Option (List Int32)}, SDO D S len f sd → ∀ w, SDO (D ++ w) S len f sd
  | none, h, _ => h
  | some rs, ⟨s, h1, h2⟩, w => ⟨s, h1, h2.mono w⟩
theorem TXT.nar {D : HP} {T : Nat} {len : Int32} {f g : Nat → Int32} {r : List Int32} (h : TXT D T len f r) (hg : ∀ j, j < 200 → g j = vp_nar .byte (f j)) : TXT D T len g r := ⟨h.1, h.2.1, h.2.2.1, h.2.2.2.1, h.2.2.2.2.nar h.2.2.1 (fun j hj => hg j (by have := h.2.1; omega))⟩
theorem SDO.nar {D : HP} {S : Option Nat} {len : Int32} {f g : Nat → Int32} : ∀ {sd : Option (List Int32)}, SDO D S len f sd → (∀ j, j < 200 → g j = vp_nar .byte (f j)) → SDO D S len g sd
  | none, h, _ => h
  | some rs, ⟨s, h1, h2⟩, hg => ⟨s, h1, h2.nar hg⟩
theorem TXT.same {D : HP} {T : Nat} {len : Int32} {f g : Nat → Int32} {r : List Int32} (h : TXT D T len f r) (hg : ∀ j, j < 200 → g j = f j) : TXT D T len g r := ⟨h.1, h.2.1, h.2.2.1, h.2.2.2.1, h.2.2.2.2.same (fun j hj => hg j (by have := h.2.1; omega))⟩
theorem SDO.same {D : HP} {S : Option Nat} {len : Int32} {f g : Nat → Int32} : ∀ {sd : Option (List Int32)}, SDO D S len f sd → (∀ j, j < 200 → g j = f j) → SDO D S len g sd
  | none, h, _ => h
  | some rs, ⟨s, h1, h2⟩, hg => ⟨s, h1, h2.same hg⟩
/-- one kept act -/
def KP (D : HP) (p20 p21 : Option Nat) (l52 l53 : Int32) (f50 f51 : Nat → Int32) : Prop := (∃ r t, p20 = some t ∧ TXT D t l52 f50 r) ∧ ∃ sd, SDO D p21 l53 f51 sd
def RG (D : HP) (P20 P21 : Nat → Option Nat) (A50 A51 A52 A53 : Nat → Int32) (o k : Nat) : Prop := o < 100 ∧ k ≤ 100 ∧ ∀ i, i < k → KP D (P20 ((o + i) % 100)) (P21 ((o + i) % 100)) (A52 i) (A53 i) (fun j => A50 (200 * i + j)) (fun j => A51 (200 * i + j))
theorem RG.mono {D : HP} {P20 P21 : Nat → Option Nat} {A50 A51 A52 A53 : Nat → Int32} {o k : Nat} (h : RG D P20 P21 A50 A51 A52 A53 o k) (w : HP) : RG (D ++ w) P20 P21 A50 A51 A52 A53 o k := by
  refine ⟨h.1, h.2.1, fun i hi => ?_⟩
  obtain ⟨⟨r, t, h1, h2⟩, sd, h3⟩ := h.2.2 i hi
  exact ⟨⟨r, t, h1, h2.mono w⟩, sd, h3.mono w⟩
def SX (d m : Sg) (r : List Int32) (sd : Option (List Int32)) (o k : Nat) : Prop := TXT d.D d.T (m.F 39 24) (m.A 48) r ∧ SDO d.D d.S (m.F 39 25) (m.A 49) sd ∧ d.F 18 3 = nI o ∧ d.F 18 4 = nI k ∧ m.F 39 26 = nI k ∧ RG d.D (d.P 20) (d.P 21) (m.A 50) (m.A 51) (m.A 52) (m.A 53) o k
def SR (d m : Sg) : Prop := ∃ r sd o k, SX d m r sd o k
theorem SX.c {d m d' m' : Sg} {r : List Int32} {sd : Option (List Int32)} {o k : Nat} (h : SX d m r sd o k) (hT : d'.T = d.T) (hS : d'.S = d.S) (hP : d'.P = d.P) (hD : ∃ w, d'.D = d.D ++ w) (hF : d'.F 18 = d.F 18) (h1 : m'.F 39 24 = m.F 39 24) (h2 : m'.F 39 25 = m.F 39 25) (h3 : m'.F 39 26 = m.F 39 26) (hA : ∀ a, 48 ≤ a → a ≤ 53 → m'.A a = m.A a) : SX d' m' r sd o k := by
  obtain ⟨w, hD⟩ := hD
  obtain ⟨a1, a2, a3, a4, a5, a6⟩ := h
  unfold SX
  rw [hT, hS, hP, hD, hF, h1, h2, h3, hA 48 (by decide) (by decide), hA 49 (by decide) (by decide), hA 50 (by decide) (by decide), hA 51 (by decide) (by decide), hA 52 (by decide) (by decide), hA 53 (by decide) (by decide)]
  exact ⟨a1.mono w, a2.mono w, a3, a4, a5, a6.mono w⟩
section Sheets
variable {d m : Sg} {r : List Int32} {sd : Option (List Int32)} {o k : Nat}
theorem SX.ring (h : SX d m r sd o k) : ring d o k := ⟨h.2.2.1, h.2.2.2.2.2.1, h.2.2.2.1, h.2.2.2.2.2.2.1⟩
theorem SX.said (h : SX d m r sd o k) : ∀ s, d.S = some s → ∃ rs, ch d.D s rs := by
  intro s hs
  have h2 := h.2.1
  cases sd with
  | none => rw [h2.1] at hs; exact absurd hs (by simp)
  | some rs =>
    obtain ⟨s', h3, h4⟩ := h2
    rw [h3] at hs
    exact ⟨rs, Option.some.inj hs ▸ h4.1⟩
theorem SX.tx (h : SX d m r sd o k) : txOK m r.length := ⟨h.1.2.2.2.1, h.1.2.1⟩
theorem up_s {f : Nat → Option Nat} {k : Nat} {v : Option Nat} : va_up f k v k = v := if_pos rfl
theorem up_n {f : Nat → Option Nat} {k j : Nat} {v : Option Nat} (h : ¬ j = k) : va_up f k v j = f j := if_neg h
theorem P_kp {d : Sg} {o k : Nat} : (kp d o k).P 20 = va_up (d.P 20) ((o + k) % 100) (some d.T) ∧ (kp d o k).P 21 = va_up (d.P 21) ((o + k) % 100) d.S := by
  unfold kp kp1
  split <;> exact ⟨rfl, rfl⟩
/-- the ring and the shifted rows, one act more -/
theorem RG_keep (h : SX d m r sd o k) : ∃ o' k', 0 < k' ∧ SX (kp d o k) (mkp m k) r sd o' k' := by
  obtain ⟨a1, a2, a3, a4, a5, a6, a7, a8⟩ := h
  have hT := T_kp d o k
  have hS := S_kp d o k
  have hD := D_kp d o k
  obtain ⟨hP1, hP2⟩ := P_kp (d := d) (o := o) (k := k)
  have e48 : (mkp m k).A 48 = m.A 48 := A_mkp (by decide) (by decide) (by decide) (by decide)
  have e49 : (mkp m k).A 49 = m.A 49 := A_mkp (by decide) (by decide) (by decide) (by decide)
  have f1 : (mkp m k).F 39 24 = m.F 39 24 := F_mkp (by decide)
  have f2 : (mkp m k).F 39 25 = m.F 39 25 := F_mkp (by decide)
  have key : ∀ o' k', (kp d o k).F 18 3 = nI o' → (kp d o k).F 18 4 = nI k' → (mkp m k).F 39 26 = nI k' → RG d.D ((kp d o k).P 20) ((kp d o k).P 21) ((mkp m k).A 50) ((mkp m k).A 51) ((mkp m k).A 52) ((mkp m k).A 53) o' k' → SX (kp d o k) (mkp m k) r sd o' k' := by
    intro o' k' g1 g2 g3 g4
    unfold SX
    rw [hT, hS, hD, e48, e49, f1, f2]
    exact ⟨a1, a2, g1, g2, g3, g4⟩
  by_cases hk : k = 100
  · subst hk
    have e50 : (mkp m 100).A 50 = blk (shT (m.A 50) 20000) (m.A 48) 99 200 := rfl
    have e51 : (mkp m 100).A 51 = blk (shT (m.A 51) 20000) (m.A 49) 99 200 := rfl
    have e52 : (mkp m 100).A 52 = upd (shL (m.A 52) 100) 99 (m.F 39 24) := rfl
    have e53 : (mkp m 100).A 53 = upd (shL (m.A 53) 100) 99 (m.F 39 25) := rfl
    refine ⟨(o + 1) % 100, 100, by omega, key _ _ ?_ ?_ ?_ ⟨Nat.mod_lt _ (by decide), Nat.le_refl _, fun i hi => ?_⟩⟩
    · unfold kp
      rw [if_neg (by decide), F_self]
    · unfold kp
      rw [if_neg (by decide), F_oth _ _ _ _ (by decide)]
      exact a4
    · rfl
    · rw [hP1, hP2, e50, e51, e52, e53]
      by_cases h9 : i = 99
      · subst h9
        have hslot : ((o + 1) % 100 + 99) % 100 = (o + 100) % 100 := by omega
        rw [hslot, up_s, up_s, pk_us, pk_us]
        refine ⟨⟨r, d.T, rfl, a1.nar fun j hj => ?_⟩, sd, a2.nar fun j hj => ?_⟩
        · show blk _ _ 99 200 (200 * 99 + j) = _
          unfold blk
          rw [if_pos (by omega), show 200 * 99 + j - 200 * 99 = j by omega]
        · show blk _ _ 99 200 (200 * 99 + j) = _
          unfold blk
          rw [if_pos (by omega), show 200 * 99 + j - 200 * 99 = j by omega]
      · have hslot : ((o + 1) % 100 + i) % 100 = (o + (i + 1)) % 100 := by omega
        have hne : ¬ (o + (i + 1)) % 100 = (o + 100) % 100 := by omega
        rw [hslot, up_n hne, up_n hne, pk_un h9, pk_un h9]
        obtain ⟨⟨r', t, b1, b2⟩, sd', b3⟩ := a8 (i + 1) (by omega)
        have l52 : shL (m.A 52) 100 i = m.A 52 (i + 1) := by unfold shL; rw [if_pos (by omega)]
        have l53 : shL (m.A 53) 100 i = m.A 53 (i + 1) := by unfold shL; rw [if_pos (by omega)]
        rw [l52, l53]
        refine ⟨⟨r', t, b1, b2.nar fun j hj => ?_⟩, sd', b3.nar fun j hj => ?_⟩
        · show blk _ _ 99 200 (200 * i + j) = _
          unfold blk shT
          rw [if_neg (by omega), if_pos (by omega), show 200 * i + j + 200 = 200 * (i + 1) + j by omega]
        · show blk _ _ 99 200 (200 * i + j) = _
          unfold blk shT
          rw [if_neg (by omega), if_pos (by omega), show 200 * i + j + 200 = 200 * (i + 1) + j by omega]
  · have e50 : (mkp m k).A 50 = blk (m.A 50) (m.A 48) k 200 := by unfold mkp; rw [if_neg hk]; rfl
    have e51 : (mkp m k).A 51 = blk (m.A 51) (m.A 49) k 200 := by unfold mkp; rw [if_neg hk]; rfl
    have e52 : (mkp m k).A 52 = upd (m.A 52) k (m.F 39 24) := by unfold mkp; rw [if_neg hk]; rfl
    have e53 : (mkp m k).A 53 = upd (m.A 53) k (m.F 39 25) := by unfold mkp; rw [if_neg hk]; rfl
    refine ⟨o, k + 1, by omega, key _ _ ?_ ?_ ?_ ⟨a6, by omega, fun i hi => ?_⟩⟩
    · unfold kp
      rw [if_pos (by omega), F_oth _ _ _ _ (by decide)]
      exact a3
    · unfold kp
      rw [if_pos (by omega), F_self]
    · unfold mkp
      rw [if_neg hk]
      rfl
    · rw [hP1, hP2, e50, e51, e52, e53]
      by_cases h9 : i = k
      · subst h9
        rw [up_s, up_s, pk_us, pk_us]
        refine ⟨⟨r, d.T, rfl, a1.nar fun j hj => ?_⟩, sd, a2.nar fun j hj => ?_⟩
        · show blk _ _ i 200 (200 * i + j) = _
          unfold blk
          rw [if_pos (by omega), show 200 * i + j - 200 * i = j by omega]
        · show blk _ _ i 200 (200 * i + j) = _
          unfold blk
          rw [if_pos (by omega), show 200 * i + j - 200 * i = j by omega]
      · have hne : ¬ (o + i) % 100 = (o + k) % 100 := by omega
        rw [up_n hne, up_n hne, pk_un h9, pk_un h9]
        obtain ⟨⟨r', t, b1, b2⟩, sd', b3⟩ := a8 i (by omega)
        refine ⟨⟨r', t, b1, b2.same fun j hj => ?_⟩, sd', b3.same fun j hj => ?_⟩
        · show blk _ _ k 200 (200 * i + j) = _
          unfold blk
          rw [if_neg (by omega)]
        · show blk _ _ k 200 (200 * i + j) = _
          unfold blk
          rw [if_neg (by omega)]
/-- taken back, on both sides -/
theorem RG_undo (h : SX d m r sd o k) (hk : 0 < k) : SR (tb d o k) (mun m k) := by
  obtain ⟨a1, a2, a3, a4, a5, a6, a7, a8⟩ := h
  obtain ⟨⟨r', t, b1, b2⟩, sd', b3⟩ := a8 (k - 1) (by omega)
  refine ⟨r', sd', o, k - 1, ?_, ?_, ?_, ?_, ?_, a6, by omega, fun i hi => a8 i (by omega)⟩
  · have hT : (tb d o k).T = t := by
      show tbT d ((o + (k - 1)) % 100) = t
      unfold tbT
      rw [b1]
    rw [hT]
    refine TXT.nar b2 fun j hj => ?_
    show cpy (m.A 48) (m.A 50) (k - 1) 200 j = _
    unfold cpy
    rw [if_pos hj]
  · refine SDO.nar b3 fun j hj => ?_
    show cpy (m.A 49) (m.A 51) (k - 1) 200 j = _
    unfold cpy
    rw [if_pos hj]
  · exact a3
  · rfl
  · rfl
end Sheets
