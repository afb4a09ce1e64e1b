/-! TICKS, both sides -/
theorem A_zct (z : Sg) (g : Int32) : (zct z g).A = z.A := rfl
theorem A_chg (z : Sg) : (chg z).A = z.A := by
  unfold chg
  split
  · split <;> rfl
  · rfl
theorem A_psb (g : Int32) (z : Sg) : (psb g z).A = z.A := by
  unfold psb
  split
  · rfl
  · rw [A_chg]; rfl
theorem A_ps : ∀ (m : Nat) (g : Int32) (z : Sg), (ps m g z).A = z.A
  | 0, _, _ => rfl
  | m + 1, g, z => by
    rw [ps]
    split
    · rfl
    · rw [A_ps, A_psb]
theorem Fi_zct (z : Sg) (g : Int32) {i : Nat} (h : ¬ i = 17) : (zct z g).F i = z.F i := by
  unfold zct
  rw [Fi_stF _ _ _ _ h, Fi_stF _ _ _ _ h, Fi_stF _ _ _ _ h, Fi_stF _ _ _ _ h, Fi_stF _ _ _ _ h]
theorem Fi_fin (z : Sg) (x : Int32) {i : Nat} (h : ¬ i = 17) : (fin z x).F i = z.F i := by
  unfold fin
  rw [Fi_stF _ _ _ _ h, Fi_stF _ _ _ _ h, Fi_stF _ _ _ _ h]
theorem Fi_chg (z : Sg) {i : Nat} (h : ¬ i = 17) : (chg z).F i = z.F i := by
  unfold chg
  split
  · split
    · rw [Fi_zct _ _ h, Fi_stF _ _ _ _ h]
    · rw [Fi_fin _ _ h, Fi_stF _ _ _ _ h]
  · rw [Fi_fin _ _ h]
theorem Fi_psb (g : Int32) (z : Sg) {i : Nat} (h : ¬ i = 17) : (psb g z).F i = z.F i := by
  unfold psb
  split
  · rw [Fi_stF _ _ _ _ h]
  · rw [Fi_chg _ h, Fi_stF _ _ _ _ h]
theorem Fi_ps {i : Nat} (h : ¬ i = 17) : ∀ (m : Nat) (g : Int32) (z : Sg), (ps m g z).F i = z.F i
  | 0, _, _ => rfl
  | m + 1, g, z => by
    rw [ps]
    split
    · rfl
    · rw [Fi_ps h, Fi_psb _ _ h]
/-- text, said, rows of chains, what was made later -/
theorem K_chg (z : Sg) : (chg z).2.2 = z.2.2 := by
  unfold chg
  split
  · split <;> rfl
  · rfl
theorem K_ps : ∀ (m : Nat) (g : Int32) (z : Sg), (ps m g z).2.2 = z.2.2
  | 0, _, _ => rfl
  | m + 1, g, z => by
    rw [ps]
    split
    · rfl
    · rw [K_ps]
      unfold psb
      split
      · rfl
      · rw [K_chg]; rfl
theorem A_tk (z : Sg) : (tk z).A = z.A := by
  unfold tk
  split
  · rfl
  · split
    · rfl
    · split <;> rfl
theorem A_tks : ∀ (m : Nat) (z : Sg), (tks m z).A = z.A
  | 0, _ => rfl
  | m + 1, z => by rw [tks, A_tks, A_tk]
/-- the lamp's fields -/
abbrev lampF (j : Nat) : Prop := 10 ≤ j ∧ j ≤ 17
theorem Fo_zcm (z : Sg) (g : Int32) {j : Nat} (h : ¬ lampF j) : (zcm z g).F 39 j = z.F 39 j := by
  unfold zcm
  rw [F_oth _ _ _ _ (by omega), F_oth _ _ _ _ (by omega), F_oth _ _ _ _ (by omega), F_oth _ _ _ _ (by omega), F_oth _ _ _ _ (by omega)]
theorem Fo_tk (z : Sg) {j : Nat} (h : ¬ lampF j) : (tk z).F 39 j = z.F 39 j := by
  have h1 : (tk1 z).F 39 j = z.F 39 j := by
    unfold tk1
    rw [F_oth _ _ _ _ (by omega), F_oth _ _ _ _ (by omega), F_oth _ _ _ _ (by omega), F_oth _ _ _ _ (by omega)]
  have h2 : (tk2 z).F 39 j = z.F 39 j := by
    unfold tk2
    rw [F_oth _ _ _ _ (by omega), F_oth _ _ _ _ (by omega), h1]
  unfold tk
  split
  · rw [F_oth _ _ _ _ (by omega)]
  · split
    · exact h1
    · split
      · rw [Fo_zcm _ _ h, h2]
      · exact h2
theorem Fo_tks {j : Nat} (h : ¬ lampF j) : ∀ (m : Nat) (z : Sg), (tks m z).F 39 j = z.F 39 j
  | 0, _ => rfl
  | m + 1, z => by rw [tks, Fo_tks h, Fo_tk _ h]
theorem NR.c {d m d' m' : Sg} (h : NR d m) (hd : d'.A 5 = d.A 5) (hm : m'.A 43 = m.A 43) : NR d' m' := by
  unfold NR
  rw [hd, hm]
  exact h
section Ticks
variable {n c : Nat} {row : Nat → List Nat}
theorem LW_ps {G : Nat} (hG : G ≤ 1000000) : ∀ (M : Nat) (d m : Sg) (g k T C p : Nat), TR d m n row → NR d m → LW n c row g k T T C p (d.F 17) (m.F 39) → T ≤ G → G - T ≤ M → ∃ g' k' C', LW n c row g' k' G G C' p ((ps M (nI G) d).F 17) ((tks (G - T) m).F 39) := by
  intro M
  induction M with
  | zero =>
    intro d m g k T C p ht hs hw h1 h2
    rw [show G - T = 0 by omega]
    rw [show T = G by omega] at hw
    exact ⟨g, k, C, hw⟩
  | succ M ih =>
    intro d m g k T C p ht hs hw h1 h2
    have hk60 := hw.k60 ht
    have hw' := hw
    obtain ⟨a1, a2, a3, a4, a5, a6, a7, a8, a9, b1, b2, b3, b4, b5, b6, b7, b8, b9, c1⟩ := hw
    obtain ⟨s, s1, s2, s3⟩ := hs.2.1
    have hsd : d.A 5 0 = nI s := by rw [hs.1 0 (by decide), s3]
    rw [ps]
    by_cases hle : G ≤ T
    · rw [a9, if_pos (nI_le hle (by omega)), show G - T = 0 by omega]
      rw [show T = G by omega] at hw'
      exact ⟨g, k, C, hw'⟩
    · rw [a9, if_neg (nI_ge (by omega) (by omega))]
      have hdue : due d = nI (if T + 1 < C + s then C + s else T + 1) := by
        unfold due
        rw [a9, b2, hsd, nI_1, nI_add]
        by_cases h9 : T + 1 < C + s
        · rw [if_pos (nI_lt h9 (by omega)), if_pos h9]
        · rw [if_neg (nI_nlt (by omega) (by omega)), if_neg h9]
      have hD : (if T + 1 < C + s then C + s else T + 1) ≤ 1000100 := by split <;> omega
      have hD1 : T + 1 ≤ (if T + 1 < C + s then C + s else T + 1) := by split <;> omega
      have hD2 : C + s ≤ (if T + 1 < C + s then C + s else T + 1) := by split <;> omega
      have hD3 : ∀ j, T < j → j < (if T + 1 < C + s then C + s else T + 1) → j < C + s := by
        intro j h8 h9
        split at h9 <;> omega
      generalize (if T + 1 < C + s then C + s else T + 1) = D at hdue hD hD1 hD2 hD3
      have hlm : d.F 17 4 = -1 ↔ row g = [] := by
        rw [a7, nx_m1 (ht.small a1)]
        constructor
        · intro h9
          rcases a2 with h8 | h8
          · omega
          · exact h8.2
        · intro h9
          rw [h9]
          exact Nat.zero_le _
      by_cases hid : row g = [] ∨ G < D
      · have hi : idle (nI G) d := by
          rcases hid with h9 | h9
          · exact Or.inl (hlm.mpr h9)
          · exact Or.inr (by rw [hdue]; exact nI_lt h9 (by omega))
        have hrun := idle_run (Td := T) (p := p) (k := k) ht hs (G - T) T m (fun _ => rfl) a6 a1 b1 b3 a3 s3 (by omega) s2 (by
          rcases hid with h9 | h9
          · exact Or.inl h9
          · exact Or.inr (by have := hD3 G (by omega) h9; omega))
        rw [psb, if_pos hi, hrun, Nat.add_sub_of_le h1]
        have hps : ps M (nI G) (stF d 17 2 (nI G)) = stF d 17 2 (nI G) := by
          cases M with
          | zero => rfl
          | succ M => rw [ps, if_pos (by rw [F_self]; exact nI_le (Nat.le_refl G) (by omega))]
        rw [hps]
        refine ⟨g, k, C, a1, a2, by omega, a4, a5, a6, a7, a8, ?_, ?_, b2, b3, b4, b5, b6, b7, b8, b9, c1⟩
        · rfl
        · rfl
      · have hGD : D ≤ G := by
          rcases Nat.lt_or_ge G D with h9 | h9
          · exact absurd (Or.inr h9) hid
          · exact h9
        have hre : ¬ row g = [] := fun h9 => hid (Or.inl h9)
        have hi : ¬ idle (nI G) d := fun h9 => by
          rcases h9 with h9 | h9
          · exact hre (hlm.mp h9)
          · rw [hdue] at h9
            exact nI_nlt hGD (by omega) h9
        have hrun : tks (D - 1 - T) m = stF m 39 10 (nI (D - 1)) := by
          by_cases h9 : T < D - 1
          · have h8 := idle_run (Td := T) (p := p) (k := k) ht hs (D - 1 - T) T m (fun _ => rfl) a6 a1 b1 b3 a3 s3 (by omega) s2 (Or.inr (by have := hD3 (D - 1) h9 (by omega); omega))
            rw [h8, Nat.add_sub_of_le (Nat.le_of_lt h9)]
          · have h8 : D - 1 = T := by omega
            rw [h8, Nat.sub_self, tks, ← b1, stF_self]
        rw [psb, if_neg hi, hdue]
        have hsplit : G - T = (D - 1 - T) + (1 + (G - D)) := by clear c1 b9; omega
        rw [hsplit, tks_add, hrun, tks_add]
        have ht2 : TR (stF d 17 2 (nI D)) (stF m 39 10 (nI (D - 1))) n row := ht.c rfl rfl (fun _ _ _ _ => rfl) (fun _ _ _ => rfl)
        have hs2 : NR (stF d 17 2 (nI D)) (stF m 39 10 (nI (D - 1))) := hs.c rfl rfl
        have hw2 : LW n c row g k D (D - 1) C p ((stF d 17 2 (nI D)).F 17) ((stF m 39 10 (nI (D - 1))).F 39) := ⟨a1, a2, by omega, a4, a5, a6, a7, a8, rfl, rfl, b2, b3, b4, b5, b6, b7, b8, b9, c1⟩
        obtain ⟨g', k', hw3⟩ := LW_chg ht2 hs2 (by omega) hw2 (by omega) hre s3 s2 hD2
        have ht3 : TR (chg (stF d 17 2 (nI D))) (tk (stF m 39 10 (nI (D - 1)))) n row := ht2.c (by rw [F6_chg]) (Fo_tk _ (by decide)) (fun a _ _ _ => by rw [A_chg]) (fun a _ _ => by rw [A_tk])
        have hs3 : NR (chg (stF d 17 2 (nI D))) (tk (stF m 39 10 (nI (D - 1)))) := hs2.c (by rw [A_chg]) (by rw [A_tk])
        exact ih _ _ g' k' D D p ht3 hs3 hw3 hGD (by omega)
theorem LV.ml {d m : Sg} (ht : TR d m n row) (h : LV n c row (d.F 17) (m.F 39)) : mlOK m := by
  obtain ⟨g, k, T, C, p, -, hw⟩ := h
  have hk := hw.k60 ht
  have hn := ht.n60
  exact ⟨⟨g, by have := hw.1; omega, hw.2.2.2.2.2.1⟩, ⟨k, hk, hw.2.2.2.2.2.2.2.1⟩, ht.2.1.2⟩
theorem LV.lit {d m : Sg} (ht : TR d m n row) (h : LV n c row (d.F 17) (m.F 39)) : d.F 17 4 = litM m := by
  obtain ⟨g, k, T, C, p, -, hw⟩ := h
  rw [ht.litR hw.1 (hw.k60 ht) hw.2.2.2.2.2.1 hw.2.2.2.2.2.2.2.1]
  exact hw.2.2.2.2.2.2.1
end Ticks
