/-! OFFERED: the lists of both sides -/
section Offer2
variable {d m : Sg} {r : List Int32} {N n : Nat} {row : Nat → List Nat}
/-- a word like what is written -/
theorem off_eq (hb : BR d m N) (hl : r.length ≤ 200) (hx : TX (m.A 48) r) {V : Nat} (hV : V < N) : eqW (zso1 d r) 29 12 (wr r) V ↔ m.A 56 V = nI (wr r) ∧ (oin m r.length (wr r) V n (wr r) 0 0 true).1 = 0 := by
  have hle := wr_le r
  obtain ⟨⟨L, l1, l2, l3, l4, l5⟩, -⟩ := hb.2.2.2 V hV
  have e25 : (zso1 d r).A 25 = d.A 25 := A_rwZ _ _ (by decide)
  have e26 : (zso1 d r).A 26 = d.A 26 := A_rwZ _ _ (by decide)
  unfold eqW
  rw [e25, e26, l3, l4, oin_0]
  constructor
  · rintro ⟨a, b, c⟩
    refine ⟨a, rfl, fun j h1 h2 => ?_⟩
    rw [nI_eq (by omega) (by omega)] at a
    rw [← (l5 j (by omega)).1, c j (by omega), tx_at hx (by omega)]
    exact rw_29 b _ (by omega)
  · rintro ⟨a, -, c⟩
    have a' := a
    rw [nI_eq (by omega) (by omega)] at a'
    refine ⟨a, by omega, fun j hj => ?_⟩
    rw [(l5 j (by omega)).1, c j (by omega) (by omega), tx_at hx hj]
    exact (rw_29 (by omega) _ hj).symm
abbrev offP (m : Sg) (r : List Int32) (N n : Nat) : Prop := wr r = 0 ∨ ∃ V, V < N ∧ m.A 56 V = nI (wr r) ∧ (oin m r.length (wr r) V n (wr r) 0 0 true).1 = 0
theorem off_there (hb : BR d m N) (hl : r.length ≤ 200) (hx : TX (m.A 48) r) : (wr r = 0 ∨ ¬ fnd (zso1 d r) 29 12 (wr r) N 0 = -1) ↔ offP m r N n := by
  have hN := hb.2.2.1
  unfold offP
  rcases fnd_cases (zso1 d r) 29 12 (wr r) N 0 with ⟨a1, a2⟩ | ⟨V, a1, a2, a3, a4, -⟩
  · constructor
    · rintro (h9 | h9)
      · exact Or.inl h9
      · exact absurd a1 h9
    · rintro (h9 | ⟨V, h1, h2⟩)
      · exact Or.inl h9
      · exact absurd ((off_eq hb hl hx h1).mpr h2) (a2 V (by omega) (by omega))
  · constructor
    · intro _
      exact Or.inr ⟨V, by omega, (off_eq hb hl hx (by omega)).mp a4⟩
    · intro _
      refine Or.inr ?_
      rw [a3]
      exact nI_m1 (by omega)
theorem off_list (ht : TR d m n row) (hb : BR d m N) (hl : r.length ≤ 200) (hx : TX (m.A 48) r) (hno : ¬ offP m r N n) : ∃ L, IV (fun V => omV m r.length (wr r) n V) (m.A 57) (zso d r N) L N := by
  have hN := hb.2.2.1
  have hle := wr_le r
  unfold zso
  rw [if_neg (fun h9 => hno ((off_there hb hl hx).mp h9))]
  refine sof_ok (z0 := zso1 d r) ?_ ?_ N 0 _ [] (by omega) (IV_nil (by unfold zso1; rw [F_rwZ, F_self]; rfl)) (bk_rwZ (z := stF d 28 6 0) hb.bk r) (fun _ _ _ => rfl)
  · intro V hV
    obtain ⟨⟨L, l1, l2, l3, l4, l5⟩, -⟩ := hb.2.2.2 V hV
    have e25 : (zso1 d r).A 25 = d.A 25 := A_rwZ _ _ (by decide)
    have e26 : (zso1 d r).A 26 = d.A 26 := A_rwZ _ _ (by decide)
    have e16 : (zso1 d r).A 16 = d.A 16 := A_rwZ _ _ (by decide)
    unfold ofC omV
    rw [e26, l3, l4]
    by_cases hq : nI L = nI (wr r)
    · rw [if_pos hq]
      have hq' := hq
      rw [nI_eq (by omega) (by omega)] at hq'
      have hs := slp_oin (d := zso1 d r) (m := m) (t := r.length) (q := wr r) (nn := n) (V := V) (fun i hi => by rw [e25]; exact (l5 i (by omega)).1) (fun i hi => by rw [tx_at hx hi]; exact rw_29 (by omega) _ hi) (fun i hi => by
        rw [nb_c e16]
        exact ht.near (l5 i (by omega)).2 (by rw [tx_at hx hi]; exact wr_L r _ (by omega))) (wr r) 0 0 (by omega) (by omega)
      rw [hs]
      have hle2 := oin_le m r.length (wr r) V n (wr r) 0 0 true
      by_cases h9 : (oin m r.length (wr r) V n (wr r) 0 0 true).2 = true ∧ (oin m r.length (wr r) V n (wr r) 0 0 true).1 ≤ 2
      · rw [if_pos h9]
        refine ⟨fun _ => ⟨rfl, by rw [nI_toInt (by omega)]; omega⟩, fun h8 => absurd ⟨hq, nI_m1 (by omega)⟩ h8⟩
      · rw [if_neg h9]
        exact ⟨fun h8 => absurd rfl h8.2, fun _ => rfl⟩
    · rw [if_neg hq]
      exact ⟨fun h8 => absurd h8.1 hq, fun _ => rfl⟩
  · intro x hx'
    have e27 : (zso1 d r).A 27 = d.A 27 := A_rwZ _ _ (by decide)
    rw [e27]
    exact (hb.2.2.2 x hx').2
theorem off_none (hb : BR d m N) (hl : r.length ≤ 200) (hx : TX (m.A 48) r) (h : offP m r N n) : (zso d r N).F 28 6 = 0 := by
  unfold zso
  rw [if_pos ((off_there hb hl hx).mpr h)]
  unfold zso1
  rw [F_rwZ, F_self]
theorem off_rank {z : Sg} (ht : TR d m n row) (hb : BR d m N) (hl : r.length ≤ 200) (hx : TX (m.A 48) r) (hz : sm58 m z) (k : Int32) : ofR r.length N n z k = fat (zso d r N) k := by
  have e48 : mwr (z.A 48) r.length r.length 0 = wr r := by rw [hz 48 (by decide), mwr_eq hx]
  obtain ⟨a1, a2, a3⟩ := omk_58 (m := m) r.length (wr r) n N 0 (decide (wr r = 0)) z hz
  have hp : (zom r.length N n z).1 = true ↔ offP m r N n := by
    unfold zom offP
    rw [e48, a2, decide_eq_true_iff]
    constructor
    · rintro (h9 | ⟨V, -, h2, h3⟩)
      · exact Or.inl h9
      · exact Or.inr ⟨V, by omega, h3⟩
    · rintro (h9 | ⟨V, h2, h3⟩)
      · exact Or.inl h9
      · exact Or.inr ⟨V, by omega, by omega, h3⟩
  unfold ofR
  by_cases h9 : offP m r N n
  · rw [if_pos (hp.mpr h9)]
    unfold fat
    rw [off_none hb hl hx h9, if_neg]
    rintro ⟨h1, h2⟩
    simp only [Int32.reduceToInt] at h2
    omega
  · rw [if_neg (fun h8 => h9 (hp.mp h8))]
    obtain ⟨L, hL⟩ := off_list ht hb hl hx h9
    refine rank_eq hb.2.2.1 hL (fun V hV => ?_) (fun V hV => ?_) k
    · unfold zom
      rw [e48, a1, if_pos (by omega)]
    · unfold zom
      rw [e48, a3 57 (by decide)]
theorem sm_zom {z : Sg} (hz : sm58 m z) (t N n : Nat) : sm58 m (zom t N n z).2 := (omk_58 (m := m) t _ n N 0 _ z hz).2.2
theorem off_count (ht : TR d m n row) (hb : BR d m N) (hl : r.length ≤ 200) (hx : TX (m.A 48) r) : ∀ (k i : Nat) (z : Sg), i + k = N → nI i ≤ (zso d r N).F 28 6 → sm58 m z → nI (coz r.length N n k i z).1 = (zso d r N).F 28 6 := by
  have hN := hb.2.2.1
  by_cases h9 : offP m r N n
  · have h0 := off_none hb hl hx h9
    intro k i z hi hle hz
    have hi0 : i = 0 := by
      rw [h0, show (0 : Int32) = nI 0 from rfl, nI_leI (by omega) (by omega)] at hle
      omega
    subst hi0
    cases k with
    | zero => rw [coz, h0]; rfl
    | succ k =>
      rw [coz, off_rank ht hb hl hx hz, if_pos]
      · rw [h0]; rfl
      · unfold fat
        rw [h0, if_neg]
        rintro ⟨h1, h2⟩
        simp only [Int32.reduceToInt] at h2
        rw [nI_toInt (by omega)] at h2
        omega
  · obtain ⟨L, hL⟩ := off_list ht hb hl hx h9
    have h5 := hL.2.2.2.2
    intro k
    induction k with
    | zero =>
      intro i z hi hle hz
      rw [hL.1.1, nI_leI (by omega) (by omega)] at hle
      rw [hL.1.1, coz, show i = L.length by omega]
    | succ k ih =>
      intro i z hi hle hz
      rw [coz, off_rank ht hb hl hx hz]
      by_cases e : fat (zso d r N) (nI i) = -1
      · rw [if_pos e]
        have h8 := (fat_len hN hL (by omega)).mp e
        rw [hL.1.1, nI_leI (by omega) (by omega)] at hle
        rw [hL.1.1, show i = L.length by omega]
      · rw [if_neg e]
        have h8 : ¬ L.length ≤ i := fun h7 => e ((fat_len hN hL (by omega)).mpr h7)
        exact ih (i + 1) _ (by omega) (by rw [hL.1.1]; exact nI_le (by omega) (by omega)) (sm_zom hz _ _ _)
end Offer2
