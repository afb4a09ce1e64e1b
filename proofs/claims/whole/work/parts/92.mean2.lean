/-! mean: both sides -/
theorem A_fls {a : Nat} (h : ¬ a = 34) : ∀ (m i : Nat) (z : Sg), (fls m i z).A a = z.A a
  | 0, _, _ => rfl
  | m + 1, i, z => by
    rw [fls]
    split
    · rw [A_fls h, A_stA, if_neg h]
    · rw [A_fls h]
theorem F_fls : ∀ (m i : Nat) (z : Sg), (fls m i z).F = z.F
  | 0, _, _ => rfl
  | m + 1, i, z => by
    rw [fls]
    split
    · rw [F_fls]; rfl
    · rw [F_fls]
theorem K_fls : ∀ (m i : Nat) (z : Sg), (fls m i z).2.2 = z.2.2
  | 0, _, _ => rfl
  | m + 1, i, z => by
    rw [fls]
    split
    · rw [K_fls]; rfl
    · rw [K_fls]
theorem l97 (l : Nat) : (97 : Int32) + nI l = nI (97 + l) := nI_add 97 l
theorem fls_mls {m : Sg} {n : Nat} {row : Nat → List Nat} {l : Nat} (hl : l < 26) : ∀ (k i : Nat) (d : Sg), i + k = n → 1 ≤ i → TR d m n row → NR d m → (fls k i d).A 34 l = mls m l k i (d.A 34 l)
  | 0, _, _, _, _, _, _ => rfl
  | k + 1, i, d, hi, h1, ht, hs => by
    have hn := ht.n60
    obtain ⟨t1, t2, -⟩ := ht.1.2.2.2.2.1 i (by omega)
    rw [fls, mls]
    by_cases hk : m.A 40 i = 1
    · have hcs : cstD d (nI i) = mct m 60 0 i := by
        unfold cstD
        rw [tg_at ht.1.1 hn (by omega), if_neg, cst_mct ht hs 60 0 i (by omega)]
        intro h9
        rcases (ht.place (by omega)).mp h9 with h8 | h8
        · omega
        · rw [(ht.2.1.1 i (by omega)).2 (by rw [hk]; decide)] at h8
          exact absurd h8 (by decide)
      by_cases hL : isL (m.A 41 i)
      · rw [if_pos (show lsC d i from ⟨by rw [t1, hk], by rw [t2]; exact hL⟩)]
        obtain ⟨j, hj, hj2, hj3⟩ := letter_sub hL
        have ht2 : TR (stA d 34 (upd (d.A 34) (d.A 8 i - 97).toNatClampNeg (lsV d i))) m n row := ht.c rfl rfl (fun a h2 h3 _ => by rw [A_stA, if_neg (by omega)]) (fun _ _ _ => rfl)
        rw [fls_mls hl k (i + 1) (stA d 34 (upd (d.A 34) (d.A 8 i - 97).toNatClampNeg (lsV d i))) (by omega) (by omega) ht2 (hs.c rfl rfl)]
        congr 1
        rw [A_stA, if_pos rfl, t2, hj2, nI_clamp (by omega), l97, hj3]
        by_cases e : l = j
        · rw [e, pk_us]
          unfold lsV
          rw [hcs, t2, hj2, nI_clamp (by omega)]
          by_cases e1 : d.A 34 j = -1
          · rw [if_pos e1, if_pos ⟨hk, rfl, Or.inl e1⟩]
          · rw [if_neg e1]
            by_cases e2 : mct m 60 0 i < d.A 34 j
            · rw [if_pos e2, if_pos ⟨hk, rfl, Or.inr e2⟩]
            · rw [if_neg e2, if_neg]
              rintro ⟨-, -, h9 | h9⟩
              · exact e1 h9
              · exact e2 h9
        · rw [pk_un e, if_neg]
          rintro ⟨-, h9, -⟩
          rw [nI_eq (by omega) (by omega)] at h9
          omega
      · rw [if_neg (show ¬ lsC d i from fun h9 => hL (by have := h9.2; rw [t2] at this; exact this)), fls_mls hl k (i + 1) d (by omega) (by omega) ht hs, if_neg]
        rintro ⟨-, h9, -⟩
        rw [l97] at h9
        rw [h9] at hL
        exact hL ⟨by rw [nI_toInt (by omega)]; omega, by rw [nI_toInt (by omega)]; omega⟩
    · rw [if_neg (show ¬ lsC d i from fun h9 => hk (by rw [← t1]; exact h9.1)), if_neg (fun h9 => hk h9.1), fls_mls hl k (i + 1) d (by omega) (by omega) ht hs]
theorem zfs_mls {d m : Sg} {n : Nat} {row : Nat → List Nat} (ht : TR d m n row) (hs : NR d m) {l : Nat} (hl : l < 26) : (zfs n d).A 34 l = mls m l n 0 (-1) := by
  have h1 := ht.1.2.2.1
  unfold zfs
  rw [fls_mls hl (n - 1) 1 (flz 26 d 34 (-1)) (by omega) (by omega) (ht.c rfl rfl (fun a h2 h3 _ => by unfold flz; rw [A_stA, if_neg (by omega)]) (fun _ _ _ => rfl)) (hs.c rfl rfl)]
  have e : (flz 26 d 34 (-1)).A 34 l = -1 := by
    show (if l < 26 then (-1 : Int32) else _) = -1
    rw [if_pos hl]
  rw [e]
  conv => rhs; rw [show n = n - 1 + 1 by omega, mls]
  rw [if_neg]
  rintro ⟨h9, -⟩
  rw [ht.1.2.2.2.2.2.1.1] at h9
  exact absurd h9 (by decide)
theorem mls_c {m m' : Sg} (h40 : m'.A 40 = m.A 40) (h41 : m'.A 41 = m.A 41) (h42 : m'.A 42 = m.A 42) (h43 : m'.A 43 = m.A 43) (h47 : m'.A 47 = m.A 47) (l : Nat) : ∀ (k x : Nat) (b : Int32), mls m' l k x b = mls m l k x b := by
  have hc : ∀ (k : Nat) (s : Int32) (x : Nat), mct m' k s x = mct m k s x := by
    intro k
    induction k with
    | zero => intro s x; rfl
    | succ k ih => intro s x; rw [mct, mct, ih, h42, h43, h47]
  intro k
  induction k with
  | zero => intro x b; rfl
  | succ k ih => intro x b; rw [mls, mls, ih, h40, h41, hc]
theorem cdv_s (f : Nat) (a b : Int64) : cdv (f + 1) a b = if b = 0 then a else cdv f b (a - a / b * b) := rfl
theorem cdv_big : ∀ (f f' : Nat) (a b : Int64), b.toInt.natAbs < f → b.toInt.natAbs < f' → cdv f a b = cdv f' a b
  | 0, _, _, _, h, _ => absurd h (by omega)
  | _ + 1, 0, _, _, _, h => absurd h (by omega)
  | f + 1, f' + 1, a, b, h, h' => by
    rw [cdv_s f, cdv_s f']
    by_cases e : b = 0
    · rw [if_pos e, if_pos e]
    · rw [if_neg e, if_neg e]
      have := rm_lt a b e
      exact cdv_big f f' b _ (by omega) (by omega)
theorem half {x y : Nat} (hy : 0 < y) (h : y ≤ x) : 2 * (x % y) < x + 1 := by
  have h1 := Nat.mod_lt x hy
  have h2 := Nat.div_add_mod x y
  have h3 : 1 ≤ x / y := Nat.div_pos h hy
  have h4 : y ≤ y * (x / y) := Nat.le_mul_of_pos_right y h3
  omega
theorem cdv_log : ∀ (k f f' : Nat) (a b : Int64), b.toInt.natAbs < 2 ^ k → 2 * k + 1 ≤ f → 2 * k + 1 ≤ f' → cdv f a b = cdv f' a b
  | 0, f, f', a, b, h, h1, h2 => cdv_big f f' a b (by omega) (by omega)
  | k + 1, f, f', a, b, h, h1, h2 => by
    obtain ⟨f, rfl⟩ : ∃ g, f = g + 2 := ⟨f - 2, by omega⟩
    obtain ⟨f', rfl⟩ : ∃ g, f' = g + 2 := ⟨f' - 2, by omega⟩
    rw [cdv_s (f + 1), cdv_s (f' + 1)]
    by_cases e : b = 0
    · rw [if_pos e, if_pos e]
    · rw [if_neg e, if_neg e, cdv_s f, cdv_s f']
      have hlt := rm_lt a b e
      generalize a - a / b * b = r at hlt
      by_cases e2 : r = 0
      · rw [if_pos e2, if_pos e2]
      · rw [if_neg e2, if_neg e2]
        refine cdv_log k f f' r _ ?_ (by omega) (by omega)
        rw [rm_toInt, Int.natAbs_tmod]
        have hr : ¬ r.toInt = 0 := fun h9 => e2 (Int64.toInt_inj.mp (by rw [h9]; rfl))
        have h9 := half (x := b.toInt.natAbs) (y := r.toInt.natAbs) (by omega) (by omega)
        have h8 := Nat.mod_lt b.toInt.natAbs (show 0 < r.toInt.natAbs by omega)
        rw [Nat.pow_succ] at h
        have h7 := Nat.mod_lt b.toInt.natAbs (show 0 < r.toInt.natAbs by omega)
        have h6 : 2 * (b.toInt.natAbs % r.toInt.natAbs) < b.toInt.natAbs + 1 := h9
        by_cases h5 : 2 * (b.toInt.natAbs % r.toInt.natAbs) = b.toInt.natAbs
        · omega
        · omega
theorem cdv_same (t a : Int64) (h : a.toInt.natAbs < 2 ^ 20) : cdv 100 t a = cdv (a.toInt.natAbs + 1) t a := by
  rw [cdv_log 20 100 (2 ^ 20 + 41) t a h (by omega) (by omega)]
  exact cdv_big _ _ t a (by omega) (by omega)
section Mean2
variable {d m : Sg}
theorem mpq_mmn {n : Nat} (hh : HR d m) (hz : ∀ l, l < 26 → d.A 34 l = mls m l n 0 (-1)) : ∀ (k l : Nat) (t : Int64) (A : Nat), l + k = 26 → A ≤ 1000 * l → mpq d k l t (lN A) = mmn m n k l t (lN A) ∧ ∀ q, mpq d k l t (lN A) = some q → ∃ B, B ≤ 26000 ∧ q.2 = lN B
  | 0, l, t, A, hl, hA => by
    refine ⟨rfl, fun q hq => ?_⟩
    rw [mpq] at hq
    have := Option.some.inj hq
    rw [← this]
    exact ⟨A, by omega, rfl⟩
  | k + 1, l, t, A, hl, hA => by
    obtain ⟨e, s, s1, s2⟩ := hh l (by omega)
    rw [mpq, mmn]
    unfold mpN
    rw [e, hz l (by omega), s2, nI_l (by omega)]
    by_cases h0 : s = 0
    · rw [if_neg (show ¬ (¬ nI s ≤ 0 ∧ mls m l n 0 (-1) = -1) from fun h9 => h9.1 (by rw [h0]; decide)), if_pos (show nI s = 0 by rw [h0]; rfl), h0, show (lN 0 : Int64) = 0 from rfl, Int64.zero_mul, Int64.add_zero, Int64.add_zero]
      exact mpq_mmn hh hz k (l + 1) t A (by omega) (by omega)
    · have hn0 : ¬ nI s = 0 := nI_ne0 (by omega) (by omega)
      have hnl : ¬ nI s ≤ 0 := nI_nle (by omega) (by omega)
      rw [if_neg hn0]
      by_cases e1 : mls m l n 0 (-1) = -1
      · rw [if_pos ⟨hnl, e1⟩, if_pos e1]
        exact ⟨rfl, fun q hq => absurd hq (by simp)⟩
      · rw [if_neg (fun h9 => e1 h9.2), if_neg e1, lN_add]
        exact mpq_mmn hh hz k (l + 1) _ (A + s) (by omega) (by omega)
theorem mean_eq {n : Nat} (hh : HR d m) (hz : ∀ l, l < 26 → d.A 34 l = mls m l n 0 (-1)) (w : Int32) : mpR w (mpq d 26 0 0 0) = mmR w (mmn m n 26 0 0 0) := by
  obtain ⟨h1, h2⟩ := mpq_mmn hh hz 26 0 0 0 (by omega) (by omega)
  rw [show (lN 0 : Int64) = 0 from rfl] at h1 h2
  rw [← h1]
  cases hq : mpq d 26 0 0 0 with
  | none => rfl
  | some q =>
    obtain ⟨B, b1, b2⟩ := h2 q hq
    obtain ⟨t, a⟩ := q
    dsimp only at b2
    have hab : a.toInt.natAbs < 2 ^ 20 := by rw [b2, lN_toInt (by omega)]; omega
    rw [mpR, mmR, cdv_same t a hab]
    by_cases h0 : a = 0
    · rw [if_pos (Or.inl h0), if_pos h0]
    · rw [if_neg h0, if_neg]
      rintro (h9 | h9)
      · exact h0 h9
      · exact cdv_ne _ t a (by omega) (fun h8 => absurd h8 h0) h9
end Mean2
theorem s_mean {c : Nat} {z : Sg} (h : RR c z z) (w : Int32) : OK1 isJ c z mDesk_mean mMod_mean [.int w] := by
  have hR := h
  obtain ⟨⟨n, row, ht, -⟩, -, hs, -, -, hh, -⟩ := h
  have hn := ht.n60
  have h1 := ht.1.2.2.1
  have c1 := c_mean h1 hn z ht.1.1 w
  by_cases ok : inB w 0 1
  · rw [if_pos ok, if_pos ok] at c1
    have s1 : SM z (zfs n z) := SM_zfs n z
    have c2 := c_Mod_mean (ht.n s1.n).gr (ht.n s1.n).1.2.1 w
    rw [if_pos ok] at c2
    have s2 : SN z (z00 (zfs n z)) := s1.n.tr (SN_z00 _)
    have e : mpR w (mpq (zfs n z) 26 0 0 0) = mmR w (mmn (z00 (zfs n z)) n 26 0 0 0) := by
      refine mean_eq (hh.c ?_ (s2.1 59 (by decide))) (fun l hl => ?_) w
      · unfold zfs
        rw [A_fls (by decide)]
        rfl
      · rw [zfs_mls ht hs hl, mls_c (s2.1 40 (by decide)) (s2.1 41 (by decide)) (s2.1 42 (by decide)) (s2.1 43 (by decide)) (s2.1 47 (by decide))]
    rw [← e] at c2
    refine OK1.mk _ _ ⟨_, rfl⟩ c1 c2 (by decide) (by decide) (by decide) (by decide) (by decide) (by decide) (SD_z00 _) s1 (RR_find hR.up (fun a h1 h2 h3 => ?_) (fun i _ => ?_) ?_ (fun a h1 _ => s2.1 a h1) s2.2)
    · unfold zfs
      rw [A_fls h2]
      unfold flz
      rw [A_stA, if_neg h2]
    · unfold zfs
      rw [F_fls]
      rfl
    · unfold zfs
      rw [K_fls]
      rfl
  · rw [if_neg ok, if_neg ok] at c1
    have c2 := c_Mod_mean ht.gr ht.1.2.1 w
    rw [if_neg ok] at c2
    exact OK1.mk z _ ⟨_, rfl⟩ c1 c2 (by decide) (by decide) (by decide) (by decide) (by decide) (by decide) (SD_z00 z) (SM.rf z) (hR.up.c (SD.rf z) (SN_z00 z))
