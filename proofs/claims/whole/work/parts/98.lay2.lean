/-! lay: both sides -/
theorem b_tst {v : Int32} {q : Nat} (hq : q < 26) : v &&& (1 <<< (nI q &&& 31)) = 0 ↔ bt v q = false := by
  constructor
  · intro h
    have h1 : bt (v &&& (1 <<< (nI q &&& 31))) q = bt 0 q := by rw [h]
    rw [b_and, b_shl q (by omega) 1 (by omega), b_0, Nat.sub_self, decide_eq_true (Nat.le_refl q), show bt 1 0 = true from by rw [b_one]; rfl] at h1
    simpa using h1
  · intro h
    refine b_ext fun i hi => ?_
    rw [b_and, b_shl q (by omega) 1 hi, b_0, b_one]
    by_cases e : i = q
    · rw [e, h]
      rfl
    · by_cases e2 : q ≤ i
      · rw [decide_eq_false (show ¬ i - q = 0 by omega), Bool.and_false, Bool.and_false]
      · rw [decide_eq_false e2, Bool.false_and, Bool.and_false]
theorem rowM_iff {f : Nat → Int32} {t : Nat} (hf : ∀ k, k < t → isL (f k)) : ∀ (m i : Nat) (sn : Int32), i + m = t → (∀ q, q < 26 → (bt sn q = true ↔ ∃ k, k < i ∧ f k = nI (97 + q))) → (rowM f m i sn = true ↔ ∀ a, i ≤ a → a < t → ∀ b, b < a → ¬ f a = f b)
  | 0, i, sn, hi, _ => by
    rw [rowM]
    exact ⟨fun _ a h1 h2 => absurd h2 (by omega), fun _ => rfl⟩
  | m + 1, i, sn, hi, hs => by
    obtain ⟨q, hq, hq2, hq3⟩ := letter_sub (hf i (by omega))
    rw [rowM, hq2]
    by_cases e : bt sn q = false
    · rw [if_pos ((b_tst hq).mpr e), rowM_iff hf m (i + 1) _ (by omega) (fun q' hq' => ?_)]
      · constructor
        · intro h a h1 h2 b hb
          by_cases e2 : a = i
          · intro h9
            rw [e2] at hb h9
            have h8 := (hs q hq).mpr ⟨b, hb, by rw [← h9, hq3]⟩
            rw [e] at h8
            exact absurd h8 (by decide)
          · exact h a (by omega) h2 b hb
        · intro h a h1 h2 b hb
          exact h a (by omega) h2 b hb
      · rw [b_put hq hq', hs q' hq']
        constructor
        · rintro (⟨k, h1, h2⟩ | h1)
          · exact ⟨k, by omega, h2⟩
          · exact ⟨i, by omega, by rw [h1]; exact hq3⟩
        · rintro ⟨k, h1, h2⟩
          by_cases e2 : k = i
          · rw [e2, hq3, nI_eq (by omega) (by omega)] at h2
            exact Or.inr (by omega)
          · exact Or.inl ⟨k, by omega, h2⟩
    · rw [if_neg (fun h9 => e ((b_tst hq).mp h9))]
      constructor
      · intro h9
        exact absurd h9 (by decide)
      · intro h
        have h8 : bt sn q = true := by
          cases h7 : bt sn q with
          | true => rfl
          | false => exact absurd h7 e
        obtain ⟨k, h1, h2⟩ := (hs q hq).mp h8
        exact absurd (by rw [hq3, h2]) (h i (Nat.le_refl i) (by omega) k h1)
theorem bld_end {n s : Nat} (h : n ≤ s) : ∀ (m g : Nat) (z : Sg), bld n m s g z = z
  | 0, _, _ => rfl
  | m + 1, g, z => by rw [bld, if_pos h]
theorem bld_en (n : Nat) : ∀ (m s g t : Nat) (z : Sg), g < t → trOK z t → enOK z → enOK (bld n m s g z)
  | 0, s, g, t, z, _, h, he => he
  | m + 1, s, g, t, z, hg, h, he => by
    rw [bld]
    have ho := opn_le h s 60 g hg
    have ht := h.2.2.1
    split
    · exact he
    · split
      · obtain ⟨t1, h1, h2⟩ := trOK_addz h (show opn z s 60 g < t by omega) 1 (z.A 23 s)
        exact bld_en n m (s + 1) (opn z s 60 g) t1 _ (by omega) h2 (en_addz he _ _ _)
      · next hk =>
        split
        · next hok =>
          have ht60 : t < 60 := by
            have h1 := hok.1
            rw [h.1, nI_toInt (by omega)] at h1
            omega
          have hcl : (z.F 6 10).toNatClampNeg = t := by rw [h.1, nI_clamp (by omega)]
          obtain ⟨e, e1, e2⟩ := he (opn z s 60 g) (by omega)
          have hec : (z.A 38 (opn z s 60 g)).toNatClampNeg = e := by rw [e2, nI_clamp (by omega)]
          rw [hec] at hk
          refine bld_en n m s (z.F 6 10).toNatClampNeg (t + 1) _ (by omega) (trOK_add h ht60 (show opn z s 60 g < t by omega) 0 (-1)) (fun x hx => ?_)
          show ∃ e', e' ≤ 26 ∧ upd (z.A 38) (z.F 6 10).toNatClampNeg (nI (feZ z s (z.A 38 (opn z s 60 g)).toNatClampNeg)) x = nI e'
          rw [hcl, hec]
          have hlt := feZ_lt hk
          by_cases ex : x = t
          · rw [ex, pk_us]
            exact ⟨_, by omega, rfl⟩
          · rw [pk_un ex]
            exact he x hx
        · exact he
theorem s_lay {c : Nat} {z : Sg} (h : RR c z z) : OK1 isI c z mDesk_lay mMod_lay [] := by
  have hR := h
  obtain ⟨⟨nn, row, ht, hlv⟩, hsr, hnr, ⟨Nb, hbr⟩, ⟨t, hp'⟩, hhr, hpl0, hen⟩ := h
  have ht26 := hp'.2.2.1
  have c1 := c_lay ht26 z hp'.1 hen
  have hok : rowOK z t ↔ mlP z t := by
    unfold rowOK mlP mAll
    have hll : (∀ j, j < t → isL (z.A 23 j)) ↔ (∀ j, j < t → isL (z.A 54 j)) := ⟨fun h9 j hj => (hp'.lt hj).1.mp (h9 j hj), fun h9 j hj => (hp'.lt hj).1.mpr (h9 j hj)⟩
    rw [hll]
    constructor
    · rintro ⟨⟨a, b⟩, e⟩
      refine ⟨⟨a, b⟩, fun x hx y hy => ?_⟩
      have h9 := (rowM_iff (hll.mpr b) t 0 0 (by omega) (fun q hq => by rw [b_0]; exact ⟨fun h8 => absurd h8 (by decide), fun ⟨k, h1, _⟩ => absurd h1 (by omega)⟩)).mp e x (by omega) hx y hy
      rw [(hp'.lt hx).2 (b x hx), (hp'.lt (show y < t by omega)).2 (b y (by omega))]
      exact h9
    · rintro ⟨⟨a, b⟩, e⟩
      refine ⟨⟨a, b⟩, (rowM_iff (hll.mpr b) t 0 0 (by omega) (fun q hq => by rw [b_0]; exact ⟨fun h8 => absurd h8 (by decide), fun ⟨k, h1, _⟩ => absurd h1 (by omega)⟩)).mpr (fun x _ hx y hy => ?_)⟩
      have h9 := e x hx y hy
      rw [(hp'.lt hx).2 (b x hx), (hp'.lt (show y < t by omega)).2 (b y (by omega))] at h9
      exact h9
  by_cases ok : mlP z t
  · have okd := hok.mpr ok
    rw [if_pos okd, if_pos okd] at c1
    have h1t : 1 ≤ t := ok.1.1
    have hL23 : ∀ k, k < t → isL (z.A 23 k) := okd.1.2
    obtain ⟨s, s1, s2, s3⟩ := hnr.2.1
    obtain ⟨p, p1, p2⟩ := hnr.2.2.2.2.2
    -- shares
    have hwt : ∃ w : Nat → Nat, (∀ k, k < 26 → w k ≤ 1001) ∧ ∀ k, k < t → z.A 33 (z.A 23 k - 97).toNatClampNeg + 1 = nI (w k) ∧ z.A 59 (z.A 23 k - 97).toNatClampNeg + 1 = nI (w k) := by
      have hx : ∀ k, ∃ v, v ≤ 1001 ∧ (k < t → z.A 33 (z.A 23 k - 97).toNatClampNeg + 1 = nI v ∧ z.A 59 (z.A 23 k - 97).toNatClampNeg + 1 = nI v) := by
        intro k
        by_cases hk : k < t
        · obtain ⟨j, j1, j2, -⟩ := letter_sub (hL23 k hk)
          obtain ⟨e1, v, v1, v2⟩ := hhr j j1
          refine ⟨v + 1, by omega, fun _ => ?_⟩
          rw [j2, nI_clamp (by omega), e1, v2, nI_1]
          exact ⟨rfl, rfl⟩
        · exact ⟨0, by omega, fun h9 => absurd h9 hk⟩
      refine ⟨fun k => (hx k).choose, fun k _ => (hx k).choose_spec.1, fun k hk => (hx k).choose_spec.2 hk⟩
    obtain ⟨w, w1, w2⟩ := hwt
    -- the desk's numbers
    generalize hz0 : stA (zemp (zsol t z)) 38 (upd ((zemp (zsol t z)).A 38) 0 (nI t)) = z0
    have a5 : z0.A 5 = z.A 5 := by rw [← hz0]; show (zsol t z).A 5 = z.A 5; rw [A_zsol (by decide) (by decide)]
    have a23 : z0.A 23 = z.A 23 := by rw [← hz0]; show (zsol t z).A 23 = z.A 23; rw [A_zsol (by decide) (by decide)]
    have a36 : z0.A 36 = (zsol t z).A 36 := by rw [← hz0]; rfl
    have a37 : z0.A 37 = (zsol t z).A 37 := by rw [← hz0]; rfl
    have h36 : ∀ k, k ≤ t → z0.A 36 k = nI (preW w k) := by
      intro k hk
      rw [a36]
      unfold zsol
      rw [A_sl2 (by decide)]
      refine sl1_ok ht26 t 0 z (by omega) (fun k hk => ?_) (fun k hk => ?_) k hk
      · rw [if_pos (hL23 k hk)]
        exact (w2 k hk).1
      · rw [show k = 0 by omega, hpl0]
        rfl
    have hen0 : ∀ a b, a < b → b ≤ t → enR z0 a b := by
      intro a b h1 h2
      refine enR_c (z := zsol t z) h1 ?_ a36 (fun x y _ _ _ => by rw [a37]) ?_
      · rw [a5, A_zsol (by decide) (by decide)]
      · exact sl2_ok ht26 t _ (Nat.le_refl t) (fun a b h3 h4 h5 => absurd h4 (by omega)) a b h1 h2
    obtain ⟨hdp, hg37⟩ := desk_DP ht26 w1 s2 p1 h36 (by rw [a5, hnr.1 0 (by decide), s3]) (by rw [a5, hnr.1 4 (by decide), p2]) hen0
    -- the model's numbers, over a state with the model's parts of z
    have mod : ∀ z1, SN z z1 → mlP z1 t ∧ (∀ k, k < t → (ml1 z1 t).A 62 k = z0.A 23 k ∧ isL (z0.A 23 k)) ∧ hK (ml1 z1 t) (fun f j _ _ => feZ z0 f j) t ∧ mlR z1 t = nI (gZ z0 t 0 t) ∧ (∀ a, 40 ≤ a → ¬ a = 62 → (ml1 z1 t).A a = z.A a) := by
      intro z1 hs
      have ok1 : mlP z1 t := by
        unfold mlP mAll ndp
        rw [hs.1 54 (by decide)]
        exact ok
      have r62 : ∀ k, k < t → (stF (rcp (z00 z1) t) 39 31 0).A 62 k = z0.A 23 k := by
        intro k hk
        show (if k < t then vp_nar .byte (z1.A 54 k) else _) = _
        rw [if_pos hk, hs.1 54 (by decide), byL (ok.1.2 k hk), a23, (hp'.lt hk).2 (ok.1.2 k hk)]
      have hMW : MW (stF (rcp (z00 z1) t) 39 31 0) t s p w := by
        refine ⟨fun k hk => ?_, ?_, ?_⟩
        · rw [r62 k hk, a23]
          show z1.A 59 _ + 1 = _
          rw [hs.1 59 (by decide)]
          exact (w2 k hk).2
        · show z1.A 43 0 = _
          rw [hs.1 43 (by decide)]
          exact s3
        · show z1.A 43 4 = _
          rw [hs.1 43 (by decide)]
          exact p2
      obtain ⟨q1, q2⟩ := ssz_ok hdp ht26 w1 s2 p1 (t + 1) 0 _ (by omega) hMW (fun a b _ _ h9 => absurd h9 (by omega))
      have hA : (ml1 z1 t).A = (stF (rcp (z00 z1) t) 39 31 0).A := q1
      have hok2 : ∀ a b, a ≤ b → b ≤ t → okSm (ml1 z1 t) s w (gZ z0 t) a b := q2
      refine ⟨ok1, fun k hk => ?_, hK_of (hMW.c hA) hdp ht26 w1 s2 p1 hok2, ?_, fun a h1 h2 => ?_⟩
      · rw [hA]
        exact ⟨r62 k hk, by rw [a23]; exact hL23 k hk⟩
      · unfold mlR
        by_cases e : 1 < t
        · rw [if_pos e]
          have h9 := (hok2 0 t (by omega) (Nat.le_refl t)).2 (by omega)
          rw [show 27 * 0 + t = t by omega] at h9
          rw [h9, lN_i]
        · have et : t = 1 := by omega
          rw [if_neg e]
          have h9 := (hok2 0 1 (by omega) (by omega)).1 1 (by omega) (by omega)
          rw [h9, Nat.sub_self, Nat.zero_mul, Nat.zero_mul, Nat.add_zero, lN_i, et]
      · rw [hA]
        show (rcp (z00 z1) t).A a = z.A a
        unfold rcp
        rw [A_stA, if_neg h2]
        exact hs.1 a h1
    -- the trays
    have hl0 : lstZ (zsol t z) 0 t = nI (gZ z0 t 0 t) := by
      unfold lstZ
      rw [if_pos ⟨by omega, by omega⟩, ← a37]
      exact hg37 0 t (by omega) (Nat.le_refl t)
    rw [hl0] at c1
    have s1m : SM z (zly t z) := SM_zly t z
    obtain ⟨m1, m2, m3, m4, m5⟩ := mod _ s1m.n
    have c2 := c_Mod_lay (fun f j _ _ => feZ z0 f j) (z := zly t z) (t := t) (by rw [s1m.2.1]; exact hp'.2.1) ht26 (fun _ => m3)
    rw [if_pos m1, if_pos m1, m4] at c2
    have hTB : TB z0 (ml1 (zly t z) t) 1 := by
      obtain ⟨b1, b2, b3, b4, b5, ⟨b6, b7, b8⟩, b9, b10⟩ := ht.1
      refine ⟨by rw [← hz0]; rfl, rfl, by omega, by omega, fun x hx => ?_, ?_, fun x h1 h2 => absurd h2 (by omega), fun x hx => ?_⟩
      · have e : x = 0 := by omega
        rw [m5 40 (by decide) (by decide), m5 41 (by decide) (by decide), m5 42 (by decide) (by decide), e, b6, b7, b8, ← hz0]
        exact ⟨rfl, rfl, rfl⟩
      · rw [m5 40 (by decide) (by decide), m5 41 (by decide) (by decide), m5 42 (by decide) (by decide)]
        exact ⟨b6, b7, b8⟩
      · rw [m5 40 (by decide) (by decide), m5 41 (by decide) (by decide)]
        exact b10 x (by omega)
    have h38 : z0.A 38 0 = nI t := by
      rw [← hz0]
      show upd ((zemp (zsol t z)).A 38) 0 (nI t) 0 = _
      rw [pk_us]
    obtain ⟨zd', N', x', e1, e2, e3, e4, e5, -, -⟩ := bld_sim ht26 z0 60 0 0 t 1 (decide (1 < t)) z0 (ml1 (zly t z) t) 1 0 hTB (Bf.rf z0) m2 (by omega) (by rw [m5 40 (by decide) (by decide)]; exact ht.1.2.2.2.2.2.1.1) h38 (by omega) (Nat.le_refl t) rfl (by split <;> omega) (fun h9 => by have := of_decide_eq_true h9; omega) (by split <;> omega)
    have hN60 := e4.2.2.2.1
    have hzb : zbd t (zemp (zsol t z)) = zd' := by
      show bld t 60 0 0 (stA (zemp (zsol t z)) 38 (upd ((zemp (zsol t z)).A 38) 0 (nI t))) = zd'
      rw [hz0, show 60 = (60 - (N' - 1)) + (N' - 1) by omega, e1, bld_end (Nat.le_refl t)]
    have hen' : enOK zd' := by
      rw [← hzb]
      refine bld_en t 60 0 0 1 _ (by omega) (trOK_emp (zsol t z)) (fun x hx => ?_)
      show ∃ e, e ≤ 26 ∧ upd ((zsol t z).A 38) 0 (nI t) x = nI e
      by_cases ex : x = 0
      · rw [ex, pk_us]
        exact ⟨t, ht26, rfl⟩
      · rw [pk_un ex, A_zsol (by decide) (by decide)]
        exact hen x hx
    have hly : zly t z = zst N' (stF zd' 22 1 0) := by
      unfold zly ly3
      rw [hzb, e4.1, nI_clamp (by omega)]
    have hm3 : ml3 (fun f j _ _ => feZ z0 f j) (zly t z) t = zlc N' (lyM (fun f j _ _ => feZ z0 f j) 60 0 0 t 1 (decide (1 < t)) (ml1 (zly t z) t)) := by
      unfold ml3
      rw [show (ml2 (fun f j _ _ => feZ z0 f j) (zly t z) t).F 39 5 = nI N' from e4.2.1, nI_clamp (by omega)]
      rfl
    generalize hz1 : zly t z = z1 at *
    -- what the model's building leaves
    have keep : ∀ (k g f j q : Nat) (b : Bool) (y : Sg), (∀ a, ¬ (40 ≤ a ∧ a ≤ 42) → (lyM (fun f j _ _ => feZ z0 f j) k g f j q b y).A a = y.A a) ∧ (∀ i, ¬ i = 5 → (lyM (fun f j _ _ => feZ z0 f j) k g f j q b y).F 39 i = y.F 39 i) := by
      intro k
      induction k with
      | zero => intro g f j q b y; exact ⟨fun _ _ => rfl, fun _ _ => rfl⟩
      | succ k ih =>
        intro g f j q b y
        have za : ∀ (u : Sg) (x1 x2 x3 : Int32), (∀ a, ¬ (40 ≤ a ∧ a ≤ 42) → (zad u x1 x2 x3).A a = u.A a) ∧ (∀ i, ¬ i = 5 → (zad u x1 x2 x3).F 39 i = u.F 39 i) := fun u x1 x2 x3 => by
          unfold zad
          exact ⟨fun a ha => by rw [A_stF, A_stA, if_neg (by omega), A_stA, if_neg (by omega), A_stA, if_neg (by omega)], fun i hi => by rw [F_oth _ _ _ _ hi]; rfl⟩
        rw [lyM]
        split
        · exact ⟨fun _ _ => rfl, fun _ _ => rfl⟩
        · split
          · exact ⟨fun a ha => ((ih _ _ _ _ _ _).1 a ha).trans ((za _ _ _ _).1 a ha), fun i hi => ((ih _ _ _ _ _ _).2 i hi).trans ((za _ _ _ _).2 i hi)⟩
          · exact ⟨fun a ha => ((ih _ _ _ _ _ _).1 a ha).trans (((ih _ _ _ _ _ _).1 a ha).trans ((za _ _ _ _).1 a ha)), fun i hi => ((ih _ _ _ _ _ _).2 i hi).trans (((ih _ _ _ _ _ _).2 i hi).trans ((za _ _ _ _).2 i hi))⟩
    obtain ⟨kA, kF⟩ := keep 60 0 0 t 1 (decide (1 < t)) (ml1 z1 t)
    have mF : ∀ i, ¬ i = 0 → ¬ i = 5 → ¬ i = 31 → (ml1 z1 t).F 39 i = z.F 39 i := by
      intro i h1 h2 h3
      unfold ml1
      rw [F_oth _ _ _ _ h2]
      have hF : ∀ (k sz : Nat) (y : Sg), (ssz t k sz y).F = y.F := by
        have f1 : ∀ (i j q : Nat) (y : Sg), (spl i j q y).F = y.F := by
          intro i j q
          induction q with
          | zero => intro y; rfl
          | succ q ih => intro y; rw [spl, ih]; rfl
        have f2 : ∀ (i j : Nat) (y : Sg), (sij i j y).F = y.F := by
          intro i j y
          unfold sij
          rw [f1]
          split <;> rfl
        have f3 : ∀ (sz k i : Nat) (y : Sg), (sis sz k i y).F = y.F := by
          intro sz k
          induction k with
          | zero => intro i y; rfl
          | succ k ih => intro i y; rw [sis, ih, f2]
        intro k
        induction k with
        | zero => intro sz y; rfl
        | succ k ih => intro sz y; rw [ssz, ih, f3]
      show (ssz t (t + 1) 0 _).F 39 i = _
      rw [hF, F_oth _ _ _ _ h3]
      show (z00 z1).F 39 i = _
      rw [F_oth _ _ _ _ h1, s1m.2.1]
    -- the relation: numbers first, then the tray
    have hR0 : RR (c + 1) (stF (stA (stA (stA z 36 (z0.A 36)) 37 (z0.A 37)) 38 (zd'.A 38)) 22 1 0) (stF (stA (z00 z1) 62 ((ml1 z1 t).A 62)) 39 31 0) := by
      have hs1 : SN z (z00 z1) := s1m.n.tr (SN_z00 _)
      have hgF : ∀ i, ¬ i = 0 → ¬ i = 31 → (stF (stA (z00 z1) 62 ((ml1 z1 t).A 62)) 39 31 0).F 39 i = z.F 39 i := fun i h1 h2 => by
        rw [F_oth _ _ _ _ h2]
        exact hs1.2 i h1
      have hgA : ∀ a, 40 ≤ a → ¬ a = 62 → (stF (stA (z00 z1) 62 ((ml1 z1 t).A 62)) 39 31 0).A a = z.A a := fun a h1 h2 => by
        rw [A_stF, A_stA, if_neg h2]
        exact hs1.1 a h1
      have hdA : ∀ a, ¬ a = 36 → ¬ a = 37 → ¬ a = 38 → (stF (stA (stA (stA z 36 (z0.A 36)) 37 (z0.A 37)) 38 (zd'.A 38)) 22 1 0).A a = z.A a := fun a h1 h2 h3 => by
        rw [A_stF, A_stA, if_neg h3, A_stA, if_neg h2, A_stA, if_neg h1]
      obtain ⟨r, sd, o, k, hsx⟩ := hsr
      refine ⟨⟨nn, row, ht.c (by rw [Fi_stF _ _ _ _ (by decide)]; rfl) (hgF _ (by decide) (by decide)) (fun a h1 h2 _ => hdA a (by omega) (by omega) (by omega)) (fun a h1 h2 => hgA a h1 (by omega)), ?_⟩, ⟨r, sd, o, k, hsx.c rfl rfl rfl ⟨[], (List.append_nil _).symm⟩ (Fi_stF _ _ _ _ (by decide)) (hgF _ (by decide) (by decide)) (hgF _ (by decide) (by decide)) (hgF _ (by decide) (by decide)) (fun a h1 h2 => hgA a (by omega) (by omega))⟩, hnr.c (hdA _ (by decide) (by decide) (by decide)) (hgA _ (by decide) (by decide)), ⟨Nb, hbr.c (by rw [Fi_stF _ _ _ _ (by decide)]; rfl) (hgF _ (by decide) (by decide)) (hdA _ (by decide) (by decide) (by decide)) (hdA _ (by decide) (by decide) (by decide)) (hdA _ (by decide) (by decide) (by decide)) (hgA _ (by decide) (by decide)) (hgA _ (by decide) (by decide)) (hgA _ (by decide) (by decide))⟩, ⟨0, F_self _ _ _ _, F_self _ _ _ _, by omega, fun j hj => absurd hj (by omega)⟩, hhr.c (hdA _ (by decide) (by decide) (by decide)) (hgA _ (by decide) (by decide)), ⟨?_, ?_⟩⟩
      · have hlv2 := hlv.up
        obtain ⟨g, k', T, C, p, h1, h2⟩ := hlv2
        refine ⟨g, k', T, C, p, h1, ?_⟩
        unfold LW at h2 ⊢
        rw [show (stF (stA (stA (stA z 36 (z0.A 36)) 37 (z0.A 37)) 38 (zd'.A 38)) 22 1 0).F 17 = z.F 17 from Fi_stF _ _ _ _ (by decide), hgF 11 (by decide) (by decide), hgF 12 (by decide) (by decide), hgF 10 (by decide) (by decide), hgF 14 (by decide) (by decide), hgF 15 (by decide) (by decide), hgF 16 (by decide) (by decide), hgF 13 (by decide) (by decide), hgF 17 (by decide) (by decide)]
        exact h2
      · show z0.A 36 0 = 0
        rw [h36 0 (by omega)]
        rfl
      · exact hen'
    have hR2 : RR (c + 1) (zst N' (stF zd' 22 1 0)) (zlc N' (lyM (fun f j _ _ => feZ z0 f j) 60 0 0 t 1 (decide (1 < t)) (ml1 z1 t))) := by
      refine RR_anew hR0 (e4.c rfl rfl rfl rfl rfl rfl rfl rfl) ?_ (fun a h1 h2 => ?_) (fun i h1 h2 => ?_) ?_ (fun a h1 => ?_) ?_ (fun i h1 h2 => ?_)
      · rw [kA 46 (by decide), m5 46 (by decide) (by decide)]
        exact ht.2.1.2
      · rw [A_stF]
        by_cases h38 : a = 38
        · rw [h38]; rfl
        · rw [e5.1 a (by omega) h38]
          by_cases x36 : a = 36
          · rw [x36]; rfl
          · by_cases x37 : a = 37
            · rw [x37]; rfl
            · rw [A_stF, A_stA, if_neg h38, A_stA, if_neg x37, A_stA, if_neg x36, ← hz0]
              show (stA (zemp (zsol t z)) 38 _).A a = _
              rw [A_stA, if_neg h38]
              unfold zemp
              rw [A_stF, A_stA, if_neg (by omega), A_stA, if_neg (by omega), A_stA, if_neg (by omega), A_zsol x36 x37]
      · by_cases x22 : i = 22
        · rw [x22]
          funext l
          rw [F_stF, F_stF, if_pos rfl, if_pos rfl]
          by_cases el : l = 1
          · rw [if_pos el, if_pos el]
          · rw [if_neg el, if_neg el, e5.2.1 22 (by decide), ← hz0]
            show (zemp (zsol t z)).F 22 l = z.F 22 l
            show (zsol t z).F 22 l = z.F 22 l
            rw [F_zsol]
        · rw [Fi_stF _ _ _ _ x22, Fi_stF _ _ _ _ x22, e5.2.1 i h1, ← hz0]
          show (zemp (zsol t z)).F i = z.F i
          unfold zemp
          rw [Fi_stF _ _ _ _ h1]
          show (zsol t z).F i = z.F i
          rw [F_zsol]
      · show zd'.2.2 = z.2.2
        rw [e5.2.2, ← hz0]
        show (zsol t z).2.2 = z.2.2
        have k1 : ∀ (m i : Nat) (y : Sg), (sl1 m i y).2.2 = y.2.2 := by
          intro m
          induction m with
          | zero => intro i y; rfl
          | succ m ih => intro i y; rw [sl1, ih]; rfl
        have k3 : ∀ (i m j : Nat) (y : Sg), (sl3 i m j y).2.2 = y.2.2 := by
          intro i m
          induction m with
          | zero => intro j y; rfl
          | succ m ih => intro j y; rw [sl3, ih]; rfl
        have k2 : ∀ (i : Nat) (y : Sg), (sl2 t i y).2.2 = y.2.2 := by
          intro i
          induction i with
          | zero => intro y; rfl
          | succ i ih => intro y; rw [sl2, ih, k3]
        unfold zsol
        rw [k2, k1]
      · rw [kA a (by omega)]
        by_cases x62 : a = 62
        · rw [x62]; rfl
        · rw [m5 a (by omega) x62, A_stF, A_stA, if_neg x62]
          exact (s1m.1 a (by omega)).symm
      · rw [kA 43 (by decide), m5 43 (by decide) (by decide)]
        exact (s1m.1 43 (by decide)).symm
      · rw [kF i h2]
        by_cases x31 : i = 31
        · rw [x31, F_self]
          unfold ml1
          rw [F_oth _ _ _ _ (by decide)]
          have hF : (zsm t (stF (rcp (z00 z1) t) 39 31 0)).F = (stF (rcp (z00 z1) t) 39 31 0).F := by
            have f1 : ∀ (i j q : Nat) (y : Sg), (spl i j q y).F = y.F := by
              intro i j q
              induction q with
              | zero => intro y; rfl
              | succ q ih => intro y; rw [spl, ih]; rfl
            have f2 : ∀ (i j : Nat) (y : Sg), (sij i j y).F = y.F := by
              intro i j y
              unfold sij
              rw [f1]
              split <;> rfl
            have f3 : ∀ (sz k i : Nat) (y : Sg), (sis sz k i y).F = y.F := by
              intro sz k
              induction k with
              | zero => intro i y; rfl
              | succ k ih => intro i y; rw [sis, ih, f2]
            have f4 : ∀ (k sz : Nat) (y : Sg), (ssz t k sz y).F = y.F := by
              intro k
              induction k with
              | zero => intro sz y; rfl
              | succ k ih => intro sz y; rw [ssz, ih, f3]
            exact f4 _ _ _
          rw [hF, F_self]
        · rw [mF i h1 h2 x31, F_oth _ _ _ _ x31]
          exact ((s1m.n.tr (SN_z00 z1)).2 i h1).symm
    rw [← hly] at hR2
    rw [hm3] at c2
    exact OK1.mk z1 _ ⟨_, rfl⟩ c1 c2 (by decide) (by decide) (by decide) (by decide) (by decide) (by decide) ((SD_ml1 z1 t).tr ((SD_lyM _ _ _ _ _ _ _ _).tr (SD_zlc _ _))) s1m hR2
  · have okd : ¬ rowOK z t := fun h9 => ok (hok.mp h9)
    rw [if_neg okd, if_neg okd] at c1
    have c2 := c_Mod_lay (fun f _ _ _ => f + 1) (z := z) (t := t) hp'.2.1 ht26 (fun h9 => absurd h9 ok)
    rw [if_neg ok, if_neg ok] at c2
    exact OK1.mk z _ ⟨_, rfl⟩ c1 c2 (by decide) (by decide) (by decide) (by decide) (by decide) (by decide) (SD_z00 z) (SM.rf z) (hR.up.c (SD.rf z) (SN_z00 z))
