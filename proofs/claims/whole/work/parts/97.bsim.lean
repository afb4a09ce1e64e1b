/-! LAYING: the tray that is built, both sides -/
def op (z : Sg) (s x : Nat) : Nat := opn z s 60 x
theorem opn_st {d m : Sg} {N : Nat} (h : TB d m N) (s : Nat) : ∀ (k k' o : Nat), o < k → o < k' → o < N → opn d s k o = opn d s k' o
  | 0, _, _, h1, _, _ => absurd h1 (by omega)
  | _ + 1, 0, _, _, h2, _ => absurd h2 (by omega)
  | k + 1, k' + 1, o, h1, h2, h3 => by
    rw [opn, opn]
    by_cases e : o = 0 ∨ ¬ d.A 38 o ≤ nI s
    · rw [if_pos e, if_pos e]
    · rw [if_neg e, if_neg e]
      have hn := h.2.2.2.1
      obtain ⟨g, g1, g2, -⟩ := h.2.2.2.2.2.2.1 o (by omega) h3
      rw [(h.2.2.2.2.1 o h3).2.2, g2, nI_clamp (by omega)]
      exact opn_st h s k k' g (by omega) (by omega) (by omega)
theorem op_here {d : Sg} {s x : Nat} (e : x = 0 ∨ ¬ d.A 38 x ≤ nI s) : op d s x = x := by
  unfold op
  rw [opn, if_pos e]
theorem op_up {d m : Sg} {N : Nat} (h : TB d m N) {s x g : Nat} (hx : x < N) (h0 : 0 < x) (e : d.A 38 x ≤ nI s) (hg : m.A 42 x = nI g) (hgx : g < x) : op d s x = op d s g := by
  have hn := h.2.2.2.1
  unfold op
  rw [opn, if_neg (by
    rintro (h9 | h9)
    · omega
    · exact h9 e), (h.2.2.2.2.1 x hx).2.2, hg, nI_clamp (by omega)]
  exact opn_st h s 59 60 g (by omega) (by omega) (by omega)
theorem feZ_e {z z' : Sg} (h5 : z'.A 5 = z.A 5) (h36 : z'.A 36 = z.A 36) (h37 : z'.A 37 = z.A 37) (i j : Nat) : feZ z' i j = feZ z i j := by
  have hc : ∀ x, cwZ z' i x j = cwZ z i x j := fun x => by
    unfold cwZ sumZ lstZ
    rw [h5, h36, h37]
  exact feZ_c (fun x _ _ => hc x)
/-- what building leaves -/
def Bf (z z' : Sg) : Prop := (∀ a, ¬ (7 ≤ a ∧ a ≤ 9) → ¬ a = 38 → z'.A a = z.A a) ∧ (∀ i, ¬ i = 6 → z'.F i = z.F i) ∧ z'.2.2 = z.2.2
theorem Bf.rf (z : Sg) : Bf z z := ⟨fun _ _ _ => rfl, fun _ _ => rfl, rfl⟩
theorem Bf.tr {a b c : Sg} (h : Bf a b) (k : Bf b c) : Bf a c := ⟨fun i h1 h2 => (k.1 i h1 h2).trans (h.1 i h1 h2), fun i h1 => (k.2.1 i h1).trans (h.2.1 i h1), k.2.2.trans h.2.2⟩
theorem Bf_zadd (z : Sg) (g k v : Int32) : Bf z (zadd z g k v) := by
  refine ⟨fun a h1 _ => ?_, fun i h1 => ?_, rfl⟩
  · unfold zadd
    rw [A_stF, A_stA, if_neg (by omega), A_stA, if_neg (by omega), A_stA, if_neg (by omega)]
  · unfold zadd
    rw [Fi_stF _ _ _ _ h1]
    rfl
theorem Bf_38 (z : Sg) (f : Nat → Int32) : Bf z (stA z 38 f) := ⟨fun a _ h2 => by rw [A_stA, if_neg h2], fun _ _ => rfl, rfl⟩
theorem add_ok {d m : Sg} {N g : Nat} (h : TB d m N) (hN : N < 60) (hg : g < N) (hk : m.A 40 g = 0) {k v : Int32} (ht : takesP k v) : addOK d (nI g) k v := by
  refine ⟨by rw [h.1, nI_toInt (by omega)]; omega, ?_, ht⟩
  rw [tg_at h.1 (by omega) hg, (h.2.2.2.2.1 g hg).1]
  exact hk
theorem bld_sim {n : Nat} (hn : n ≤ 26) (z0 : Sg) : ∀ (m g f j p : Nat) (wh : Bool) (zd zm : Sg) (N x : Nat), TB zd zm N → Bf z0 zd → (∀ k, k < n → zm.A 62 k = z0.A 23 k ∧ isL (z0.A 23 k)) → g < N → zm.A 40 g = 0 → zd.A 38 g = nI j → f ≤ j → j ≤ n → op zd f x = op zd f g → 2 * (j - f) + (if wh = true then 0 else 1) ≤ m → (wh = true → f + 1 < j) → N + 2 * (j - f) ≤ 60 + (if wh = true then 1 else 0) →
    ∃ zd' N' x', (∀ M, bld n (M + (N' - N)) f x zd = bld n M j x' zd') ∧ N ≤ N' ∧ N' ≤ N + 2 * (j - f) - (if wh = true then 2 else if f < j then 1 else 0) ∧ TB zd' (lyM (fun f j _ _ => feZ z0 f j) m g f j p wh zm) N' ∧ Bf z0 zd' ∧ (∀ y, y < N → (lyM (fun f j _ _ => feZ z0 f j) m g f j p wh zm).A 40 y = zm.A 40 y ∧ (lyM (fun f j _ _ => feZ z0 f j) m g f j p wh zm).A 42 y = zm.A 42 y ∧ zd'.A 38 y = zd.A 38 y) ∧ op zd' j x' = op zd' j g := by
  intro m
  induction m with
  | zero =>
    intro g f j p wh zd zm N x hT hB hL hg hk h38 hfj hj hop hm hw hN
    exfalso
    by_cases e : wh = true
    · have := hw e
      omega
    · rw [if_neg e] at hm
      omega
  | succ m ih =>
    intro g f j p wh zd zm N x hT hB hL hg hk h38 hfj hj hop hm hw hN
    by_cases hjf : j ≤ f
    · have hfe : f = j := by omega
      rw [lyM, if_pos hjf]
      refine ⟨zd, N, x, fun M => by rw [Nat.sub_self, Nat.add_zero, hfe], Nat.le_refl _, ?_, hT, hB, fun y _ => ⟨rfl, rfl, rfl⟩, by rw [← hfe]; exact hop⟩
      rw [if_neg (fun h9 => by have := hw h9; omega), if_neg (by omega)]
      omega
    · obtain ⟨f1, f2, f3, -, -⟩ := feZ_spec z0 (show f < j by omega)
      have h1N := hT.2.2.1
      have hN60 := hT.2.2.2.1
      have hpo : op zd f x = g := by
        rw [hop, op_here (Or.inr ?_)]
        rw [h38]
        exact nI_ge (by omega) (by omega)
      have hfz : feZ zd f j = feZ z0 f j := feZ_e (hB.1 _ (by decide) (by decide)) (hB.1 _ (by decide) (by decide)) (hB.1 _ (by decide) (by decide)) f j
      have h23 : zd.A 23 f = z0.A 23 f := by rw [hB.1 23 (by decide) (by decide)]
      have hN2 : N + 2 * (j - f) ≤ 60 ∨ (wh = true ∧ N + 2 * (j - f) ≤ 61) := by
        by_cases e : wh = true
        · rw [if_pos e] at hN; exact Or.inr ⟨e, hN⟩
        · rw [if_neg e] at hN; exact Or.inl hN
      have hk3 : wh = true → feZ z0 f j < j := fun e => f3 (hw e)
      have hm2 : 2 * (j - f) ≤ m + 1 ∧ (¬ wh = true → 2 * (j - f) + 1 ≤ m + 1) := by
        by_cases e : wh = true
        · rw [if_pos e] at hm; exact ⟨by omega, fun h9 => absurd e h9⟩
        · rw [if_neg e] at hm; exact ⟨by omega, fun _ => hm⟩
      have step : ∀ M, bld n (M + 1) f x zd = (if feZ z0 f j - f = 1 then bld n M (f + 1) g (addz zd (nI g) 1 (zd.A 23 f)) else if addOK zd (nI g) 0 (-1) then bld n M f N (stA (zadd zd (nI g) 0 (-1)) 38 (upd (zd.A 38) N (nI (feZ z0 f j)))) else zd) := by
        intro M
        have hc6 : (zd.F 6 10).toNatClampNeg = N := by rw [hT.1, nI_clamp (by omega)]
        rw [bld, if_neg (by omega), show opn zd f 60 x = g from hpo, h38, nI_clamp (by omega), hfz, hc6]
      rw [lyM, if_neg hjf]
      generalize hkk : feZ z0 f j = k at f1 f2 f3 hk3 step
      have hN3 : N + 2 * (k - f) ≤ 60 := by
        rcases hN2 with h | ⟨h, h'⟩
        · omega
        · have := hk3 h; omega
      have hsm : ∀ z : Sg, ∀ q v, (zad z (nI g) q v).A 62 = z.A 62 := fun _ _ _ => rfl
      have hcl : (zm.F 39 5).toNatClampNeg = N := by rw [hT.2.1, nI_clamp (by omega)]
      have new : ∀ (q v : Int32) (y : Nat), y < N → (zad zm (nI g) q v).A 40 y = zm.A 40 y ∧ (zad zm (nI g) q v).A 42 y = zm.A 42 y := by
        intro q v y hy
        constructor
        · show upd (zm.A 40) (zm.F 39 5).toNatClampNeg q y = _
          rw [hcl, pk_un (by omega)]
        · show upd (zm.A 42) (zm.F 39 5).toNatClampNeg (nI g) y = _
          rw [hcl, pk_un (by omega)]
      by_cases h1 : k - f = 1
      · rw [if_pos h1]
        have hok : addOK zd (nI g) 1 (zd.A 23 f) := add_ok hT (by omega) hg hk (by
          unfold takesP
          rw [if_pos rfl, h23]
          exact Or.inl (hL f (by omega)).2)
        have hT1 : TB (zadd zd (nI g) 1 (zd.A 23 f)) (zad zm (nI g) 1 (zm.A 62 f)) (N + 1) := TB_add hT (by omega) hg hk (⟨⟨by decide, by decide⟩, by rw [if_pos rfl, (hL f (by omega)).1]; exact Or.inl (hL f (by omega)).2⟩) (by rw [if_pos (Or.inl rfl), h23, (hL f (by omega)).1])
        obtain ⟨zd', N', x', a1, a2, a3, a4, a5, a6, a7⟩ := ih g k j (p + 1) false (zadd zd (nI g) 1 (zd.A 23 f)) (zad zm (nI g) 1 (zm.A 62 f)) (N + 1) g hT1 (hB.tr (Bf_zadd _ _ _ _)) hL (by omega) (by rw [(new _ _ g hg).1]; exact hk) h38 f2 hj rfl (by rw [if_neg (by decide)]; by_cases e : wh = true; (have := hk3 e; omega); (have := hm2.2 e; omega)) (fun h9 => absurd h9 (by decide)) (by rw [if_neg (by decide)]; omega)
        refine ⟨zd', N', x', fun M => ?_, by omega, ?_, a4, a5, fun y hy => ?_, a7⟩
        · rw [show M + (N' - N) = M + (N' - (N + 1)) + 1 by omega, step, if_pos h1, show addz zd (nI g) 1 (zd.A 23 f) = zadd zd (nI g) 1 (zd.A 23 f) from if_pos hok, show f + 1 = k by omega]
          exact a1 M
        · rw [if_neg (by decide)] at a3
          by_cases e : wh = true
          · have := hk3 e
            rw [if_pos e]
            rw [if_pos this] at a3
            omega
          · rw [if_neg e, if_pos (by omega)]
            split at a3 <;> omega
        · obtain ⟨b1, b2, b3⟩ := a6 y (by omega)
          exact ⟨b1.trans (new _ _ y hy).1, b2.trans (new _ _ y hy).2, b3⟩
      · rw [if_neg h1]
        have hok : addOK zd (nI g) 0 (-1) := add_ok hT (by omega) hg hk (by
          unfold takesP
          rw [if_neg (by decide)]
          exact ⟨⟨by decide, by decide⟩, fun h9 => by rcases h9 with h9 | h9 | h9 <;> exact absurd h9 (by decide)⟩)
        have hT1 : TB (stA (zadd zd (nI g) 0 (-1)) 38 (upd (zd.A 38) N (nI k))) (zad zm (nI g) 0 (-1)) (N + 1) := (TB_add hT (k := 0) (v := -1) (w := -1) (by omega) hg hk (by refine ⟨⟨by decide, by decide⟩, ?_⟩; rw [if_neg (by decide), if_neg (by decide)]) (by rw [if_neg (by decide)])).c rfl rfl rfl rfl rfl rfl rfl rfl
        have e38 : ∀ y, y < N → (stA (zadd zd (nI g) 0 (-1)) 38 (upd (zd.A 38) N (nI k))).A 38 y = zd.A 38 y := fun y hy => by
          show upd (zd.A 38) N (nI k) y = _
          rw [pk_un (by omega)]
        have e38N : (stA (zadd zd (nI g) 0 (-1)) 38 (upd (zd.A 38) N (nI k))).A 38 N = nI k := by
          show upd (zd.A 38) N (nI k) N = _
          rw [pk_us]
        have eN : (zad zm (nI g) 0 (-1)).A 40 N = 0 := by
          show upd (zm.A 40) (zm.F 39 5).toNatClampNeg 0 N = _
          rw [hcl, pk_us]
        have eN2 : (zad zm (nI g) 0 (-1)).A 42 N = nI g := by
          show upd (zm.A 42) (zm.F 39 5).toNatClampNeg (nI g) N = _
          rw [hcl, pk_us]
        rw [hcl]
        obtain ⟨z2, N1, x2, a1, a2, a3, a4, a5, a6, a7⟩ := ih N f k 1 true (stA (zadd zd (nI g) 0 (-1)) 38 (upd (zd.A 38) N (nI k))) (zad zm (nI g) 0 (-1)) (N + 1) N hT1 (hB.tr ((Bf_zadd _ _ _ _).tr (Bf_38 _ _))) hL (by omega) eN e38N (by omega) (by omega) rfl (by rw [if_pos rfl]; by_cases e : wh = true; (have := hk3 e; omega); (have := hm2.2 e; omega)) (fun _ => by omega) (by rw [if_pos rfl]; omega)
        rw [if_pos rfl] at a3
        obtain ⟨b1, b2, b3⟩ := a6 N (by omega)
        obtain ⟨c1, c2, c3⟩ := a6 g (by omega)
        have hup : op z2 k N = op z2 k g := op_up a4 (by omega) (by omega) (by rw [b3, e38N]; exact nI_le (Nat.le_refl k) (by omega)) (by rw [b2, eN2]) hg
        have h62 : (lyM (fun f j _ _ => feZ z0 f j) m N f k 1 true (zad zm (nI g) 0 (-1))).A 62 = zm.A 62 := (ly_same _ m N f k 1 true (zad zm (nI g) 0 (-1))).2.1
        obtain ⟨zd', N', x', g1, g2, g3, g4, g5, g6, g7⟩ := ih g k j (p + 1) false z2 (lyM (fun f j _ _ => feZ z0 f j) m N f k 1 true (zad zm (nI g) 0 (-1))) N1 x2 a4 a5 (fun i hi => by rw [h62]; exact hL i hi) (by omega) (by rw [c1, (new _ _ g hg).1]; exact hk) (by rw [c3, e38 g hg]; exact h38) f2 hj (by rw [a7, hup]) (by rw [if_neg (by decide)]; by_cases e : wh = true; (have := hk3 e; omega); (have := hm2.2 e; omega)) (fun h9 => absurd h9 (by decide)) (by rw [if_neg (by decide)]; omega)
        refine ⟨zd', N', x', fun M => ?_, by omega, ?_, g4, g5, fun y hy => ?_, g7⟩
        · rw [show M + (N' - N) = (M + (N' - N1)) + (N1 - (N + 1)) + 1 by omega, step, if_neg h1, if_pos hok, a1, g1]
        · rw [if_neg (by decide)] at g3
          by_cases e : wh = true
          · have := hk3 e
            rw [if_pos e]
            rw [if_pos this] at g3
            omega
          · rw [if_neg e, if_pos (by omega)]
            split at g3 <;> omega
        · obtain ⟨p1, p2, p3⟩ := g6 y (by omega)
          obtain ⟨q1, q2, q3⟩ := a6 y (by omega)
          exact ⟨(p1.trans q1).trans (new _ _ y hy).1, (p2.trans q2).trans (new _ _ y hy).2, (p3.trans q3).trans (e38 y hy)⟩
