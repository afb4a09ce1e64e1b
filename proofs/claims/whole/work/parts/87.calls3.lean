/-! node, clear, tick, press: both sides -/
theorem LV_new {d m : Sg} {n n0 c : Nat} {row row0 : Nat → List Nat} (ht : TR d m n row) (hl : LV n0 c row0 (d.F 17) (m.F 39)) : LV n c row ((zct d 0).F 17) ((zcm m 0).F 39) := by
  obtain ⟨g, k, T, C, p, hT, a1, a2, a3, a4, a5, a6, a7, a8, a9, b1, b2, b3, b4, b5, b6, b7, b8, b9, c1⟩ := hl
  have h1 := ht.1.2.2.1
  have hf := ht.first (show 0 < n by omega)
  refine ⟨0, 0, T, T, p, hT, by omega, ?_, Nat.le_refl _, a4, rfl, rfl, hf, rfl, a9, b1, a9, b1, rfl, b5, b6, rfl, Or.inl rfl, b9, c1⟩
  rcases Nat.eq_zero_or_pos (row 0).length with h9 | h9
  · exact Or.inr ⟨rfl, List.length_eq_zero_iff.mp h9⟩
  · exact Or.inl h9
theorem A_zfl {a : Nat} (h : a < 10 ∨ 16 < a) (n : Nat) (z : Sg) : (zfl n z).A a = z.A a := by
  unfold zfl
  rw [A_li3 (by omega), A_zcl_i (by omega), A_li2 (by omega), A_li1 (by omega)]
theorem A_zlk {a : Nat} (h : ¬ a = 44 ∧ ¬ a = 45 ∧ ¬ a = 46 ∧ ¬ a = 47) (n : Nat) (z : Sg) : (zlk n z).A a = z.A a := by
  unfold zlk
  rw [A_lo3 (by omega), A_lo2 (by omega), A_lo1 (by omega) (by omega) (by omega)]
theorem K_jn (z : Sg) (o t : Int32) : (jn z o t).2.2 = z.2.2 := by
  unfold jn
  split <;> rfl
theorem K_sb (z : Sg) (nd g : Int32) : (sb z nd g).2.2 = z.2.2 := by
  unfold sb
  split
  · rw [K_jn]; rfl
  · rfl
theorem K_li1 : ∀ (m i : Nat) (z : Sg), (li1 m i z).2.2 = z.2.2
  | 0, _, _ => rfl
  | m + 1, i, z => by rw [li1, K_li1]; rfl
theorem K_li2 : ∀ (i : Nat) (z : Sg), (li2 i z).2.2 = z.2.2
  | 0, _ => rfl
  | i + 1, z => by
    rw [li2, K_li2]
    split <;> rfl
theorem K_li3 : ∀ (m i : Nat) (z : Sg), (li3 m i z).2.2 = z.2.2
  | 0, _, _ => rfl
  | m + 1, i, z => by
    rw [li3, K_li3]
    split
    · rw [K_sb]
    · rfl
theorem K_zfl (n : Nat) (z : Sg) : (zfl n z).2.2 = z.2.2 := by
  unfold zfl
  rw [K_li3]
  show (li2 (n - 1) (li1 n 0 z)).2.2 = z.2.2
  rw [K_li2, K_li1]
/-- the relation's other parts, over steps that touch tray and lamp alone -/
theorem RR_tray {c : Nat} {d m d' m' : Sg} (h : RR c d m) (hn : ∃ n row, TR d' m' n row ∧ LV n c row (d'.F 17) (m'.F 39)) (hA : ∀ a, a < 40 → ¬ (7 ≤ a ∧ a ≤ 16) → d'.A a = d.A a) (hF : ∀ i, ¬ i = 6 → ¬ i = 17 → ¬ i = 39 → d'.F i = d.F i) (hK : d'.2.2 = d.2.2) (hM : ∀ a, 48 ≤ a → m'.A a = m.A a) (h43 : m'.A 43 = m.A 43) (hG : ∀ j, ¬ lampF j → ¬ j = 0 → ¬ j = 5 → m'.F 39 j = m.F 39 j) : RR c d' m' := by
  obtain ⟨-, ⟨r, sd, o, k, b⟩, e, ⟨N, f⟩, ⟨t, g⟩, i, j⟩ := h
  refine ⟨hn, ⟨r, sd, o, k, b.c (congrArg (fun q => q.2.1.1) hK) (congrArg (fun q => q.2.1.2) hK) (congrArg (fun q => q.2.2.1) hK) ⟨[], by rw [List.append_nil]; exact congrArg (fun q => q.2.2.2.2) hK⟩ (hF 18 (by decide) (by decide) (by decide)) (hG _ (by decide) (by decide) (by decide)) (hG _ (by decide) (by decide) (by decide)) (hG _ (by decide) (by decide) (by decide)) (fun a h1 _ => hM a h1)⟩, e.c (hA _ (by decide) (by decide)) h43, ⟨N, f.c (by rw [hF 24 (by decide) (by decide) (by decide)]) (hG _ (by decide) (by decide) (by decide)) (hA _ (by decide) (by decide)) (hA _ (by decide) (by decide)) (hA _ (by decide) (by decide)) (hM _ (by decide)) (hM _ (by decide)) (hM _ (by decide))⟩, ⟨t, g.c (by rw [hF 22 (by decide) (by decide) (by decide)]) (hG _ (by decide) (by decide) (by decide)) (hA _ (by decide) (by decide)) (hM _ (by decide))⟩, i.c (hA _ (by decide) (by decide)) (hM _ (by decide)), j.c (hA _ (by decide) (by decide)) (hA _ (by decide) (by decide))⟩
/-- a tray told anew: lights, then the lamp comes to 0 -/
theorem RR_anew {c : Nat} {d m d' m' : Sg} {n : Nat} (h : RR c d m) (hb : TB d' m' n) (hc : ∀ g, g < 60 → ∃ c, c < 60 ∧ m'.A 46 g = nI c) (hA : ∀ a, a < 40 → ¬ (7 ≤ a ∧ a ≤ 16) → d'.A a = d.A a) (hF : ∀ i, ¬ i = 6 → ¬ i = 39 → d'.F i = d.F i) (hK : d'.2.2 = d.2.2) (hM : ∀ a, 48 ≤ a → m'.A a = m.A a) (h43 : m'.A 43 = m.A 43) (hG : ∀ j, ¬ j = 0 → ¬ j = 5 → m'.F 39 j = m.F 39 j) : RR c (zst n d') (zlc n m') := by
  obtain ⟨row, ht⟩ := TR_new hb hc
  have hRR := h
  obtain ⟨⟨n0, row0, -, hl⟩, -⟩ := h
  have hl2 : LV n0 c row0 ((zfl n d').F 17) ((zlk n m').F 39) := by
    obtain ⟨g, k, T, C, p, h1, a1, a2, a3, a4, a5⟩ := hl
    refine ⟨g, k, T, C, p, h1, ?_⟩
    rw [F_zfl, F_zlk, hF 17 (by decide) (by decide)]
    unfold LW
    rw [hG 11 (by decide) (by decide), hG 12 (by decide) (by decide), hG 10 (by decide) (by decide), hG 14 (by decide) (by decide), hG 15 (by decide) (by decide), hG 16 (by decide) (by decide), hG 13 (by decide) (by decide), hG 17 (by decide) (by decide)]
    exact ⟨a1, a2, a3, a4, a5⟩
  have hl3 := LV_new ht hl2
  refine RR_tray hRR ⟨n, row, ht.c rfl (Fo_zcm _ _ (by decide)) (fun _ _ _ _ => rfl) (fun _ _ _ => rfl), hl3⟩ ?_ ?_ ?_ ?_ ?_ ?_
  · intro a h1 h2
    show (zfl n d').A a = d.A a
    rw [A_zfl (by omega)]
    exact hA a h1 h2
  · intro i h1 h2 h3
    show (zct (zfl n d') 0).F i = d.F i
    rw [Fi_zct _ _ h2, F_zfl]
    exact hF i h1 h3
  · show (zfl n d').2.2 = d.2.2
    rw [K_zfl]
    exact hK
  · intro a h1
    show (zlk n m').A a = m.A a
    rw [A_zlk (by omega)]
    exact hM a h1
  · show (zlk n m').A 43 = m.A 43
    rw [A_zlk (by decide)]
    exact h43
  · intro j h1 h2 h3
    show (zcm (zlk n m') 0).F 39 j = m.F 39 j
    rw [Fo_zcm _ _ h1, F_zlk]
    exact hG j h2 h3
section Calls3
variable {c : Nat} {z : Sg}
theorem add_iff {d m : Sg} {n : Nat} {row : Nat → List Nat} (ht : TR d m n row) (g k v : Int32) : addOK d g k v ↔ nodeOK m g k v := by
  have hn := ht.n60
  unfold addOK nodeOK takesP
  rw [ht.1.1, ht.1.2.1, nI_toInt (by omega)]
  have h60 : ¬ nI n = 60 ↔ n < 60 := by
    rw [show (60 : Int32) = nI 60 from rfl, nI_eq (by omega) (by omega)]
    omega
  rw [h60]
  have hk : tg d 7 g (-1) = 0 ↔ ltN g (nI n) ∧ m.A 40 g.toNatClampNeg = 0 := by
    by_cases hg : ltN g (nI n)
    · obtain ⟨j, hj, rfl⟩ := ltN_nat (by omega) hg
      rw [tg_at ht.1.1 hn hj, nI_clamp (by omega), (ht.1.2.2.2.2.1 j hj).1]
      exact ⟨fun h9 => ⟨hg, h9⟩, fun h9 => h9.2⟩
    · unfold tg
      rw [ht.1.1, if_neg hg]
      exact ⟨fun h9 => absurd h9 (by decide), fun h9 => absurd h9.1 hg⟩
  rw [hk]
  by_cases h1 : k = 1
  · rw [if_pos h1, if_pos h1]
    have : inB k 0 6 := by rw [h1]; exact ⟨by decide, by decide⟩
    constructor
    · rintro ⟨a, ⟨b1, b2⟩, e⟩
      exact ⟨by omega, b1, b2, this, e⟩
    · rintro ⟨a, b1, b2, -, e⟩
      exact ⟨by omega, ⟨b1, b2⟩, e⟩
  · rw [if_neg h1, if_neg h1]
    constructor
    · rintro ⟨a, ⟨b1, b2⟩, e1, e2⟩
      exact ⟨by omega, b1, b2, e1, e2⟩
    · rintro ⟨a, b1, b2, e1, e2⟩
      exact ⟨by omega, ⟨b1, b2⟩, e1, e2⟩
theorem TB_add {d m : Sg} {n g : Nat} (h : TB d m n) (hn : n < 60) (hg : g < n) (hgk : m.A 40 g = 0) {k v w : Int32} (hk : kOK k w) (hvw : (if hasV k then v else -1) = w) : TB (zadd d (nI g) k v) (zad m (nI g) k w) (n + 1) := by
  obtain ⟨a1, a2, a3, a4, a5, ⟨a6, a7, a8⟩, a9, b1⟩ := h
  have hc : (d.F 6 10).toNatClampNeg = n := by rw [a1, nI_clamp (by omega)]
  have hc2 : (m.F 39 5).toNatClampNeg = n := by rw [a2, nI_clamp (by omega)]
  have e7 : (zadd d (nI g) k v).A 7 = upd (d.A 7) n k := by show upd (d.A 7) (d.F 6 10).toNatClampNeg k = _; rw [hc]
  have e8 : (zadd d (nI g) k v).A 8 = upd (d.A 8) n w := by show upd (d.A 8) (d.F 6 10).toNatClampNeg (if hasV k then v else -1) = _; rw [hc, hvw]
  have e9 : (zadd d (nI g) k v).A 9 = upd (d.A 9) n (nI g) := by show upd (d.A 9) (d.F 6 10).toNatClampNeg (nI g) = _; rw [hc]
  have e40 : (zad m (nI g) k w).A 40 = upd (m.A 40) n k := by show upd (m.A 40) (m.F 39 5).toNatClampNeg k = _; rw [hc2]
  have e41 : (zad m (nI g) k w).A 41 = upd (m.A 41) n w := by show upd (m.A 41) (m.F 39 5).toNatClampNeg w = _; rw [hc2]
  have e42 : (zad m (nI g) k w).A 42 = upd (m.A 42) n (nI g) := by show upd (m.A 42) (m.F 39 5).toNatClampNeg (nI g) = _; rw [hc2]
  unfold TB
  rw [e7, e8, e9, e40, e41, e42]
  refine ⟨?_, ?_, by omega, by omega, fun x hx => ?_, ?_, fun x h1 h2 => ?_, fun x hx => ?_⟩
  · show d.F 6 10 + 1 = _
    rw [a1, nI_1]
  · show m.F 39 5 + 1 = _
    rw [a2, nI_1]
  · by_cases e : x = n
    · rw [e, pk_us, pk_us, pk_us, pk_us, pk_us, pk_us]
      exact ⟨rfl, rfl, rfl⟩
    · rw [pk_un e, pk_un e, pk_un e, pk_un e, pk_un e, pk_un e]
      exact a5 x (by omega)
  · rw [pk_un (by omega), pk_un (by omega), pk_un (by omega)]
    exact ⟨a6, a7, a8⟩
  · by_cases e : x = n
    · rw [e, pk_us]
      exact ⟨g, by omega, rfl, by rw [pk_un (by omega)]; exact hgk⟩
    · rw [pk_un e]
      obtain ⟨g', g1, g2, g3⟩ := a9 x h1 (by omega)
      exact ⟨g', g1, g2, by rw [pk_un (by omega)]; exact g3⟩
  · by_cases e : x = n
    · rw [e, pk_us, pk_us]
      exact hk
    · rw [pk_un e, pk_un e]
      exact b1 x (by omega)
theorem s_node (h : RR c z z) (g k v : Int32) : OK1 isI c z mDesk_node mMod_node [.int g, .int k, .int v] := by
  have hR := h
  obtain ⟨⟨n, row, ht, -⟩, -⟩ := h
  have hn := ht.n60
  have h1 := ht.1.2.2.1
  have c1 := c_node h1 hn z ht.1.1 g k v
  by_cases ok : addOK z g k v
  · rw [if_pos ok, if_pos ok] at c1
    have s1 : SM z (zst (n + 1) (zadd z g k v)) := (SM_zadd z g k v).tr (SM_zst _ _)
    have ht2 : TR z (zst (n + 1) (zadd z g k v)) n row := ht.sd (SD.rf z) s1.n
    have ok2 : nodeOK (zst (n + 1) (zadd z g k v)) g k v := (add_iff ht2 g k v).mp ok
    have c2 := c_Mod_node h1 hn (zst (n + 1) (zadd z g k v)) ht2.1.2.1 ht2.1.inOK g k v
    rw [if_pos ok2, if_pos ok2, ht2.1.2.1] at c2
    rw [ht.1.1] at c1
    have hlt : n < 60 := by
      have h9 := ok.1
      rw [ht.1.1, nI_toInt (by omega)] at h9
      omega
    obtain ⟨j, hj, rfl⟩ := ltN_nat (x := g) (n := n) (by omega) (by have h9 := ok2.2.1; rw [ht2.1.2.1] at h9; exact h9)
    have hgk := ok2.2.2.1
    rw [nI_clamp (by omega)] at hgk
    generalize hm : zst (n + 1) (zadd z (nI j) k v) = m at s1 ht2 ok2 c1 c2 hgk
    have hkk : kOK k (if hasV k then v else -1) := by
      refine ⟨ok2.2.2.2.1, ?_⟩
      have h9 := ok2.2.2.2.2
      by_cases e : k = 1
      · rw [if_pos e] at h9 ⊢
        rw [if_pos (Or.inl e)]
        exact h9
      · rw [if_neg e] at h9 ⊢
        by_cases e2 : hasV k
        · rw [if_pos e2, if_pos e2]
          exact h9 e2
        · rw [if_neg e2, if_neg e2]
    have hb : TB (zadd z (nI j) k v) (zad (z00 m) (nI j) k (if hasV k then v else -1)) (n + 1) := TB_add (m := z00 m) ht2.1 hlt hj hgk hkk rfl
    have hR2 : RR (c + 1) (zst (n + 1) (zadd z (nI j) k v)) (zlc (n + 1) (zad (z00 m) (nI j) k (if hasV k then v else -1))) := by
      refine RR_anew (m := m) (hR.up.c (SD.rf z) s1.n) hb ht2.2.1.2 (fun a h1 h2 => ?_) (fun i h1 h2 => ?_) rfl (fun a h1 => ?_) rfl (fun j h1 h2 => ?_)
      · unfold zadd
        rw [A_stF, A_stA, if_neg (by omega), A_stA, if_neg (by omega), A_stA, if_neg (by omega)]
      · unfold zadd
        rw [Fi_stF _ _ _ _ h1]
        rfl
      · unfold zad
        rw [A_stF, A_stA, if_neg (by omega), A_stA, if_neg (by omega), A_stA, if_neg (by omega)]
        rfl
      · unfold zad
        rw [F_oth _ _ _ _ h2]
        exact F_oth _ _ _ _ h1
    rw [hm] at hR2
    exact OK1.mk m _ ⟨_, rfl⟩ c1 c2 (by decide) (by decide) (by decide) (by decide) (by decide) (by decide) ((SD_F m _ _).tr ((SD_zad _ _ _ _).tr (SD_zlc _ _))) s1 hR2
  · rw [if_neg ok, if_neg ok] at c1
    have ok2 : ¬ nodeOK z g k v := fun h9 => ok ((add_iff ht g k v).mpr h9)
    have c2 := c_Mod_node h1 hn z ht.1.2.1 ht.1.inOK g k v
    rw [if_neg ok2, if_neg ok2] at c2
    exact OK1.mk z _ ⟨_, rfl⟩ c1 c2 (by decide) (by decide) (by decide) (by decide) (by decide) (by decide) (SD_F z _ _) (SM.rf z) (hR.up.c (SD.rf z) (SN_F0 z _))
theorem TB_emp {d m : Sg} {n : Nat} (h : TB d m n) : TB (zemp d) (stF (stF m 39 0 0) 39 5 1) 1 := by
  obtain ⟨a1, a2, a3, a4, a5, ⟨a6, a7, a8⟩, a9, b1⟩ := h
  refine ⟨rfl, rfl, by omega, by omega, fun x hx => ?_, ⟨a6, a7, a8⟩, fun x h1 h2 => absurd h2 (by omega), fun x hx => ?_⟩
  · have e : x = 0 := by omega
    subst e
    exact ⟨a6.symm, a7.symm, a8.symm⟩
  · exact b1 x (by omega)
theorem s_clear (h : RR c z z) : OK1 isV c z mDesk_clear mMod_clear [] := by
  have hR := h
  obtain ⟨⟨n, row, ht, -⟩, -⟩ := h
  have c1 := c_clear z
  have s1 : SM z (zst 1 (zemp z)) := (SM_zemp z).tr (SM_zst _ _)
  have c2 := c_Mod_clear (zst 1 (zemp z))
  generalize hm : zst 1 (zemp z) = m at s1 c1 c2
  have ht2 : TR z m n row := ht.sd (SD.rf z) s1.n
  have hR2 : RR (c + 1) (zst 1 (zemp z)) (zlc 1 (stF (stF m 39 0 0) 39 5 1)) := by
    refine RR_anew (m := m) (hR.up.c (SD.rf z) s1.n) (TB_emp ht2.1) ht2.2.1.2 (fun a h1 h2 => ?_) (fun i h1 h2 => ?_) rfl (fun a h1 => rfl) rfl (fun j h1 h2 => ?_)
    · unfold zemp
      rw [A_stF, A_stA, if_neg (by omega), A_stA, if_neg (by omega), A_stA, if_neg (by omega)]
    · unfold zemp
      rw [Fi_stF _ _ _ _ h1]
      rfl
    · rw [F_oth _ _ _ _ h2]
      exact F_oth _ _ _ _ h1
  rw [hm] at hR2
  exact OK1.mk m _ rfl c1 c2 (by decide) (by decide) (by decide) (by decide) (by decide) (by decide) ((SD_F m _ _).tr ((SD_F _ _ _).tr (SD_zlc _ _))) s1 hR2
theorem s_tick (h : RR c z z) (x : Int32) : OK1 isI c z mDesk_tick mMod_tick [.int x] := by
  have hR := h
  obtain ⟨⟨n, row, ht, hl⟩, -, hnr, -⟩ := h
  have hn := ht.n60
  have hz : (z.F 6 10).toInt ≤ 60 := by rw [ht.1.1, nI_toInt (by omega)]; omega
  have hml := hl.ml ht
  obtain ⟨g, k, T, C, p, hT, hw⟩ := hl
  have eT : z.F 17 2 = nI T := hw.2.2.2.2.2.2.2.2.1
  have eM : z.F 39 10 = nI T := hw.2.2.2.2.2.2.2.2.2.1
  have c1 := c_tick z hz x
  by_cases hB : inB x 0 1000
  · obtain ⟨N, hN, rfl⟩ := inB_nat (n := 1000) rfl hB
    have hps : psOK (nI N) z ↔ T + N ≤ 1000000 := by
      unfold psOK
      rw [eT, show (1000000 : Int32) = nI 1000000 from rfl, pk_sub (by omega), nI_leI (by omega) (by omega)]
      exact ⟨fun h9 => by have := h9.2; omega, fun h9 => ⟨hB, by omega⟩⟩
    by_cases ok : T + N ≤ 1000000
    · rw [if_pos (hps.mpr ok), if_pos (hps.mpr ok), nI_clamp (by omega), eT, nI_add] at c1
      have s1 : SM z (ps N (nI (T + N)) z) := SM_ps N _ z
      have c2 := c_Mod_tick (ps N (nI (T + N)) z) (by
        obtain ⟨q1, q2, q3⟩ := hml
        refine ⟨?_, ?_, ?_⟩
        · rw [s1.2.1]; exact q1
        · rw [s1.2.1]; exact q2
        · rw [s1.1 46 (by decide)]; exact q3) (nI N)
      have htk : tkOK (nI N) (ps N (nI (T + N)) z) := by
        refine ⟨hB, ?_⟩
        rw [s1.2.1, eM, nI_add]
        exact nI_le (b := 1000000) ok (by omega)
      rw [if_pos htk, if_pos htk, nI_clamp (by omega)] at c2
      generalize hm : ps N (nI (T + N)) z = m at s1 c1 c2
      have ht2 : TR z (stF m 39 0 0) n row := ht.sd (SD.rf z) (s1.n.tr (SN_F0 m _))
      have hnr2 : NR z (stF m 39 0 0) := hnr.c rfl (s1.1 43 (by decide))
      have hw2 : LW n c row g k T T C p (z.F 17) ((stF m 39 0 0).F 39) := hw.c rfl (fun j hj => by rw [F_oth _ _ _ _ hj, s1.2.1])
      obtain ⟨g', k', C', hw3⟩ := LW_ps (G := T + N) ok N z (stF m 39 0 0) g k T C p ht2 hnr2 hw2 (by omega) (by omega)
      rw [show T + N - T = N by omega, hm] at hw3
      have hR1 : RR (c + 1) z (stF m 39 0 0) := hR.up.c (SD.rf z) (s1.n.tr (SN_F0 m _))
      have ht3 : TR m (tks N (stF m 39 0 0)) n row := ht2.c (by rw [← hm, Fi_ps (by decide)]) (Fo_tks (by decide) _ _) (fun a _ _ _ => by rw [← hm, A_ps]) (fun a _ _ => by rw [A_tks])
      have hl3 : LV n c row (m.F 17) ((tks N (stF m 39 0 0)).F 39) := ⟨g', k', T + N, C', p, ok, hw3⟩
      have e := hl3.lit ht3
      rw [← e] at c2
      have hR2 : RR (c + 1) m (tks N (stF m 39 0 0)) := RR_tray hR1 ⟨n, row, ht3, hl3.up⟩ (fun a _ _ => by rw [← hm, A_ps]) (fun i _ h2 _ => by rw [← hm, Fi_ps h2]) (by rw [← hm, K_ps]) (fun a _ => by rw [A_tks]) (by rw [A_tks]) (fun j h1 h2 _ => by rw [Fo_tks h1])
      exact OK1.mk m _ ⟨_, rfl⟩ c1 c2 (by decide) (by decide) (by decide) (by decide) (by decide) (by decide) ((SD_F m _ _).tr (SD_tks _ _)) s1 hR2
    · rw [if_neg (fun h9 => ok (hps.mp h9)), if_neg (fun h9 => ok (hps.mp h9))] at c1
      have c2 := c_Mod_tick z hml (nI N)
      have htk : ¬ tkOK (nI N) z := fun h9 => ok (by
        have h8 := h9.2
        rw [eM, nI_add] at h8
        exact (nI_leI (b := 1000000) (by omega) (by omega)).mp h8)
      rw [if_neg htk, if_neg htk] at c2
      exact OK1.mk z _ ⟨_, rfl⟩ c1 c2 (by decide) (by decide) (by decide) (by decide) (by decide) (by decide) (SD_F z _ _) (SM.rf z) (hR.up.c (SD.rf z) (SN_F0 z _))
  · rw [if_neg (fun h9 => hB h9.1), if_neg (fun h9 => hB h9.1)] at c1
    have c2 := c_Mod_tick z hml x
    rw [if_neg (fun h9 => hB h9.1), if_neg (fun h9 => hB h9.1)] at c2
    exact OK1.mk z _ ⟨_, rfl⟩ c1 c2 (by decide) (by decide) (by decide) (by decide) (by decide) (by decide) (SD_F z _ _) (SM.rf z) (hR.up.c (SD.rf z) (SN_F0 z _))
end Calls3
