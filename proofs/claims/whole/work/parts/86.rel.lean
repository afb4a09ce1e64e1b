/-! THE RELATION between desk and model, whole -/
def PR (d m : Sg) (t : Nat) : Prop := d.F 22 1 = nI t ∧ m.F 39 31 = nI t ∧ t ≤ 26 ∧ ∀ j, j < t → ∃ b : Nat, b < 256 ∧ d.A 23 j = nI b ∧ m.A 54 j = vp_nar .byte (nI b)
def HR (d m : Sg) : Prop := ∀ j, j < 26 → d.A 33 j = m.A 59 j ∧ ∃ s, s ≤ 1000 ∧ m.A 59 j = nI s
def PL (d : Sg) : Prop := d.A 36 0 = 0 ∧ enOK d
def RR (c : Nat) (d m : Sg) : Prop := (∃ n row, TR d m n row ∧ LV n c row (d.F 17) (m.F 39)) ∧ SR d m ∧ NR d m ∧ (∃ N, BR d m N) ∧ (∃ t, PR d m t) ∧ HR d m ∧ PL d
theorem SM.n {z z' : Sg} (h : SM z z') : SN z z' := ⟨h.1, fun j _ => by rw [h.2.1]⟩
theorem SN_z00 (z : Sg) : SN z (z00 z) := ⟨fun _ _ => rfl, fun j h => F_oth z 39 0 0 h⟩
theorem SN_F0 (z : Sg) (v : Int32) : SN z (stF z 39 0 v) := ⟨fun _ _ => rfl, fun j h => F_oth z 39 0 v h⟩
theorem SN.rf (z : Sg) : SN z z := ⟨fun _ _ => rfl, fun _ _ => rfl⟩
theorem SN.tr {a b c : Sg} (h : SN a b) (k : SN b c) : SN a c := ⟨fun i hi => (k.1 i hi).trans (h.1 i hi), fun i hi => (k.2 i hi).trans (h.2 i hi)⟩
theorem LW.c {n c : Nat} {row : Nat → List Nat} {g k Td Tm C p : Nat} {dF mF dF' mF' : Nat → Int32} (h : LW n c row g k Td Tm C p dF mF) (hd : dF' = dF) (hm : ∀ j, ¬ j = 0 → mF' j = mF j) : LW n c row g k Td Tm C p dF' mF' := by
  unfold LW
  rw [hd, hm 11 (by decide), hm 12 (by decide), hm 10 (by decide), hm 14 (by decide), hm 15 (by decide), hm 16 (by decide), hm 13 (by decide), hm 17 (by decide)]
  exact h
theorem LV.c {n c : Nat} {row : Nat → List Nat} {dF mF dF' mF' : Nat → Int32} (h : LV n c row dF mF) (hd : dF' = dF) (hm : ∀ j, ¬ j = 0 → mF' j = mF j) : LV n c row dF' mF' := by
  obtain ⟨g, k, T, C, p, h1, h2⟩ := h
  exact ⟨g, k, T, C, p, h1, h2.c hd hm⟩
theorem LV.up {n c : Nat} {row : Nat → List Nat} {dF mF : Nat → Int32} (h : LV n c row dF mF) : LV n (c + 1) row dF mF := by
  obtain ⟨g, k, T, C, p, h1, a1, a2, a3, a4, a5⟩ := h
  exact ⟨g, k, T, C, p, h1, a1, a2, a3, by omega, a5⟩
theorem PR.c {d m d' m' : Sg} {t : Nat} (h : PR d m t) (h1 : d'.F 22 1 = d.F 22 1) (h2 : m'.F 39 31 = m.F 39 31) (h3 : d'.A 23 = d.A 23) (h4 : m'.A 54 = m.A 54) : PR d' m' t := by
  unfold PR
  rw [h1, h2, h3, h4]
  exact h
theorem HR.c {d m d' m' : Sg} (h : HR d m) (h1 : d'.A 33 = d.A 33) (h2 : m'.A 59 = m.A 59) : HR d' m' := by
  unfold HR
  rw [h1, h2]
  exact h
theorem PL.c {d d' : Sg} (h : PL d) (h1 : d'.A 36 = d.A 36) (h2 : d'.A 38 = d.A 38) : PL d' := by
  unfold PL enOK
  rw [h1, h2]
  exact h
theorem SR.c {d m d' m' : Sg} (h : SR d m) (hd : SD d d') (hm : SN m m') : SR d' m' := by
  obtain ⟨r, sd, o, k, h⟩ := h
  exact ⟨r, sd, o, k, h.c hd.2.2.1 hd.2.2.2.1 hd.2.2.2.2.1 hd.2.2.2.2.2.1 (hd.2.1 18 (by decide)) (hm.2 _ (by decide)) (hm.2 _ (by decide)) (hm.2 _ (by decide)) (fun a h1 h2 => hm.1 a (by omega))⟩
theorem TR.sd {d m d' m' : Sg} {n : Nat} {row : Nat → List Nat} (h : TR d m n row) (hd : SD d d') (hm : SN m m') : TR d' m' n row := h.c (by rw [hd.2.1 6 (by decide)]) (hm.2 _ (by decide)) (fun a _ h2 _ => hd.1 a (by omega)) (fun a h1 _ => hm.1 a h1)
theorem RR.c {c : Nat} {d m d' m' : Sg} (h : RR c d m) (hd : SD d d') (hm : SN m m') : RR c d' m' := by
  obtain ⟨⟨n, row, a1, a2⟩, b, e, ⟨N, f⟩, ⟨t, g⟩, i, j⟩ := h
  refine ⟨⟨n, row, a1.sd hd hm, a2.c (hd.2.1 17 (by decide)) hm.2⟩, b.c hd hm, e.c (hd.1 _ (by decide)) (hm.1 _ (by decide)), ⟨N, f.c (by rw [hd.2.1 24 (by decide)]) (hm.2 _ (by decide)) (hd.1 _ (by decide)) (hd.1 _ (by decide)) (hd.1 _ (by decide)) (hm.1 _ (by decide)) (hm.1 _ (by decide)) (hm.1 _ (by decide))⟩, ⟨t, g.c (by rw [hd.2.1 22 (by decide)]) (hm.2 _ (by decide)) (hd.1 _ (by decide)) (hm.1 _ (by decide))⟩, i.c (hd.1 _ (by decide)) (hm.1 _ (by decide)), j.c (hd.1 _ (by decide)) (hd.1 _ (by decide))⟩
theorem RR.up {c : Nat} {d m : Sg} (h : RR c d m) : RR (c + 1) d m := by
  obtain ⟨⟨n, row, a1, a2⟩, b⟩ := h
  exact ⟨⟨n, row, a1, a2.up⟩, b⟩
/-- what one call leaves: the same answer, the relation -/
def OK1 (T : Option Value → Prop) (c : Nat) (z : Sg) (yD yM : MI) (vs : List Value) : Prop := ∃ (a : Option Value) (z1 z2 : Sg), T a ∧ EM yD 7 13 39 (.ref 3 :: vs) (hp z) (Det a (hp z1)) ∧ EM yM 30 2 10 (.ref 39 :: vs) (hp z1) (Det a (hp z2)) ∧ RR (c + 1) z2 z2 ∧ z1.X = z.X ∧ z2.X = z1.X
abbrev isI (a : Option Value) : Prop := ∃ v : Int32, a = some (.int v)
abbrev isJ (a : Option Value) : Prop := ∃ v : Int64, a = some (.long v)
abbrev isV (a : Option Value) : Prop := a = none
/-- two states, one behind the other: the desk's step, then the model's -/
theorem OK1.mk {T : Option Value → Prop} {c : Nat} {z : Sg} {yD yM : MI} {vs : List Value} (z1 z2 : Sg) {a : Option Value} {dD dM kD nD kM nM : Nat} (hT : T a) (h1 : EM yD dD kD nD (.ref 3 :: vs) (hp z) (Det a (hp z1))) (h2 : EM yM dM kM nM (.ref 39 :: vs) (hp z1) (Det a (hp z2))) (hd : dD ≤ 7) (hk : kD ≤ 13) (hn : nD ≤ 39) (hm : dM ≤ 30) (hk2 : kM ≤ 2) (hn2 : nM ≤ 10) (s2 : SD z1 z2) (s1 : SM z z1) (hR : RR (c + 1) z1 z2) : OK1 T c z yD yM vs :=
  ⟨a, z1, z2, hT, h1.mono hd hk hn, h2.mono hm hk2 hn2, hR.c s2 (SN.rf z2), s1.2.2, s2.2.2.2.2.2.2⟩
theorem ltN_nat {x : Int32} {n : Nat} (hn : n < 2 ^ 31) (h : ltN x (nI n)) : ∃ j, j < n ∧ x = nI j := by
  obtain ⟨h1, h2⟩ := h
  rw [nI_toInt hn] at h2
  refine ⟨x.toInt.toNat, by omega, ?_⟩
  rw [i32_eq, nI_toInt (by omega)]
  omega
theorem nat_ltN {j n : Nat} (hj : j < n) (hn : n < 2 ^ 31) : ltN (nI j) (nI n) := ⟨by rw [nI_toInt (by omega)]; omega, by rw [nI_toInt (by omega), nI_toInt hn]; omega⟩
section Calls
variable {c : Nat} {z : Sg}
theorem s_told (h : RR c z z) (x w : Int32) : OK1 isI c z mDesk_told mMod_told [.int x, .int w] := by
  have hR := h
  obtain ⟨⟨n, row, ht, -⟩, -⟩ := h
  have hn := ht.n60
  have hz : (z.F 6 10).toInt ≤ 60 := by rw [ht.1.1, nI_toInt (by omega)]; omega
  have hz2 : (z.F 39 5).toInt ≤ 60 := by rw [ht.1.2.1, nI_toInt (by omega)]; omega
  have e : toldD z x w = toldM z x w := by
    unfold toldD toldM
    rw [ht.1.1, ht.1.2.1]
    by_cases hx : ltN x (nI n)
    · rw [if_pos hx, if_pos hx]
      obtain ⟨j, hj, rfl⟩ := ltN_nat (by omega) hx
      obtain ⟨t1, t2, t3⟩ := ht.1.2.2.2.2.1 j hj
      rw [tg_at ht.1.1 hn hj, tg_at ht.1.1 hn hj, tg_at ht.1.1 hn hj, tg_at ht.1.1 hn hj, tg_at ht.1.1 hn hj, nI_clamp (by omega), t1, t2, t3, ht.same hj, (ht.2.2.1 j hj).2.1]
      have h4 : nI (row j).length = (if z.A 40 j = 0 then z.A 46 j else 0) := by
        by_cases hk : z.A 40 j = 0
        · rw [if_pos hk, ht.many hj]
        · rw [if_neg hk]
          rcases Nat.eq_zero_or_pos (row j).length with h9 | h9
          · rw [h9]; rfl
          · have hx : (row j)[0]? = some (row j)[0] := List.getElem?_eq_getElem h9
            generalize (row j)[0] = y at hx
            obtain ⟨y1, y2, -, y3, -⟩ := ht.2.2.2.1 j 0 y hj hx
            obtain ⟨g, g1, g2, g3⟩ := ht.1.2.2.2.2.2.2.1 y y1 y2
            rw [y3, nI_eq (by omega) (by omega)] at g2
            rw [g2] at hk
            exact absurd g3 hk
      rw [h4]
    · rw [if_neg hx, if_neg hx]
  have c1 := c_told z hz x w
  have c2 := c_Mod_told z hz2 x w
  rw [← e] at c2
  exact OK1.mk z _ ⟨_, rfl⟩ c1 c2 (by decide) (by decide) (by decide) (by decide) (by decide) (by decide) (SD_F z _ _) (SM.rf z) (hR.up.c (SD.rf z) (SN_F0 z _))
theorem s_state (h : RR c z z) (w : Int32) : OK1 isI c z mDesk_state mMod_state [.int w] := by
  have hR := h
  obtain ⟨⟨n, row, ht, hl⟩, hs, -⟩ := h
  have hlit := hl.lit ht
  have hml := hl.ml ht
  obtain ⟨r, sd, o, k, hs⟩ := hs
  have e : (if w = 7 then z.F 18 4 else tellF z w) = stM z w := by
    obtain ⟨g, k', T, C, p, -, a1, a2, a3, a4, a5, a6, a7, a8, a9, b1, b2, b3, b4, b5, b6, b7, -⟩ := hl
    unfold tellF stM
    rw [a9, b1, a5, a6, hlit, b7, b2, b3, b4, b5, b6, hs.2.2.2.1, hs.2.2.2.2.1]
    by_cases h7 : w = 7
    · rw [if_pos h7, h7]
      simp only [Int32.reduceToInt, Int.reduceEq, if_false, if_true, reduceIte]
    · rw [if_neg h7]
      have : ¬ w.toInt = 7 := fun h9 => h7 (i32_eq.mpr (by rw [h9]; rfl))
      rw [if_neg this]
  have c1 := c_state z w
  have c2 := c_Mod_state z hml w
  rw [← e] at c2
  exact OK1.mk z _ ⟨_, rfl⟩ c1 c2 (by decide) (by decide) (by decide) (by decide) (by decide) (by decide) (SD_F z _ _) (SM.rf z) (hR.up.c (SD.rf z) (SN_F0 z _))
theorem s_length (h : RR c z z) (w : Int32) : OK1 isI c z mDesk_length mMod_length [.int w] := by
  have hR := h
  obtain ⟨-, ⟨r, sd, o, k, hs⟩, -⟩ := h
  obtain ⟨⟨a1, a2, a3, a4, a5⟩, b, -⟩ := hs
  have key : ∃ rs : List Int32, (∀ s, z.S = some s → ch z.D s rs) ∧ (if z.S = none then (-1 : Int32) else nI rs.length) = z.F 39 25 := by
    cases sd with
    | none => exact ⟨[], fun s hs => by rw [b.1] at hs; exact absurd hs (by simp), by rw [if_pos b.1, b.2]⟩
    | some rs =>
      obtain ⟨s, b1, b2⟩ := b
      exact ⟨rs, fun s' hs => by rw [b1] at hs; exact Option.some.inj hs ▸ b2.1, by rw [if_neg (by rw [b1]; simp), b2.2.2.2.1]⟩
  obtain ⟨rs, k1, k2⟩ := key
  have c1 := c_length z a1 rs k1 w
  have c2 := c_Mod_length z w
  rw [k2, ← a4] at c1
  exact OK1.mk z _ ⟨_, rfl⟩ c1 c2 (by decide) (by decide) (by decide) (by decide) (by decide) (by decide) (SD_F z _ _) (SM.rf z) (hR.up.c (SD.rf z) (SN_F0 z _))
theorem s_near (h : RR c z z) (x v : Int32) : OK1 isI c z mDesk_near mMod_near [.int x, .int v] := by
  have hR := h
  obtain ⟨⟨n, row, ht, hl⟩, -⟩ := h
  have c1 := c_near z x v
  have c2 := c_Mod_near ht.mt x v
  have e : (if isL x ∧ isL v then b2i (nbP z x v) else (-1)) = (if isL x ∧ isL v then b2i (arn z x v n 0 = true) else (-1)) := by
    by_cases h9 : isL x ∧ isL v
    · rw [if_pos h9, if_pos h9]
      have h8 := ht.near h9.1 h9.2
      by_cases h7 : nbP z x v
      · rw [b2i_t h7, b2i_t (h8.mp h7)]
      · rw [b2i_f h7, b2i_f (fun h6 => h7 (h8.mpr h6))]
    · rw [if_neg h9, if_neg h9]
  rw [← e] at c2
  exact OK1.mk z _ ⟨_, rfl⟩ c1 c2 (by decide) (by decide) (by decide) (by decide) (by decide) (by decide) (SD_F z _ _) (SM.rf z) (hR.up.c (SD.rf z) (SN_F0 z _))
theorem s_share (h : RR c z z) (x v : Int32) : OK1 isI c z mDesk_share mMod_share [.int x, .int v] := by
  obtain ⟨a1, a2, a3, a4, a5, a6, a7⟩ := h.up
  have c1 := c_share z x v
  by_cases ok : shareOK x v
  · rw [if_pos ok] at c1
    have c2 := c_Mod_share (stA z 33 (upd (z.A 33) (x - 97).toNatClampNeg v)) x v
    rw [if_pos ok] at c2
    have s1 : SM z (stA z 33 (upd (z.A 33) (x - 97).toNatClampNeg v)) := SM_A z (by decide) _
    refine OK1.mk _ _ ⟨_, rfl⟩ c1 c2 (by decide) (by decide) (by decide) (by decide) (by decide) (by decide) ((SD_F _ _ _).tr (SD_A _ (by decide) _)) s1 ⟨?_, ?_, ?_, ?_, ?_, ?_, ?_⟩
    · exact a1
    · exact a2
    · exact a3
    · exact a4
    · exact a5
    · obtain ⟨j, hj, hj2, -⟩ := letter_sub ok.1
      obtain ⟨s, s1, s2⟩ := inB_nat (n := 1000) rfl ok.2
      intro i hi
      show upd (z.A 33) (x - 97).toNatClampNeg v i = upd (z.A 59) (x - 97).toNatClampNeg v i ∧ ∃ s, s ≤ 1000 ∧ upd (z.A 59) (x - 97).toNatClampNeg v i = nI s
      rw [hj2, nI_clamp (by omega)]
      by_cases e : i = j
      · rw [e, pk_us, pk_us]
        exact ⟨rfl, s, s1, s2⟩
      · rw [pk_un e, pk_un e]
        exact a6 i hi
    · exact a7
  · rw [if_neg ok] at c1
    have c2 := c_Mod_share z x v
    rw [if_neg ok] at c2
    exact OK1.mk z _ ⟨_, rfl⟩ c1 c2 (by decide) (by decide) (by decide) (by decide) (by decide) (by decide) (SD_F z _ _) (SM.rf z) (h.up.c (SD.rf z) (SN_F0 z _))
theorem s_set (h : RR c z z) (w v : Int32) : OK1 isI c z mDesk_set mMod_set [.int w, .int v] := by
  obtain ⟨a1, a2, a3, a4, a5, a6, a7⟩ := h.up
  have c1 := c_set z w v
  by_cases ok : setOK w v
  · rw [if_pos ok] at c1
    have c2 := c_Mod_set (stA z 5 (upd (z.A 5) w.toNatClampNeg v)) w v
    rw [if_pos ok] at c2
    have s1 : SM z (stA z 5 (upd (z.A 5) w.toNatClampNeg v)) := SM_A z (by decide) _
    refine OK1.mk _ _ ⟨_, rfl⟩ c1 c2 (by decide) (by decide) (by decide) (by decide) (by decide) (by decide) ((SD_gset _).tr (SD_A _ (by decide) _)) s1 ⟨?_, ?_, ?_, ?_, ?_, ?_, ?_⟩
    · exact a1
    · exact a2
    · obtain ⟨o1, o2⟩ := ok
      obtain ⟨j, hj, rfl⟩ := inB_nat (n := 4) rfl o1
      rw [nI_clamp (by omega)] at o2
      obtain ⟨n1, n2, n3, n4, n5, n6⟩ := a3
      unfold NR
      show (∀ i, i < 5 → upd (z.A 5) (nI j).toNatClampNeg v i = upd (z.A 43) (nI j).toNatClampNeg v i) ∧ (∃ s, 1 ≤ s ∧ s ≤ 50 ∧ upd (z.A 43) (nI j).toNatClampNeg v 0 = nI s) ∧ (∃ s, s ≤ 9 ∧ upd (z.A 43) (nI j).toNatClampNeg v 1 = nI s) ∧ (∃ s, s ≤ 20 ∧ upd (z.A 43) (nI j).toNatClampNeg v 2 = nI s) ∧ (∃ s, s ≤ 20 ∧ upd (z.A 43) (nI j).toNatClampNeg v 3 = nI s) ∧ (∃ s, s ≤ 50 ∧ upd (z.A 43) (nI j).toNatClampNeg v 4 = nI s)
      rw [nI_clamp (by omega)]
      have num : ∀ (a b : Nat), inB v (nI a) (nI b) → b < 2 ^ 31 → a ≤ b → ∃ s, a ≤ s ∧ s ≤ b ∧ v = nI s := by
        intro a b hv hb hab
        obtain ⟨h1, h2⟩ := hv
        rw [nI_toInt (by omega)] at h1 h2
        exact ⟨v.toInt.toNat, by omega, by omega, by rw [i32_eq, nI_toInt (by omega)]; omega⟩
      refine ⟨fun i hi => ?_, ?_, ?_, ?_, ?_, ?_⟩
      · by_cases e : i = j
        · rw [e, pk_us, pk_us]
        · rw [pk_un e, pk_un e]
          exact n1 i hi
      · by_cases e : 0 = j
        · rw [← e] at o2 ⊢
          rw [pk_us]
          exact num 1 50 o2 (by decide) (by decide)
        · rw [pk_un e]; exact n2
      · by_cases e : 1 = j
        · rw [← e] at o2 ⊢
          rw [pk_us]
          obtain ⟨s, -, s2, s3⟩ := num 1 9 o2 (by decide) (by decide)
          exact ⟨s, s2, s3⟩
        · rw [pk_un e]; exact n3
      · by_cases e : 2 = j
        · rw [← e] at o2 ⊢
          rw [pk_us]
          obtain ⟨s, -, s2, s3⟩ := num 0 20 o2 (by decide) (by decide)
          exact ⟨s, s2, s3⟩
        · rw [pk_un e]; exact n4
      · by_cases e : 3 = j
        · rw [← e] at o2 ⊢
          rw [pk_us]
          obtain ⟨s, -, s2, s3⟩ := num 0 20 o2 (by decide) (by decide)
          exact ⟨s, s2, s3⟩
        · rw [pk_un e]; exact n5
      · by_cases e : 4 = j
        · rw [← e] at o2 ⊢
          rw [pk_us]
          obtain ⟨s, -, s2, s3⟩ := num 0 50 o2 (by decide) (by decide)
          exact ⟨s, s2, s3⟩
        · rw [pk_un e]; exact n6
    · exact a4
    · exact a5
    · exact a6
    · exact a7
  · rw [if_neg ok] at c1
    have c2 := c_Mod_set z w v
    rw [if_neg ok] at c2
    exact OK1.mk z _ ⟨_, rfl⟩ c1 c2 (by decide) (by decide) (by decide) (by decide) (by decide) (by decide) (SD_gset z) (SM.rf z) (h.up.c (SD.rf z) (show SN z (gset z) from SN_F0 z _))
end Calls
