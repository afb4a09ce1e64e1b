/-! word: both sides -/
theorem RR_book {c : Nat} {d m d' m' : Sg} (h : RR c d m) (hb : ∃ N, BR d' m' N) (hp' : ∃ t, PR d' m' t) (hA : ∀ a, ¬ (25 ≤ a ∧ a ≤ 27) → ¬ a = 23 → d'.A a = d.A a) (hF : ∀ i, ¬ i = 22 → ¬ i = 24 → d'.F i = d.F i) (hK : d'.2.2 = d.2.2) (hM : ∀ a, 40 ≤ a → ¬ (54 ≤ a ∧ a ≤ 57) → m'.A a = m.A a) (hG : ∀ j, ¬ j = 0 → ¬ j = 31 → ¬ j = 32 → m'.F 39 j = m.F 39 j) : RR c d' m' := by
  obtain ⟨⟨n, row, a1, a2⟩, ⟨r, sd, o, k, b⟩, e, -, -, i, j⟩ := h
  refine ⟨⟨n, row, a1.c (by rw [hF 6 (by decide) (by decide)]) (hG _ (by decide) (by decide) (by decide)) (fun a h1 h2 _ => hA a (by omega) (by omega)) (fun a h1 h2 => hM a h1 (by omega)), ?_⟩, ⟨r, sd, o, k, b.c (congrArg (fun q => q.2.1.1) hK) (congrArg (fun q => q.2.1.2) hK) (congrArg (fun q => q.2.2.1) hK) ⟨[], by rw [List.append_nil]; exact congrArg (fun q => q.2.2.2.2) hK⟩ (hF 18 (by decide) (by decide)) (hG _ (by decide) (by decide) (by decide)) (hG _ (by decide) (by decide) (by decide)) (hG _ (by decide) (by decide) (by decide)) (fun a h1 h2 => hM a (by omega) (by omega))⟩, e.c (hA _ (by decide) (by decide)) (hM _ (by decide) (by decide)), hb, hp', i.c (hA _ (by decide) (by decide)) (hM _ (by decide) (by decide)), j.c (hA _ (by decide) (by decide)) (hA _ (by decide) (by decide))⟩
  obtain ⟨g, k', T, C, p, h1, h2⟩ := a2
  refine ⟨g, k', T, C, p, h1, ?_⟩
  unfold LW at h2 ⊢
  rw [hF 17 (by decide) (by decide), hG 11 (by decide) (by decide) (by decide), hG 12 (by decide) (by decide) (by decide), hG 10 (by decide) (by decide) (by decide), hG 14 (by decide) (by decide) (by decide), hG 15 (by decide) (by decide) (by decide), hG 16 (by decide) (by decide) (by decide), hG 13 (by decide) (by decide) (by decide), hG 17 (by decide) (by decide) (by decide)]
  exact h2
theorem s_word {c : Nat} {z : Sg} (h : RR c z z) (x : Int32) : OK1 isI c z mDesk_word mMod_word [.int x] := by
  have hR := h
  obtain ⟨-, -, -, ⟨N, hb⟩, ⟨t, hp'⟩, -⟩ := h
  have ht := hp'.2.2.1
  have hN := hb.2.2.1
  have c1 := c_word hb.bk ht hp'.1 x
  have hok : wOK z t x ↔ mwOK z t x := by
    unfold wOK mwOK wdP mAll
    constructor
    · rintro ⟨a, b, e, f⟩
      exact ⟨⟨e, fun j hj => (hp'.lt hj).1.mp (f j hj)⟩, b, a⟩
    · rintro ⟨⟨e, f⟩, b, a⟩
      exact ⟨a, b, e, fun j hj => (hp'.lt hj).1.mpr (f j hj)⟩
  -- the model's side, over a state with the model's parts of z
  have cM : ∀ z1, SN z z1 → EM mMod_word 2 0 0 [.ref 39, .int x] (hp z1) (Det (some (.int (if mwOK z1 t x then mwR (stF z1 39 0 0) N t (mfn (stF z1 39 0 0) t N 0) else (-1)))) (hp (if mwOK z1 t x then mwZ (stF z1 39 0 0) N t (mfn (stF z1 39 0 0) t N 0) x else stF z1 39 0 0))) := fun z1 hs => c_Mod_word hN ht z1 (by rw [hs.2 _ (by decide)]; exact hp'.2.1) (by rw [hs.2 _ (by decide)]; exact hb.2.1) x
  have okc : ∀ z1, SN z z1 → (mwOK z1 t x ↔ mwOK z t x) := fun z1 hs => by
    unfold mwOK mAll
    rw [hs.1 54 (by decide)]
  by_cases ok : mwOK z t x
  · have okd := hok.mpr ok
    simp only [if_pos okd] at c1
    have hL := ok.1.2
    have fb : ∀ z1, SN z z1 → (fnd z 23 26 t N 0 = -1 ∧ mfn (stF z1 39 0 0) t N 0 = N) ∨ ∃ V, V < N ∧ fnd z 23 26 t N 0 = nI V ∧ mfn (stF z1 39 0 0) t N 0 = V := fun z1 hs => by
      have hs2 := hs.tr (SN_F0 z1 0)
      exact find_both (hb.n hs2) (hp'.c rfl (hs2.2 _ (by decide)) rfl (hs2.1 _ (by decide))) (fun j hj => by rw [hs2.1 54 (by decide)]; exact hL j hj) N 0 (by omega)
    have hcut : ∀ w : Sg, w.F 22 1 = nI t → inB 0 0 (w.F 22 1) := fun w hw => by
      rw [hw]
      exact ⟨by decide, by rw [nI_toInt (by omega)]; simp only [Int32.reduceToInt]; omega⟩
    rcases fb z (SN.rf z) with ⟨f1, -⟩ | ⟨V, hV, f1, -⟩
    · by_cases h40 : N < 40
      · -- a new word
        have e1 : wNum z N t = nI N := by unfold wNum; rw [if_pos f1, if_pos h40]
        have e2 : wBook z N t = badd z N t := by unfold wBook; rw [if_pos f1, if_pos h40]
        have e3 : wPut (badd z N t) (nI N) x = stA (badd z N t) 27 (upd (z.A 27) N x) := by
          unfold wPut
          rw [if_pos (show ltN (nI N) ((badd z N t).F 24 3) from nat_ltN (n := N + 1) (by omega) (by omega)), nI_clamp (by omega)]
          rfl
        rw [e1, e2, e3, if_neg (nI_m1 (by omega)), if_pos (hcut (stA (badd z N t) 27 (upd (z.A 27) N x)) hp'.1)] at c1
        have s1 : SM z (stF (stA (badd z N t) 27 (upd (z.A 27) N x)) 22 1 0) := (SM_badd z N t).tr ((SM_A _ (by decide) _).tr (SM_F _ (by decide) _ _))
        have c2 := cM _ s1.n
        have f2 := fb _ s1.n
        generalize hz1 : stF (stA (badd z N t) 27 (upd (z.A 27) N x)) 22 1 0 = z1 at s1 c1 c2 f2
        have f3 : mfn (stF z1 39 0 0) t N 0 = N := by
          rcases f2 with ⟨-, f3⟩ | ⟨V, hV, f3, -⟩
          · exact f3
          · rw [f1] at f3
            exact absurd f3.symm (nI_m1 (by omega))
        have okm := (okc _ s1.n).mpr ok
        rw [if_pos okm, if_pos okm, f3] at c2
        have e4 : mwR (stF z1 39 0 0) N t N = nI N := by unfold mwR; rw [if_neg (by omega)]
        have e5 : mwZ (stF z1 39 0 0) N t N x = mfi (mad (stF z1 39 0 0) N t) N x := by unfold mwZ; rw [if_neg (by omega), if_pos rfl]
        rw [e4, e5] at c2
        refine OK1.mk z1 _ ⟨_, rfl⟩ c1 c2 (by decide) (by decide) (by decide) (by decide) (by decide) (by decide) ((SD_F _ _ _).tr ((SD_mad _ _ _).tr (SD_mfi _ _ _))) s1 (RR_book (hR.up.c (SD.rf z) s1.n) ⟨N + 1, ?_, ?_, by omega, fun W hW => ?_⟩ ⟨0, ?_, ?_, by omega, fun j hj => absurd hj (by omega)⟩ (fun a h1 h2 => ?_) (fun i h1 h2 => ?_) ?_ (fun a h1 h2 => ?_) (fun j h1 h2 h3 => ?_))
        · rw [← hz1]; rfl
        · rfl
        · have m55 : (mfi (mad (stF z1 39 0 0) N t) N x).A 55 = (fun j => if 12 * N ≤ j ∧ j < 12 * N + t then vp_nar .byte (z1.A 54 (j - 12 * N)) else z1.A 55 j) := rfl
          have m56 : (mfi (mad (stF z1 39 0 0) N t) N x).A 56 = upd (z1.A 56) N (nI t) := rfl
          have m57 : (mfi (mad (stF z1 39 0 0) N t) N x).A 57 = upd (z1.A 57) N x := rfl
          have d25 : z1.A 25 = (fun j => if 12 * N ≤ j ∧ j < 12 * N + t then z.A 23 (j - 12 * N) else z.A 25 j) := by rw [← hz1]; rfl
          have d26 : z1.A 26 = upd (z.A 26) N (nI t) := by rw [← hz1]; rfl
          have d27 : z1.A 27 = upd (z.A 27) N x := by rw [← hz1]; rfl
          rw [m55, m56, m57, d25, d26, d27, s1.1 54 (by decide), s1.1 55 (by decide), s1.1 56 (by decide), s1.1 57 (by decide)]
          by_cases e : W = N
          · rw [e, pk_us, pk_us, pk_us, pk_us]
            refine ⟨⟨t, ok.1.1, ok.2.1, rfl, rfl, fun i hi => ?_⟩, rfl⟩
            dsimp only
            rw [if_pos (by omega), if_pos (by omega), Nat.add_sub_cancel_left, byL (hL i hi)]
            exact ⟨((hp'.lt hi).2 (hL i hi)).symm, hL i hi⟩
          · rw [pk_un e, pk_un e, pk_un e, pk_un e]
            obtain ⟨⟨L, l1, l2, l3, l4, l5⟩, l6⟩ := hb.2.2.2 W (by omega)
            refine ⟨⟨L, l1, l2, l3, l4, fun i hi => ?_⟩, l6⟩
            dsimp only
            rw [if_neg (by omega), if_neg (by omega)]
            exact l5 i hi
        · rw [← hz1]; rfl
        · rfl
        · rw [← hz1]
          unfold badd bcp
          rw [A_stF, A_stA, if_neg (by omega), A_stF, A_stA, if_neg (by omega), A_stA, if_neg (by omega)]
        · rw [← hz1, Fi_stF _ _ _ _ h1]
          unfold badd
          show (stF _ 24 3 _).F i = _
          rw [Fi_stF _ _ _ _ h2]
          rfl
        · rw [← hz1]; rfl
        · unfold mfi mad mcp
          rw [A_stF, A_stA, if_neg (by omega), A_stF, A_stA, if_neg (by omega), A_stA, if_neg (by omega)]
          rfl
        · unfold mfi mad
          rw [F_oth _ _ _ _ h2]
          show (stF _ 39 32 _).F 39 j = _
          rw [F_oth _ _ _ _ h3]
          exact F_oth _ _ _ _ h1
      · -- the book is full
        have e1 : wNum z N t = -1 := by unfold wNum; rw [if_pos f1, if_neg h40]
        have e2 : wBook z N t = z := by unfold wBook; rw [if_pos f1, if_neg h40]
        have e3 : wPut z (-1) x = z := by unfold wPut; rw [if_neg nl_m1]
        rw [e1, e2, e3, if_pos rfl] at c1
        have c2 := cM z (SN.rf z)
        have f3 : mfn (stF z 39 0 0) t N 0 = N := by
          rcases fb z (SN.rf z) with ⟨-, f3⟩ | ⟨V, hV, f3, -⟩
          · exact f3
          · rw [f1] at f3
            exact absurd f3.symm (nI_m1 (by omega))
        have e4 : mwR (stF z 39 0 0) N t N = -1 := by unfold mwR; rw [if_pos (by omega)]
        have e5 : mwZ (stF z 39 0 0) N t N x = stF z 39 0 0 := by unfold mwZ; rw [if_pos (by omega)]
        rw [if_pos ok, if_pos ok, f3, e4, e5] at c2
        exact OK1.mk z _ ⟨_, rfl⟩ c1 c2 (by decide) (by decide) (by decide) (by decide) (by decide) (by decide) (SD_F z _ _) (SM.rf z) (hR.up.c (SD.rf z) (SN_F0 z _))
    · -- one that is there
      have e1 : wNum z N t = nI V := by unfold wNum; rw [f1, if_neg (nI_m1 (by omega))]
      have e2 : wBook z N t = z := by unfold wBook; rw [f1, if_neg (nI_m1 (by omega))]
      have e3 : wPut z (nI V) x = stA z 27 (upd (z.A 27) V x) := by
        unfold wPut
        rw [if_pos (by rw [hb.1]; exact nat_ltN hV (by omega)), nI_clamp (by omega)]
      rw [e1, e2, e3, if_neg (nI_m1 (by omega)), if_pos (hcut (stA z 27 (upd (z.A 27) V x)) hp'.1)] at c1
      have s1 : SM z (stF (stA z 27 (upd (z.A 27) V x)) 22 1 0) := (SM_A _ (by decide) _).tr (SM_F _ (by decide) _ _)
      have c2 := cM _ s1.n
      have f2 := fb _ s1.n
      generalize hz1 : stF (stA z 27 (upd (z.A 27) V x)) 22 1 0 = z1 at s1 c1 c2 f2
      have f3 : mfn (stF z1 39 0 0) t N 0 = V := by
        rcases f2 with ⟨f3, -⟩ | ⟨V', g1, g2, g3⟩
        · rw [f1] at f3
          exact absurd f3 (nI_m1 (by omega))
        · rw [f1, nI_eq (by omega) (by omega)] at g2
          rw [g3, g2]
      have okm := (okc _ s1.n).mpr ok
      rw [if_pos okm, if_pos okm, f3] at c2
      have e4 : mwR (stF z1 39 0 0) N t V = nI V := by unfold mwR; rw [if_neg (by omega)]
      have e5 : mwZ (stF z1 39 0 0) N t V x = mfi (stF z1 39 0 0) V x := by unfold mwZ; rw [if_neg (by omega), if_neg (by omega)]
      rw [e4, e5] at c2
      refine OK1.mk z1 _ ⟨_, rfl⟩ c1 c2 (by decide) (by decide) (by decide) (by decide) (by decide) (by decide) ((SD_F _ _ _).tr (SD_mfi _ _ _)) s1 (RR_book (hR.up.c (SD.rf z) s1.n) ⟨N, ?_, ?_, hN, fun W hW => ?_⟩ ⟨0, ?_, ?_, by omega, fun j hj => absurd hj (by omega)⟩ (fun a h1 h2 => ?_) (fun i h1 h2 => ?_) ?_ (fun a h1 h2 => ?_) (fun j h1 h2 h3 => ?_))
      · rw [← hz1]; exact hb.1
      · show z1.F 39 32 = _
        rw [s1.2.1]
        exact hb.2.1
      · have m55 : (mfi (stF z1 39 0 0) V x).A 55 = z1.A 55 := rfl
        have m56 : (mfi (stF z1 39 0 0) V x).A 56 = z1.A 56 := rfl
        have m57 : (mfi (stF z1 39 0 0) V x).A 57 = upd (z1.A 57) V x := rfl
        have d25 : z1.A 25 = z.A 25 := by rw [← hz1]; rfl
        have d26 : z1.A 26 = z.A 26 := by rw [← hz1]; rfl
        have d27 : z1.A 27 = upd (z.A 27) V x := by rw [← hz1]; rfl
        rw [m55, m56, m57, d25, d26, d27, s1.1 55 (by decide), s1.1 56 (by decide), s1.1 57 (by decide)]
        obtain ⟨q1, q2⟩ := hb.2.2.2 W hW
        refine ⟨q1, ?_⟩
        by_cases e : W = V
        · rw [e, pk_us, pk_us]
        · rw [pk_un e, pk_un e]
          exact q2
      · rw [← hz1]; rfl
      · rfl
      · rw [← hz1, A_stF, A_stA, if_neg (by omega)]
      · rw [← hz1, Fi_stF _ _ _ _ h1]
        rfl
      · rw [← hz1]; rfl
      · unfold mfi
        rw [A_stF, A_stA, if_neg (by omega)]
        rfl
      · unfold mfi
        rw [F_oth _ _ _ _ h2]
        exact F_oth _ _ _ _ h1
  · have okd : ¬ wOK z t x := fun h9 => ok (hok.mp h9)
    simp only [if_neg okd] at c1
    rw [if_pos trivial] at c1
    have c2 := cM z (SN.rf z)
    rw [if_neg ok, if_neg ok] at c2
    exact OK1.mk z _ ⟨_, rfl⟩ c1 c2 (by decide) (by decide) (by decide) (by decide) (by decide) (by decide) (SD_F z _ _) (SM.rf z) (hR.up.c (SD.rf z) (SN_F0 z _))
