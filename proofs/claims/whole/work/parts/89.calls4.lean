/-! foreseen, offered, count, end, cost, feed: both sides -/
theorem RR_find {c : Nat} {d m d' m' : Sg} (h : RR c d m) (hA : ∀ a, ¬ (29 ≤ a ∧ a ≤ 31) → ¬ a = 34 → ¬ a = 37 → d'.A a = d.A a) (hF : ∀ i, ¬ i = 28 → d'.F i = d.F i) (hK : d'.2.2 = d.2.2) (hM : ∀ a, 40 ≤ a → ¬ a = 58 → m'.A a = m.A a) (hG : ∀ j, ¬ j = 0 → m'.F 39 j = m.F 39 j) : RR c d' m' := by
  obtain ⟨⟨n, row, a1, a2⟩, ⟨r, sd, o, k, b⟩, e, ⟨N, f⟩, ⟨t, g⟩, i, j⟩ := h
  refine ⟨⟨n, row, a1.c (by rw [hF 6 (by decide)]) (hG _ (by decide)) (fun a h1 h2 _ => hA a (by omega) (by omega) (by omega)) (fun a h1 h2 => hM a h1 (by omega)), a2.c (hF 17 (by decide)) hG⟩, ⟨r, sd, o, k, b.c (congrArg (fun q => q.2.1.1) hK) (congrArg (fun q => q.2.1.2) hK) (congrArg (fun q => q.2.2.1) hK) ⟨[], by rw [List.append_nil]; exact congrArg (fun q => q.2.2.2.2) hK⟩ (hF 18 (by decide)) (hG _ (by decide)) (hG _ (by decide)) (hG _ (by decide)) (fun a h1 h2 => hM a (by omega) (by omega))⟩, e.c (hA _ (by decide) (by decide) (by decide)) (hM _ (by decide) (by decide)), ⟨N, f.c (by rw [hF 24 (by decide)]) (hG _ (by decide)) (hA _ (by decide) (by decide) (by decide)) (hA _ (by decide) (by decide) (by decide)) (hA _ (by decide) (by decide) (by decide)) (hM _ (by decide) (by decide)) (hM _ (by decide) (by decide)) (hM _ (by decide) (by decide))⟩, ⟨t, g.c (by rw [hF 22 (by decide)]) (hG _ (by decide)) (hA _ (by decide) (by decide) (by decide)) (hM _ (by decide) (by decide))⟩, i.c (hA _ (by decide) (by decide) (by decide)) (hM _ (by decide) (by decide)), j.c (hA _ (by decide) (by decide) (by decide)) (hA _ (by decide) (by decide) (by decide))⟩
theorem fat_neg {z : Sg} {k : Int32} (h : k < 0) : fat z k = -1 := by
  unfold fat
  rw [if_neg]
  rintro ⟨h1, -⟩
  rw [i32_lt] at h
  simp only [Int32.reduceToInt] at h
  omega
section Calls4
variable {c : Nat} {z : Sg}
theorem SN_zfm {m z : Sg} (t n : Nat) (h : SN m z) : (∀ a, 40 ≤ a → ¬ a = 58 → (zfm t n z).A a = m.A a) ∧ ∀ j, ¬ j = 0 → (zfm t n z).F 39 j = m.F 39 j := by
  unfold zfm
  exact ⟨fun a h1 h2 => by rw [A_fmk _ _ h2]; exact h.1 a h1, fun j hj => by rw [F_fmk]; exact h.2 j hj⟩
theorem SN_zom {m z : Sg} (t n nn : Nat) (h : SN m z) : (∀ a, 40 ≤ a → ¬ a = 58 → (zom t n nn z).2.A a = m.A a) ∧ ∀ j, ¬ j = 0 → (zom t n nn z).2.F 39 j = m.F 39 j := by
  unfold zom
  exact ⟨fun a h1 h2 => by rw [A_omk _ _ _ h2]; exact h.1 a h1, fun j hj => by rw [F_omk]; exact h.2 j hj⟩
theorem s_foreseen (h : RR c z z) (k : Int32) : OK1 isI c z mDesk_foreseen mMod_foreseen [.int k] := by
  have hR := h
  obtain ⟨-, ⟨r, sd, o, kk, hs⟩, -, ⟨N, hb⟩, -⟩ := h
  have hl := hs.1.2.1
  have hX := hs.1.2.2.2.2
  have c1 := c_foreseen hb.bk hl hs.1.1 k
  have s1 : SM z (zsf z r N) := SM_zsf z r N
  have hs1 : SX z (zsf z r N) r sd o kk := hs.n s1.n
  have c2 := c_Mod_foreseen hs1.tx (hb.n s1.n).md k
  have s2 : SN z (z00 (zsf z r N)) := s1.n.tr (SN_z00 _)
  have hRd : ∀ m', (∀ a, 40 ≤ a → ¬ a = 58 → m'.A a = z.A a) → (∀ j, ¬ j = 0 → m'.F 39 j = z.F 39 j) → RR (c + 1) (zsf z r N) m' := fun m' h1 h2 => RR_find hR.up (fun a h3 _ _ => (AF_zsf z r N).1 a h3) (fun i h3 => funext fun j => F_zsf z r N h3 j) (K_zsf z r N) h1 h2
  by_cases hk : k < 0
  · rw [if_pos hk, if_pos hk] at c2
    rw [fat_neg hk] at c1
    exact OK1.mk _ _ ⟨_, rfl⟩ c1 c2 (by decide) (by decide) (by decide) (by decide) (by decide) (by decide) (SD_z00 _) s1 (hRd _ (fun a h1 _ => s2.1 a h1) s2.2)
  · rw [if_neg hk, if_neg hk, fore_rank hb hl hX (s2.1 _ (by decide)) (s2.1 _ (by decide)) (s2.1 _ (by decide)) (s2.1 _ (by decide))] at c2
    have s3 := SN_zfm r.length N s2
    exact OK1.mk _ _ ⟨_, rfl⟩ c1 c2 (by decide) (by decide) (by decide) (by decide) (by decide) (by decide) ((SD_z00 _).tr (SD_zfm _ _ _)) s1 (hRd _ s3.1 s3.2)
theorem s_offered (h : RR c z z) (k : Int32) : OK1 isI c z mDesk_offered mMod_offered [.int k] := by
  have hR := h
  obtain ⟨⟨n, row, ht, -⟩, ⟨r, sd, o, kk, hs⟩, -, ⟨N, hb⟩, -⟩ := h
  have hl := hs.1.2.1
  have hX := hs.1.2.2.2.2
  have c1 := c_offered hb.bk hl hs.1.1 k
  have s1 : SM z (zso z r N) := SM_zso z r N
  have hs1 : SX z (zso z r N) r sd o kk := hs.n s1.n
  have c2 := c_Mod_offered hs1.tx (hb.n s1.n).md (ht.n s1.n).mt k
  have s2 : SN z (z00 (zso z r N)) := s1.n.tr (SN_z00 _)
  have hRd : ∀ m', (∀ a, 40 ≤ a → ¬ a = 58 → m'.A a = z.A a) → (∀ j, ¬ j = 0 → m'.F 39 j = z.F 39 j) → RR (c + 1) (zso z r N) m' := fun m' h1 h2 => RR_find hR.up (fun a h3 _ _ => (AF_zso z r N).1 a h3) (fun i h3 => funext fun j => F_zso z r N h3 j) (K_zso z r N) h1 h2
  by_cases hk : k < 0
  · rw [if_pos hk, if_pos hk] at c2
    rw [fat_neg hk] at c1
    exact OK1.mk _ _ ⟨_, rfl⟩ c1 c2 (by decide) (by decide) (by decide) (by decide) (by decide) (by decide) (SD_z00 _) s1 (hRd _ (fun a h1 _ => s2.1 a h1) s2.2)
  · rw [if_neg hk, if_neg hk, off_rank (ht.n s2) (hb.n s2) hl (hs.n s2).1.2.2.2.2 (fun _ _ => rfl)] at c2
    have s3 := SN_zom r.length N n s2
    exact OK1.mk _ _ ⟨_, rfl⟩ c1 c2 (by decide) (by decide) (by decide) (by decide) (by decide) (by decide) ((SD_z00 _).tr (SD_zom _ _ _ _)) s1 (hRd _ s3.1 s3.2)
theorem SN_cfz {m : Sg} (t n : Nat) : ∀ (k i : Nat) (z : Sg), (∀ a, 40 ≤ a → ¬ a = 58 → z.A a = m.A a) → (∀ j, ¬ j = 0 → z.F 39 j = m.F 39 j) → (∀ a, 40 ≤ a → ¬ a = 58 → (cfz t n k i z).2.A a = m.A a) ∧ ∀ j, ¬ j = 0 → (cfz t n k i z).2.F 39 j = m.F 39 j := by
  have key : ∀ z : Sg, (∀ a, 40 ≤ a → ¬ a = 58 → z.A a = m.A a) → (∀ j, ¬ j = 0 → z.F 39 j = m.F 39 j) → (∀ a, 40 ≤ a → ¬ a = 58 → (zfm t n z).A a = m.A a) ∧ ∀ j, ¬ j = 0 → (zfm t n z).F 39 j = m.F 39 j := by
    intro z h1 h2
    unfold zfm
    exact ⟨fun a h3 h4 => by rw [A_fmk _ _ h4]; exact h1 a h3 h4, fun j hj => by rw [F_fmk]; exact h2 j hj⟩
  intro k
  induction k with
  | zero => intro i z h1 h2; exact key z h1 h2
  | succ k ih =>
    intro i z h1 h2
    rw [cfz]
    split
    · exact key z h1 h2
    · exact ih (i + 1) _ (key z h1 h2).1 (key z h1 h2).2
theorem SN_coz {m : Sg} (t n nn : Nat) : ∀ (k i : Nat) (z : Sg), (∀ a, 40 ≤ a → ¬ a = 58 → z.A a = m.A a) → (∀ j, ¬ j = 0 → z.F 39 j = m.F 39 j) → (∀ a, 40 ≤ a → ¬ a = 58 → (coz t n nn k i z).2.A a = m.A a) ∧ ∀ j, ¬ j = 0 → (coz t n nn k i z).2.F 39 j = m.F 39 j := by
  have key : ∀ z : Sg, (∀ a, 40 ≤ a → ¬ a = 58 → z.A a = m.A a) → (∀ j, ¬ j = 0 → z.F 39 j = m.F 39 j) → (∀ a, 40 ≤ a → ¬ a = 58 → (zom t n nn z).2.A a = m.A a) ∧ ∀ j, ¬ j = 0 → (zom t n nn z).2.F 39 j = m.F 39 j := by
    intro z h1 h2
    unfold zom
    exact ⟨fun a h3 h4 => by rw [A_omk _ _ _ h4]; exact h1 a h3 h4, fun j hj => by rw [F_omk]; exact h2 j hj⟩
  intro k
  induction k with
  | zero => intro i z h1 h2; exact key z h1 h2
  | succ k ih =>
    intro i z h1 h2
    rw [coz]
    split
    · exact key z h1 h2
    · exact ih (i + 1) _ (key z h1 h2).1 (key z h1 h2).2
theorem s_count (h : RR c z z) (w : Int32) : OK1 isI c z mDesk_count mMod_count [.int w] := by
  have hR := h
  obtain ⟨⟨n, row, ht, -⟩, ⟨r, sd, o, kk, hs⟩, -, ⟨N, hb⟩, ⟨t, hp'⟩, -⟩ := h
  have hl := hs.1.2.1
  have hX := hs.1.2.2.2.2
  have hN := hb.2.2.1
  have c1 := c_count hb.bk hl hs.1.1 w
  have s1 : SM z (cntZ z r N w) := by
    unfold cntZ
    exact SM_ite (SM_zsf z r N) (SM_ite (SM_zso z r N) (SM.rf z))
  have c2 := c_Mod_count (hs.n s1.n).tx (hb.n s1.n).md (ht.n s1.n).mt w
  generalize hz1 : cntZ z r N w = z1 at s1 c1 c2
  have s2 : SN z (z00 z1) := s1.n.tr (SN_z00 _)
  have e : cntM (z00 z1) r.length N n w = cntD z r N w := by
    unfold cntM cntD
    have e4 : nI (cfz r.length N N 0 (z00 z1)).1 = (zsf z r N).F 28 6 := fore_count hb hl hX N 0 (z00 z1) (by omega) (by
      obtain ⟨L, hL⟩ := fore_list hb hl hX
      have := hL.2.2.2.2
      rw [hL.1.1]
      exact nI_le (by omega) (by omega)) (s2.1 _ (by decide)) (s2.1 _ (by decide)) (s2.1 _ (by decide)) (s2.1 _ (by decide))
    have e5 : nI (coz r.length N n N 0 (z00 z1)).1 = (zso z r N).F 28 6 := off_count (ht.n s2) (hb.n s2) hl (hs.n s2).1.2.2.2.2 N 0 (z00 z1) (by omega) (by
      obtain ⟨f, f1, f2⟩ : ∃ f, f ≤ 40 ∧ (zso z r N).F 28 6 = nI f := by
        by_cases h9 : offP z r N n
        · exact ⟨0, by omega, off_none hb hl hX h9⟩
        · obtain ⟨L, hL⟩ := off_list ht hb hl hX h9
          exact ⟨L.length, by have := hL.2.2.2.2; omega, hL.1.1⟩
      rw [f2]
      exact nI_le (by omega) (by omega)) (fun _ _ => rfl)
    rw [e4, e5, s2.2 _ (by decide), s2.2 _ (by decide), s2.2 _ (by decide), s2.1 48 (by decide), mwr_eq hX, ht.1.2.1, hb.2.1, hp'.2.1, ht.1.1, hb.1, hp'.1]
  rw [e] at c2
  have hRd : ∀ m', (∀ a, 40 ≤ a → ¬ a = 58 → m'.A a = z.A a) → (∀ j, ¬ j = 0 → m'.F 39 j = z.F 39 j) → RR (c + 1) z1 m' := by
    intro m' h1 h2
    rw [← hz1]
    unfold cntZ
    split
    · exact RR_find hR.up (fun a h3 _ _ => (AF_zsf z r N).1 a h3) (fun i h3 => funext fun j => F_zsf z r N h3 j) (K_zsf z r N) h1 h2
    · split
      · exact RR_find hR.up (fun a h3 _ _ => (AF_zso z r N).1 a h3) (fun i h3 => funext fun j => F_zso z r N h3 j) (K_zso z r N) h1 h2
      · exact RR_find hR.up (fun _ _ _ _ => rfl) (fun _ _ => rfl) rfl h1 h2
  have hS : SD z1 (cnzM (z00 z1) r.length N n w) := by
    unfold cnzM
    exact SD_ite ((SD_z00 _).tr (SD_cfz _ _ _ _ _)) (SD_ite ((SD_z00 _).tr (SD_coz _ _ _ _ _ _)) (SD_z00 _))
  refine OK1.mk _ _ ⟨_, rfl⟩ c1 c2 (by decide) (by decide) (by decide) (by decide) (by decide) (by decide) hS s1 ?_
  unfold cnzM
  split
  · have h9 := SN_cfz (m := z) r.length N N 0 (z00 z1) (fun a h1 _ => s2.1 a h1) s2.2
    exact hRd _ h9.1 h9.2
  · split
    · have h9 := SN_coz (m := z) r.length N n N 0 (z00 z1) (fun a h1 _ => s2.1 a h1) s2.2
      exact hRd _ h9.1 h9.2
    · exact hRd _ (fun a h1 _ => s2.1 a h1) s2.2
theorem RR_tape {c : Nat} {d m d' m' : Sg} (h : RR c d m) (hp' : ∃ t, PR d' m' t) (hA : ∀ a, ¬ a = 23 → d'.A a = d.A a) (hF : ∀ i, ¬ i = 22 → d'.F i = d.F i) (hK : d'.2.2 = d.2.2) (hM : ∀ a, 40 ≤ a → ¬ a = 54 → m'.A a = m.A a) (hG : ∀ j, ¬ j = 0 → ¬ j = 31 → m'.F 39 j = m.F 39 j) : RR c d' m' := by
  obtain ⟨⟨n, row, a1, a2⟩, ⟨r, sd, o, k, b⟩, e, ⟨N, f⟩, -, i, j⟩ := h
  refine ⟨⟨n, row, a1.c (by rw [hF 6 (by decide)]) (hG _ (by decide) (by decide)) (fun a h1 h2 _ => hA a (by omega)) (fun a h1 h2 => hM a h1 (by omega)), ?_⟩, ⟨r, sd, o, k, b.c (congrArg (fun q => q.2.1.1) hK) (congrArg (fun q => q.2.1.2) hK) (congrArg (fun q => q.2.2.1) hK) ⟨[], by rw [List.append_nil]; exact congrArg (fun q => q.2.2.2.2) hK⟩ (hF 18 (by decide)) (hG _ (by decide) (by decide)) (hG _ (by decide) (by decide)) (hG _ (by decide) (by decide)) (fun a h1 h2 => hM a (by omega) (by omega))⟩, e.c (hA _ (by decide)) (hM _ (by decide) (by decide)), ⟨N, f.c (by rw [hF 24 (by decide)]) (hG _ (by decide) (by decide)) (hA _ (by decide)) (hA _ (by decide)) (hA _ (by decide)) (hM _ (by decide) (by decide)) (hM _ (by decide) (by decide)) (hM _ (by decide) (by decide))⟩, hp', i.c (hA _ (by decide)) (hM _ (by decide) (by decide)), j.c (hA _ (by decide)) (hA _ (by decide))⟩
  obtain ⟨g, k', T, C, p, h1, h2⟩ := a2
  refine ⟨g, k', T, C, p, h1, ?_⟩
  unfold LW at h2 ⊢
  rw [hF 17 (by decide), hG 11 (by decide) (by decide), hG 12 (by decide) (by decide), hG 10 (by decide) (by decide), hG 14 (by decide) (by decide), hG 15 (by decide) (by decide), hG 16 (by decide) (by decide), hG 13 (by decide) (by decide), hG 17 (by decide) (by decide)]
  exact h2
theorem s_end (h : RR c z z) (x : Int32) : OK1 isI c z mDesk_end mMod_end [.int x] := by
  have hR := h
  obtain ⟨-, -, -, -, ⟨t, hp'⟩, -⟩ := h
  have c1 := c_end z x
  rw [hp'.1] at c1
  by_cases ok : inB x 0 (nI t)
  · rw [if_pos ok] at c1
    have c2 := c_Mod_end (stF z 22 1 x) x
    have e : (stF z 22 1 x).F 39 31 = nI t := by rw [Fi_stF _ _ _ _ (by decide)]; exact hp'.2.1
    rw [e, if_pos ok] at c2
    obtain ⟨j, hj, rfl⟩ := inB_nat (n := t) (nI_toInt (by have := hp'.2.2.1; omega)) ok
    refine OK1.mk _ _ ⟨_, rfl⟩ c1 c2 (by decide) (by decide) (by decide) (by decide) (by decide) (by decide) ((SD_F _ _ _).tr (SD_F _ _ _)) (SM_F z (by decide) _ _) (RR_tape hR.up ⟨j, F_self _ _ _ _, F_self _ _ _ _, by have := hp'.2.2.1; omega, fun i hi => hp'.2.2.2 i (by omega)⟩ (fun _ _ => rfl) (fun i hi => Fi_stF _ _ _ _ hi) rfl (fun _ _ _ => rfl) (fun j h1 h2 => ?_))
    rw [F_oth _ _ _ _ h2, F_oth _ _ _ _ h1, Fi_stF _ _ _ _ (by decide)]
  · rw [if_neg ok] at c1
    have c2 := c_Mod_end z x
    rw [hp'.2.1, if_neg ok] at c2
    exact OK1.mk z _ ⟨_, rfl⟩ c1 c2 (by decide) (by decide) (by decide) (by decide) (by decide) (by decide) (SD_F z _ _) (SM.rf z) (hR.up.c (SD.rf z) (SN_F0 z _))
theorem cst_mct {d m : Sg} {n : Nat} {row : Nat → List Nat} (ht : TR d m n row) (hs : NR d m) : ∀ (k : Nat) (s : Int32) (x : Nat), x < n → cst d k s (nI x) = mct m k s x
  | 0, _, _, _ => rfl
  | k + 1, s, x, hx => by
    have hn := ht.n60
    rw [cst, mct]
    by_cases h0 : x = 0
    · rw [h0, if_pos (by decide), if_pos rfl]
    · rw [if_neg (nI_nle (by omega) (by omega)), if_neg h0, tg_at ht.1.1 hn hx, tg_at ht.1.1 hn hx, ht.same hx, (ht.1.2.2.2.2.1 x hx).2.2, hs.1 0 (by decide), hs.1 4 (by decide)]
      obtain ⟨g, g1, g2, -⟩ := ht.1.2.2.2.2.2.2.1 x (by omega) hx
      rw [g2, nI_clamp (by omega)]
      exact cst_mct ht hs k _ g (by omega)
/-- a node has a place just where it bears a key and is not 0 -/
theorem TR.place {d m : Sg} {n : Nat} {row : Nat → List Nat} (ht : TR d m n row) {x : Nat} (hx : x < n) : d.A 10 x = -1 ↔ x = 0 ∨ m.A 44 x = 0 := by
  have hn := ht.n60
  constructor
  · intro h9
    by_cases h0 : x = 0
    · exact Or.inl h0
    · rcases (ht.2.1.1 x hx).1 with h8 | h8
      · exact Or.inr h8
      · obtain ⟨g, k, a, b, -, e⟩ := ht.key hx (by omega) h8
        rw [ht.same hx, e] at h9
        have := get_lt b
        have := ht.len a
        exact absurd h9 (nI_m1 (by omega))
  · intro h9
    refine (ht.2.2.2.2.2.1 x hx ?_).2.1
    rcases h9 with h9 | h9
    · exact Or.inl h9
    · exact Or.inr (Or.inr h9)
theorem s_cost (h : RR c z z) (x : Int32) : OK1 isI c z mDesk_cost mMod_cost [.int x] := by
  have hR := h
  obtain ⟨⟨n, row, ht, -⟩, -, hs, -⟩ := h
  have hn := ht.n60
  have hz : (z.F 6 10).toInt ≤ 60 := by rw [ht.1.1, nI_toInt (by omega)]; omega
  have c1 := c_cost hz x
  have c2 := c_Mod_cost ht.gr ht.1.2.1 (fun a ha => (ht.2.1.1 a ha).1) x
  have e : cstD z x = (if coOK z x then mct z 60 0 x.toNatClampNeg else (-1)) := by
    unfold cstD coOK
    rw [ht.1.2.1]
    by_cases hx : ltN x (nI n)
    · obtain ⟨j, hj, rfl⟩ := ltN_nat (by omega) hx
      have hp := ht.place hj
      rw [tg_at ht.1.1 hn hj, nI_clamp (by omega)]
      by_cases h9 : z.A 10 j = -1
      · rw [if_pos h9, if_neg]
        rintro ⟨-, h1, h2⟩
        rcases hp.mp h9 with h8 | h8
        · rw [h8] at h1
          exact h1 rfl
        · exact h2 h8
      · rw [if_neg h9, if_pos ⟨hx, fun h8 => h9 (hp.mpr (Or.inl (by
          rcases Nat.eq_zero_or_pos j with h7 | h7
          · exact h7
          · exact absurd h8 (nI_ne0 h7 (by omega))))), fun h8 => h9 (hp.mpr (Or.inr h8))⟩, cst_mct ht hs 60 0 j hj]
    · unfold tg
      rw [ht.1.1, if_neg hx, if_pos rfl, if_neg (fun h9 => hx h9.1)]
  rw [← e] at c2
  exact OK1.mk z _ ⟨_, rfl⟩ c1 c2 (by decide) (by decide) (by decide) (by decide) (by decide) (by decide) (SD_F z _ _) (SM.rf z) (hR.up.c (SD.rf z) (SN_F0 z _))
end Calls4
