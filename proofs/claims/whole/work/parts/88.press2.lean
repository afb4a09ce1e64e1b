/-! press, foreseen, offered, count, end, cost: both sides -/
theorem Fi_ztk (z : Sg) {i : Nat} (h : ¬ i = 17) : (ztk z).F i = z.F i := by
  unfold ztk
  rw [Fi_stF _ _ _ _ h, Fi_stF _ _ _ _ h]
theorem Fo_mpr (z : Sg) {j : Nat} (h : ¬ lampF j) (h0 : ¬ j = 0) : (mpr z).F 39 j = z.F 39 j := by
  unfold mpr
  rw [F_oth _ _ _ _ (by omega), F_oth _ _ _ _ (by omega), F_oth _ _ _ _ h0]
section Press
variable {c : Nat} {z d m : Sg} {n : Nat} {row : Nat → List Nat}
theorem LW_tk {g k T C p : Nat} (hT : T ≤ 1000000) (hw : LW n c row g k T T C p (d.F 17) (m.F 39)) : LW n (c + 1) row g k T T C (p + 1) ((ztk d).F 17) ((mpr m).F 39) := by
  obtain ⟨a1, a2, a3, a4, a5, a6, a7, a8, a9, b1, b2, b3, b4, b5, b6, b7, b8, b9, c1⟩ := hw
  refine ⟨a1, a2, a3, by omega, a5, a6, a7, a8, a9, b1, b2, b3, b4, ?_, ?_, b7, b8, fun h => absurd h (by omega), fun _ => ⟨?_, T, hT, b1⟩⟩
  · show d.F 17 8 + 1 = _
    rw [b5, nI_1]
  · show m.F 39 16 + 1 = _
    rw [b6, nI_1]
  · show d.F 17 2 = m.F 39 10
    rw [a9, b1]
theorem press_iff (ht : TR d m n row) (hs : NR d m) (hc : c < 2 ^ 30) {g k T C p : Nat} (hw : LW n c row g k T T C p (d.F 17) (m.F 39)) : (tkN d ↔ mpX m) ∧ (if tkL d then d.F 17 5 else d.F 17 4) = mtk m ∧ (¬ mpX m → ∃ x, x < n ∧ mtk m = nI x) := by
  have hk60 := hw.k60 ht
  have hn := ht.n60
  obtain ⟨a1, a2, a3, a4, a5, a6, a7, a8, a9, b1, b2, b3, b4, b5, b6, b7, b8, b9, c1⟩ := hw
  have hlit := ht.litR a1 hk60 a6 a8
  have e3 : d.A 5 3 = m.A 43 3 := hs.1 3 (by decide)
  have e2 : d.A 5 2 = m.A 43 2 := hs.1 2 (by decide)
  have hl4 : d.F 17 4 = litM m := by rw [a7, hlit]
  have hpos : 0 < d.F 17 8 ↔ 0 < p := by
    rw [b5, show (0 : Int32) = nI 0 from rfl, nI_ltI (by omega) (by omega)]
  have hlp : ¬ m.F 39 17 = -1 ↔ 0 < p := by
    rcases Nat.eq_zero_or_pos p with h9 | h9
    · exact ⟨fun h8 => absurd (b9 h9) h8, fun h8 => absurd h8 (by omega)⟩
    · obtain ⟨-, q, q1, q2⟩ := c1 h9
      rw [q2]
      exact ⟨fun _ => h9, fun _ => nI_m1 (by omega)⟩
  have hX : tkN d ↔ mpX m := by
    unfold tkN mpX
    rw [hl4, hpos, hlp, e3, a9, b1]
    constructor
    · rintro (h9 | ⟨h9, h8⟩)
      · exact Or.inl h9
      · exact Or.inr ⟨h9, by rw [(c1 h9).1] at h8; exact h8⟩
    · rintro (h9 | ⟨h9, h8⟩)
      · exact Or.inl h9
      · exact Or.inr ⟨h9, by rw [(c1 h9).1]; exact h8⟩
  have hL : tkL d ↔ (m.F 39 10 - m.F 39 14 < m.A 43 2 ∧ ¬ m.F 39 13 = -1) := by
    unfold tkL
    rw [b7, a9, b1, b2, b3, e2]
    exact ⟨fun h9 => ⟨h9.2, h9.1⟩, fun h9 => ⟨h9.2, h9.1⟩⟩
  refine ⟨hX, ?_, fun hno => ?_⟩
  · unfold mtk
    by_cases h9 : tkL d
    · rw [if_pos h9, if_pos (hL.mp h9), b7]
    · rw [if_neg h9, if_neg (fun h8 => h9 (hL.mpr h8)), hl4]
  · unfold mtk
    by_cases h9 : m.F 39 10 - m.F 39 14 < m.A 43 2 ∧ ¬ m.F 39 13 = -1
    · rw [if_pos h9]
      rcases b8 with h8 | ⟨j, b, h8, h7⟩
      · exact absurd h8 h9.2
      · exact ⟨b, (ht.node a1 h8).2, h7⟩
    · rw [if_neg h9, hlit]
      cases hx : (row g)[k]? with
      | none =>
        exfalso
        apply hno
        left
        rw [hlit, hx]
        rfl
      | some x => exact ⟨x, (ht.node a1 hx).2, rfl⟩
theorem s_press (h : RR c z z) (hc : c < 2 ^ 30) : OK1 isI c z mDesk_press mMod_press [] := by
  have hR := h
  obtain ⟨⟨n, row, ht, hl⟩, hs, hnr, ⟨N, hb⟩, -⟩ := h
  have hn := ht.n60
  have hml := hl.ml ht
  obtain ⟨g, k, T, C, p, hT, hw⟩ := hl
  obtain ⟨i1, i2, i3⟩ := press_iff ht hnr hc hw
  by_cases hx : mpX z
  · have c1 := c_press_no (i1.mpr hx)
    have c2 := c_Mod_press_no hml hx
    exact OK1.mk z _ ⟨_, rfl⟩ c1 c2 (by decide) (by decide) (by decide) (by decide) (by decide) (by decide) (SD_F z _ _) (SM.rf z) (hR.up.c (SD.rf z) (SN_F0 z _))
  · obtain ⟨x, hxn, hxe⟩ := i3 hx
    rw [hxe] at i2
    have hk7 : z.A 7 x = z.A 40 x := (ht.1.2.2.2.2.1 x hxn).1
    -- two states: the desk's behind its press, m with the model's parts of z
    have two : ∀ m : Sg, SN z m → (m.A 40 x = 0 → ∃ m2, EM mMod_press 4 0 0 [.ref 39] (hp m) (Det (some (.int (nI x))) (hp m2)) ∧ m2 = zcm (mpr m) (nI x)) ∧ (∀ m1, ¬ m.A 40 x = 0 → EM mMod_acts 3 0 0 [.ref 39, .int (nI x)] (hp (mpr m)) (Det none (hp m1)) → EM mMod_press 4 0 0 [.ref 39] (hp m) (Det (some (.int (nI x))) (hp (zcm m1 0)))) := by
      intro m hm
      have htm : TR z m n row := ht.sd (SD.rf z) hm
      have hwm : LW n c row g k T T C p (z.F 17) (m.F 39) := hw.c rfl hm.2
      have hlm : LV n c row (z.F 17) (m.F 39) := ⟨g, k, T, C, p, hT, hwm⟩
      have hnm : NR z m := hnr.c rfl (hm.1 43 (by decide))
      obtain ⟨j1, j2, j3⟩ := press_iff htm hnm hc hwm
      have hxm : ¬ mpX m := fun h9 => hx (i1.mp (j1.mpr h9))
      have hem : mtk m = nI x := by rw [← j2, i2]
      refine ⟨fun h0 => ⟨_, c_Mod_press_yes (hlm.ml htm) hxm (zcm (mpr m) (nI x)) x (by omega) hem (fun _ => rfl) (fun h9 => absurd h0 h9), rfl⟩, fun m1 h0 h1 => c_Mod_press_yes (hlm.ml htm) hxm (zcm m1 0) x (by omega) hem (fun h9 => absurd h9 h0) (fun _ => ⟨m1, h1, rfl⟩)⟩
    have trm : ∀ m : Sg, SN z m → TR (ztk z) (mpr m) n row := fun m hm => (ht.sd (SD.rf z) hm).c (by rw [Fi_ztk _ (by decide)]) (by rw [Fo_mpr _ (by decide) (by decide)]) (fun _ _ _ _ => rfl) (fun _ _ _ => rfl)
    have rrm : ∀ m : Sg, SN z m → RR (c + 1) (ztk z) (mpr m) := by
      intro m hm
      refine RR_tray (hR.up.c (SD.rf z) hm) ⟨n, row, trm m hm, ⟨g, k, T, C, p + 1, hT, LW_tk hT (hw.c rfl hm.2)⟩⟩ (fun _ _ _ => rfl) (fun i _ h2 _ => Fi_ztk _ h2) rfl (fun _ _ => rfl) rfl (fun j h1 h2 _ => Fo_mpr _ h1 h2)
    by_cases hk : z.A 40 x = 0
    · have c1 := c_press_yes ht.1.1 hn (fun h9 => hx (i1.mp h9)) (zct (ztk z) (nI x)) x hxn i2 (fun _ => rfl) (fun h9 => absurd (hk7.trans hk) h9)
      have s1 : SM z (zct (ztk z) (nI x)) := (SM_ztk z).tr (SM_zct _ _)
      obtain ⟨m2, c2, hm2⟩ := (two _ s1.n).1 (by rw [s1.1 40 (by decide)]; exact hk)
      rw [hm2] at c2
      generalize hz1 : zct (ztk z) (nI x) = z1 at s1 c1 c2
      have hR2 : RR (c + 1) z1 (zcm (mpr z1) (nI x)) := by
        have h9 := LW_come (trm z1 s1.n) (LW_tk hT (hw.c rfl s1.n.2)) rfl hxn
        rw [hz1] at h9
        refine RR_tray (rrm z1 s1.n) ⟨n, row, (trm z1 s1.n).c ?_ (Fo_zcm _ _ (by decide)) (fun a _ _ _ => ?_) (fun _ _ _ => rfl), ⟨x, 0, T, T, p + 1, hT, h9⟩⟩ (fun a _ _ => ?_) (fun i _ h2 _ => ?_) ?_ (fun _ _ => rfl) rfl (fun j h1 _ _ => Fo_zcm _ _ h1)
        · rw [← hz1, Fi_zct _ _ (by decide)]
        · rw [← hz1]; rfl
        · rw [← hz1]; rfl
        · rw [← hz1, Fi_zct _ _ h2]
        · rw [← hz1]; rfl
      exact OK1.mk z1 _ ⟨_, rfl⟩ c1 c2 (by decide) (by decide) (by decide) (by decide) (by decide) (by decide) ((SD_mpr _).tr (SD_zcm _ _)) s1 hR2
    · have hb0 : BR (ztk z) (mpr z) N := hb.c (by rw [Fi_ztk _ (by decide)]) (by rw [Fo_mpr _ (by decide) (by decide)]) rfl rfl rfl rfl rfl rfl
      obtain ⟨d1, k1, kAF, kSM, kM⟩ := act_both (trm z (SN.rf z)) hb0 (rrm z (SN.rf z)).2.1 hxn hk
      have hd6 : d1.F 6 10 = nI n := by rw [kAF.2 6 (by decide) (by decide), Fi_ztk _ (by decide)]; exact ht.1.1
      have c1 := c_press_yes ht.1.1 hn (fun h9 => hx (i1.mp h9)) (zct d1 0) x hxn i2 (fun h9 => absurd (hk7.symm.trans h9) hk) (fun _ => ⟨d1, k1, hd6, rfl⟩)
      have s1 : SM z (zct d1 0) := (SM_ztk z).tr (kSM.tr (SM_zct _ _))
      have hmm : SN (mpr z) (mpr (zct d1 0)) := by
        refine ⟨fun a ha => s1.1 a ha, fun j hj => ?_⟩
        unfold mpr
        rw [s1.2.1]
        have key : ∀ (w w' : Sg) (i : Nat) (v : Int32), w'.F 39 = w.F 39 → (stF w' 39 i v).F 39 = (stF w 39 i v).F 39 := fun w w' i v e => funext fun l => by rw [F_stF, F_stF, if_pos rfl, if_pos rfl, e]
        rw [key _ _ _ _ (key _ _ _ _ (key _ _ _ _ s1.2.1))]
      obtain ⟨m1, c3, hsr, kAM, kSD⟩ := kM _ hmm
      have c2 := (two _ s1.n).2 m1 (by rw [s1.1 40 (by decide)]; exact hk) c3
      generalize hz1 : zct d1 0 = z1 at s1 c1 c2 hmm kAM kSD c3
      have htr1 : TR d1 m1 n row := (trm z1 s1.n).c (by rw [kAF.2 6 (by decide) (by decide)]) (kAM.2 _ (by decide)) (fun a h1 h2 _ => kAF.1 a (by omega)) (fun a h1 h2 => kAM.1 a (by omega) (by omega))
      have hwl : LW n (c + 1) row g k T T C (p + 1) (d1.F 17) (m1.F 39) := by
        have h9 := LW_tk hT (hw.c rfl s1.n.2)
        rw [← kAF.2 17 (by decide) (by decide)] at h9
        unfold LW at h9 ⊢
        rw [kAM.2 11 (by decide), kAM.2 12 (by decide), kAM.2 10 (by decide), kAM.2 14 (by decide), kAM.2 15 (by decide), kAM.2 16 (by decide), kAM.2 13 (by decide), kAM.2 17 (by decide)]
        exact h9
      have hR1 : RR (c + 1) d1 m1 := by
        obtain ⟨-, -, e, ⟨N, f⟩, ⟨t, g'⟩, i, j⟩ := rrm z1 s1.n
        refine ⟨⟨n, row, htr1, ⟨g, k, T, C, p + 1, hT, hwl⟩⟩, hsr, e.c (kAF.1 _ (by decide)) (kAM.1 _ (by decide) (by decide)), ⟨N, f.c (by rw [kAF.2 24 (by decide) (by decide)]) (kAM.2 _ (by decide)) (kAF.1 _ (by decide)) (kAF.1 _ (by decide)) (kAF.1 _ (by decide)) (kAM.1 _ (by decide) (by decide)) (kAM.1 _ (by decide) (by decide)) (kAM.1 _ (by decide) (by decide))⟩, ⟨t, g'.c (by rw [kAF.2 22 (by decide) (by decide)]) (kAM.2 _ (by decide)) (kAF.1 _ (by decide)) (kAM.1 _ (by decide) (by decide))⟩, i.c (kAF.1 _ (by decide)) (kAM.1 _ (by decide) (by decide)), j.c (kAF.1 _ (by decide)) (kAF.1 _ (by decide))⟩
      have hR2 : RR (c + 1) z1 (zcm m1 0) := by
        have h9 := LW_come htr1 hwl rfl (show 0 < n by have := ht.1.2.2.1; omega)
        rw [show nI 0 = 0 from rfl, hz1] at h9
        refine RR_tray hR1 ⟨n, row, htr1.c ?_ (Fo_zcm _ _ (by decide)) (fun a _ _ _ => ?_) (fun _ _ _ => rfl), ⟨0, 0, T, T, p + 1, hT, h9⟩⟩ (fun a _ _ => ?_) (fun i _ h2 _ => ?_) ?_ (fun _ _ => rfl) rfl (fun j h1 _ _ => Fo_zcm _ _ h1)
        · rw [← hz1, Fi_zct _ _ (by decide)]
        · rw [← hz1]; rfl
        · rw [← hz1]; rfl
        · rw [← hz1, Fi_zct _ _ h2]
        · rw [← hz1]; rfl
      exact OK1.mk z1 _ ⟨_, rfl⟩ c1 c2 (by decide) (by decide) (by decide) (by decide) (by decide) (by decide) ((SD_mpr _).tr (kSD.tr (SD_zcm _ _))) s1 hR2
end Press
