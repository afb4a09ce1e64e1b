/-! AN ACT, both sides at once -/
theorem kinds {k : Int32} (h : inB k 0 6) (h0 : ¬ k = 0) : k = 1 ∨ k = 2 ∨ k = 3 ∨ k = 4 ∨ k = 5 ∨ k = 6 := by
  obtain ⟨h1, h2⟩ := h
  simp only [i32_eq, Int32.reduceToInt] at *
  omega
/-- the model's parts are the same, but for what it throws -/
def SN (m m' : Sg) : Prop := (∀ a, 40 ≤ a → m'.A a = m.A a) ∧ (∀ j, ¬ j = 0 → m'.F 39 j = m.F 39 j)
theorem SX.n {d m m' : Sg} {r : List Int32} {sd : Option (List Int32)} {o k : Nat} (h : SX d m r sd o k) (hm : SN m m') : SX d m' r sd o k := h.c rfl rfl rfl ⟨[], (List.append_nil _).symm⟩ rfl (hm.2 _ (by decide)) (hm.2 _ (by decide)) (hm.2 _ (by decide)) (fun a h1 _ => hm.1 a (by omega))
theorem BR.n {d m m' : Sg} {N : Nat} (h : BR d m N) (hm : SN m m') : BR d m' N := h.c rfl (hm.2 _ (by decide)) rfl rfl rfl (hm.1 _ (by decide)) (hm.1 _ (by decide)) (hm.1 _ (by decide))
theorem TR.n {d m m' : Sg} {n : Nat} {row : Nat → List Nat} (h : TR d m n row) (hm : SN m m') : TR d m' n row := h.c rfl (hm.2 _ (by decide)) (fun _ _ _ _ => rfl) (fun a h1 _ => hm.1 a h1)
def actR (d m : Sg) (x : Nat) : Prop := ∃ d1, EM mDesk_act 6 13 39 [.ref 3, .int (nI x)] (hp d) (Det none (hp d1)) ∧ AF d d1 ∧ SM d d1 ∧ ∀ m', SN m m' → ∃ m1, EM mMod_acts 3 0 0 [.ref 39, .int (nI x)] (hp m') (Det none (hp m1)) ∧ SR d1 m1 ∧ AM m' m1 ∧ SD m' m1
section ActB
variable {d m : Sg} {r : List Int32} {sd : Option (List Int32)} {o k n N x : Nat} {row : Nat → List Nat}
theorem act_1 (ht : TR d m n row) (hs : SX d m r sd o k) (hx : x < n) (hk : m.A 40 x = 1) : actR d m x := by
  have hn := ht.n60
  obtain ⟨t1, t2, -⟩ := ht.1.2.2.2.2.1 x hx
  have hv : okB (m.A 41 x) := by
    have h9 := (ht.1.2.2.2.2.2.2.2 x hx).2
    rw [if_pos hk] at h9
    exact h9
  have c1 := c_act1 ht.1.1 hn hx (by rw [t1, hk]) hs.ring hs.1.1 hs.1.2.1 hs.said
  rw [t2] at c1
  refine ⟨_, c1, AF_ite ((AF_kp d o k).tr (AF_pch _ _ _)) (AF.rf d), SM_ite ((SM_kp d o k).tr (SM_pch _ _ _)) (SM.rf d), fun m' hm => ?_⟩
  replace hs := hs.n hm
  rw [← hm.1 41 (by decide)] at hv ⊢
  exact ⟨_, (c_acts1 hs.tx hs.2.2.2.2.2.2.1 hs.2.2.2.2.1 (show x < 60 by omega) (by rw [hm.1 40 (by decide)]; exact hk)).mono (by decide) (Nat.le_refl _) (Nat.le_refl _), SX_act1 hs hv, AM_ite (AM.rf m') ((AM_mkp m' k).tr (AM_mpt _ _)), SD_ite (SD.rf m') ((SD_mkp m' k).tr (SD_mpt _ _))⟩
theorem act_2 (ht : TR d m n row) (hs : SX d m r sd o k) (hx : x < n) (hk : m.A 40 x = 2) : actR d m x := by
  have hn := ht.n60
  obtain ⟨t1, t2, -⟩ := ht.1.2.2.2.2.1 x hx
  obtain ⟨c', hc, c1⟩ := c_act2 ht.1.1 hn hx (by rw [t1, hk]) hs.ring hs.1.1 hs.1.2.1 hs.said
  refine ⟨_, c1, AF_ite ((AF_kp d o k).tr (AF_T _ _)) (AF.rf d), SM_ite ((SM_kp d o k).tr (SM_T _ _)) (SM.rf d), fun m' hm => ?_⟩
  replace hs := hs.n hm
  exact ⟨_, (c_acts2 hs.tx hs.2.2.2.2.2.2.1 hs.2.2.2.2.1 (show x < 60 by omega) (by rw [hm.1 40 (by decide)]; exact hk)).mono (by decide) (Nat.le_refl _) (Nat.le_refl _), SX_act2 hs hc, AM_ite (AM.rf m') ((AM_mkp m' k).tr (AM_F _ (by decide) _)), SD_ite (SD.rf m') ((SD_mkp m' k).tr (SD_F _ _ _))⟩
theorem act_3 (ht : TR d m n row) (hs : SX d m r sd o k) (hx : x < n) (hk : m.A 40 x = 3) : actR d m x := by
  have hn := ht.n60
  obtain ⟨t1, t2, -⟩ := ht.1.2.2.2.2.1 x hx
  have c1 := c_act3 ht.1.1 hn hx (by rw [t1, hk]) hs.ring
  refine ⟨_, c1, AF_ite (AF_tb d o k) (AF.rf d), SM_ite (SM_tb d o k) (SM.rf d), fun m' hm => ?_⟩
  replace hs := hs.n hm
  exact ⟨_, (c_acts3 hs.2.2.2.2.2.2.1 hs.2.2.2.2.1 (show x < 60 by omega) (by rw [hm.1 40 (by decide)]; exact hk)).mono (by decide) (Nat.le_refl _) (Nat.le_refl _), SX_act3 hs, AM_ite (AM.rf m') (AM_mun m' k), SD_ite (SD.rf m') (SD_mun m' k)⟩
theorem act_5 (ht : TR d m n row) (hs : SX d m r sd o k) (hx : x < n) (hk : m.A 40 x = 5) : actR d m x := by
  have hn := ht.n60
  obtain ⟨t1, t2, -⟩ := ht.1.2.2.2.2.1 x hx
  obtain ⟨rs, q1, q2, q3⟩ := SX_said hs
  have c1 := c_act5 ht.1.1 hn hx (by rw [t1, hk]) hs.ring hs.1.1 hs.1.2.1 rs q1 q2
  refine ⟨_, c1, AF_ite ((AF_kp d o k).tr ((AF_S _ _).tr (AF_T _ _))) (AF.rf d), SM_ite ((SM_kp d o k).tr ((SM_S _ _).tr (SM_T _ _))) (SM.rf d), fun m' hm => ?_⟩
  replace hs := hs.n hm
  rw [← hm.2 25 (by decide)] at q3
  exact ⟨_, (c_acts5 hs.tx hs.2.2.2.2.2.2.1 hs.2.2.2.2.1 (show x < 60 by omega) (by rw [hm.1 40 (by decide)]; exact hk)).mono (by decide) (Nat.le_refl _) (Nat.le_refl _), SX_act5 hs q3, AM_ite (AM.rf m') ((AM_mkp m' k).tr (AM_mspk _ _)), SD_ite (SD.rf m') ((SD_mkp m' k).tr (SD_mspk _ _))⟩
theorem AF_pcw (a i b W : Nat) (z : Sg) : AF z (pcw a i b W z) := by
  induction a generalizing i z with
  | zero => exact AF.rf z
  | succ a ih => rw [pcw]; exact (AF_pch z _ _).tr (ih (i + 1) _)
theorem AF_cpE (sp : Bool) (z : Sg) (n : Nat) : AF z (cpE sp z n) := AF_ite (AF_pch z _ _) (AF.rf z)
theorem act_4 (ht : TR d m n row) (hb : BR d m N) (hs : SX d m r sd o k) (hx : x < n) (hk : m.A 40 x = 4) : actR d m x := by
  have hn := ht.n60
  have hN := hb.2.2.1
  have hX := hs.1.2.2.2.2
  have hl := hs.1.2.1
  obtain ⟨t1, t2, -⟩ := ht.1.2.2.2.2.1 x hx
  have hrk : ∀ m', SN m m' → rnk (zfm r.length N m') N (m'.A 41 x) N 0 = fat (zsf d r N) (d.A 8 x) := fun m' hm => by rw [fore_rank hb hl hX (z := m') (hm.1 _ (by decide)) (hm.1 _ (by decide)) (hm.1 _ (by decide)) (hm.1 _ (by decide)), hm.1 41 (by decide), t2]
  have c2 : ∀ m', SN m m' → _ := fun m' hm => c_acts4 (hs.n hm).tx (hb.n hm).md (hs.n hm).2.2.2.2.2.2.1 (hs.n hm).2.2.2.2.1 (show x < 60 by omega) (show m'.A 40 x = 4 by rw [hm.1 40 (by decide)]; exact hk)
  rcases rnk_cases (zfm r.length N m) N (m.A 41 x) N 0 with ⟨a1, -⟩ | ⟨W, -, a2, a3, a4⟩
  · have hf : fat (zsf d r N) (d.A 8 x) = -1 := by rw [← hrk m ⟨fun _ _ => rfl, fun _ _ => rfl⟩, a1]
    have c1 := c_act4_none ht.1.1 hn hx (by rw [t1, hk]) hs.1.1 hl hb.bk hf
    refine ⟨_, c1, AF_zsf d r N, SM_zsf d r N, fun m' hm => ?_⟩
    have c3 := c2 m' hm
    have e : mA4 m' r.length k N x = zfm r.length N m' := by
      unfold mA4
      rw [if_pos (by rw [show m4W m' r.length N x = _ from hrk m' hm, hf])]
    rw [e] at c3
    refine ⟨_, c3, ?_, AM_zfm _ _ m', SD_zfm _ _ m'⟩
    exact ⟨r, sd, o, k, SX_AF (hs.n hm) (K_zsf d r N) (funext fun j => F_zsf d r N (by decide) j) (by unfold zfm; rw [F_fmk]) (fun a h1 h2 => by unfold zfm; rw [A_fmk _ _ (by omega)])⟩
  · have hf : fat (zsf d r N) (d.A 8 x) = nI W := by rw [← hrk m ⟨fun _ _ => rfl, fun _ _ => rfl⟩, a3]
    obtain ⟨⟨L, l1, l2, l3, l4, l5⟩, -⟩ := hb.2.2.2 W (by omega)
    obtain ⟨c', hc, c1⟩ := c_act4_some ht.1.1 hn hx (by rw [t1, hk]) hs.ring hs.1.1 hl hs.said hb.bk (show W < N by omega) l3 l2 hf
    refine ⟨_, c1, AF_ite ((AF_zsf d r N).tr ((AF_kp _ o k).tr ((AF_T _ _).tr ((AF_pcw _ _ _ _ _).tr (AF_cpE _ _ _))))) (AF_zsf d r N), SM_ite ((SM_zsf d r N).tr ((SM_kp _ o k).tr ((SM_T _ _).tr ((SM_pcw _ _ _ _ _).tr (SM_cpE _ _ _))))) (SM_zsf d r N), fun m' hm => ?_⟩
    have c3 := c2 m' hm
    have e : mA4 m' r.length k N x = (if r.length + L - wr r + 1 ≤ 200 then mpt (mps W (L - wr r) (wr r) (mkp (zfm r.length N m') k)) 32 else zfm r.length N m') := by
      unfold mA4
      rw [show m4W m' r.length N x = nI W from (hrk m' hm).trans hf, if_neg (nI_m1 (by omega)), nI_clamp (by omega), hm.1 56 (by decide), l4, nI_clamp (by omega), mwr_eq (hs.n hm).1.2.2.2.2]
    rw [e] at c3
    exact ⟨_, c3, SX_act4 (n := n) (row := row) (hb.n hm) (hs.n hm) (by omega) l3 l2 hf hc, AM_ite ((AM_zfm _ _ m').tr ((AM_mkp _ k).tr ((AM_mps _ _ _ _).tr (AM_mpt _ _)))) (AM_zfm _ _ m'), SD_ite ((SD_zfm _ _ m').tr ((SD_mkp _ k).tr ((SD_mps _ _ _ _).tr (SD_mpt _ _)))) (SD_zfm _ _ m')⟩
theorem act_6 (ht : TR d m n row) (hb : BR d m N) (hs : SX d m r sd o k) (hx : x < n) (hk : m.A 40 x = 6) : actR d m x := by
  have hn := ht.n60
  have hN := hb.2.2.1
  have hX := hs.1.2.2.2.2
  have hl := hs.1.2.1
  have hle := wr_le r
  obtain ⟨t1, t2, -⟩ := ht.1.2.2.2.2.1 x hx
  have hrk : ∀ m', SN m m' → ofR r.length N n m' (m'.A 41 x) = fat (zso d r N) (d.A 8 x) := fun m' hm => by rw [off_rank (ht.n hm) (hb.n hm) hl (hs.n hm).1.2.2.2.2 (z := m') (fun _ _ => rfl), hm.1 41 (by decide), t2]
  have hlen : ∀ m', SN m m' → ∀ W L, W < N → L ≤ 12 → ofR r.length N n m' (m'.A 41 x) = nI W → m'.A 56 W = nI L → r.length - mwr (m'.A 48) r.length r.length 0 + L ≤ 200 := by
    intro m' hm W L hW hL12 h1 h2
    obtain ⟨⟨L', l1, l2, l3, l4, l5⟩, -⟩ := hb.2.2.2 W hW
    rw [hrk m' hm] at h1
    have h9 := off_len ht hb hl hX h1 hW
    have e1 : L' = wr r := by rw [l4, nI_eq (by omega) (by omega)] at h9; exact h9
    have e2 : nI L = nI (wr r) := by rw [← h2, hm.1 56 (by decide), h9]
    rw [mwr_eq (hs.n hm).1.2.2.2.2]
    have hLw : L = wr r := (nI_eq (by omega) (by omega)).mp e2
    omega
  have c2 : ∀ m', SN m m' → _ := fun m' hm => c_acts6 (hs.n hm).tx (hb.n hm).md (ht.n hm).mt (hs.n hm).2.2.2.2.2.2.1 (hs.n hm).2.2.2.2.1 (show x < 60 by omega) (show m'.A 40 x = 6 by rw [hm.1 40 (by decide)]; exact hk) (hlen m' hm)
  rcases ofR_cases r.length N n m (m.A 41 x) with a1 | ⟨W, a2, a3, a4, -⟩
  · have hf : fat (zso d r N) (d.A 8 x) = -1 := by rw [← hrk m ⟨fun _ _ => rfl, fun _ _ => rfl⟩, a1]
    have c1 := c_act6_none ht.1.1 hn hx (by rw [t1, hk]) hs.1.1 hl hb.bk hf
    refine ⟨_, c1, AF_zso d r N, SM_zso d r N, fun m' hm => ?_⟩
    have c3 := c2 m' hm
    have e : mA6 m' r.length k N n x = (zom r.length N n m').2 := by
      unfold mA6
      rw [if_pos (by rw [hrk m' hm, hf])]
    rw [e] at c3
    refine ⟨_, c3, ?_, AM_zom _ _ _ m', SD_zom _ _ _ m'⟩
    exact ⟨r, sd, o, k, SX_AF (hs.n hm) (K_zso d r N) (funext fun j => F_zso d r N (by decide) j) (by unfold zom; rw [F_omk]) (fun a h1 h2 => by unfold zom; rw [A_omk _ _ _ (by omega)])⟩
  · have hf : fat (zso d r N) (d.A 8 x) = nI W := by rw [← hrk m ⟨fun _ _ => rfl, fun _ _ => rfl⟩, a3]
    obtain ⟨⟨L, l1, l2, l3, l4, l5⟩, -⟩ := hb.2.2.2 W (by omega)
    obtain ⟨c', hc, c1⟩ := c_act6_some ht.1.1 hn hx (by rw [t1, hk]) hs.ring hs.1.1 hl hs.said hb.bk (show W < N by omega) l3 l2 hf
    refine ⟨_, c1, AF_ite ((AF_zso d r N).tr ((AF_kp _ o k).tr ((AF_T _ _).tr ((AF_pcw _ _ _ _ _).tr (AF_cpE _ _ _))))) (AF_zso d r N), SM_ite ((SM_zso d r N).tr ((SM_kp _ o k).tr ((SM_T _ _).tr ((SM_pcw _ _ _ _ _).tr (SM_cpE _ _ _))))) (SM_zso d r N), fun m' hm => ?_⟩
    have c3 := c2 m' hm
    have e : mA6 m' r.length k N n x = mps W L 0 (stF (mkp (zom r.length N n m').2 k) 39 24 (nI (r.length - wr r))) := by
      unfold mA6
      rw [hrk m' hm, hf, if_neg (nI_m1 (by omega)), nI_clamp (by omega), hm.1 56 (by decide), l4, nI_clamp (by omega), mwr_eq (hs.n hm).1.2.2.2.2]
    rw [e] at c3
    exact ⟨_, c3, SX_act6 (ht.n hm) (hb.n hm) (hs.n hm) (by omega) l3 l2 hf hc, (AM_zom _ _ _ m').tr ((AM_mkp _ k).tr ((AM_F _ (by decide) _).tr (AM_mps _ _ _ _))), (SD_zom _ _ _ m').tr ((SD_mkp _ k).tr ((SD_F _ _ _).tr (SD_mps _ _ _ _)))⟩
theorem act_both (ht : TR d m n row) (hb : BR d m N) (hs : SR d m) (hx : x < n) (hk : ¬ m.A 40 x = 0) : actR d m x := by
  obtain ⟨r, sd, o, k, hs⟩ := hs
  rcases kinds (ht.1.2.2.2.2.2.2.2 x hx).1 hk with h | h | h | h | h | h
  · exact act_1 ht hs hx h
  · exact act_2 ht hs hx h
  · exact act_3 ht hs hx h
  · exact act_4 ht hb hs hx h
  · exact act_5 ht hs hx h
  · exact act_6 ht hb hs hx h
end ActB
