/-! AN ACT, both sides at once -/
theorem kinds {k : Int32} (h : inB k 0 6) (h0 : ¬ k = 0) : k = 1 ∨ k = 2 ∨ k = 3 ∨ k = 4 ∨ k = 5 ∨ k = 6 := by
  obtain ⟨h1, h2⟩ := h
  simp only [i32_eq, Int32.reduceToInt] at *
  omega
def actR (d m : Sg) (x : Nat) : Prop := ∃ d1 m1, EM mDesk_act 6 13 39 [.ref 3, .int (nI x)] (hp d) (Det none (hp d1)) ∧ EM mMod_acts 3 0 0 [.ref 39, .int (nI x)] (hp m) (Det none (hp m1)) ∧ SR d1 m1 ∧ AF d d1 ∧ AM m m1 ∧ SM d d1 ∧ SD m m1
section ActB
variable {d m : Sg} {r : List Int32} {sd : Option (List Int32)} {o k n N x : Nat} {row : Nat → List Nat}
theorem act_1 (ht : TR d m n row) (hs : SX d m r sd o k) (hx : x < n) (hk : m.A 40 x = 1) : actR d m x := by
  have hn := ht.n60
  obtain ⟨t1, t2, -⟩ := ht.1.2.2.2.2.1 x hx
  have hv : okB (m.A 41 x) := by
    have h9 := (ht.1.2.2.2.2.2.2.2 x hx).2
    rw [if_pos hk] at h9
    exact h9
  have c1 := c_act1 ht.1.1 hn hx (by rw [t1, hk]) hs.ring hs.1.1 hs.1.2.1 hs.said
  rw [t2] at c1
  exact ⟨_, _, c1, (c_acts1 hs.tx hs.2.2.2.2.2.2.1 hs.2.2.2.2.1 (by omega) hk).mono (by decide) (Nat.le_refl _) (Nat.le_refl _), SX_act1 hs hv, AF_ite ((AF_kp d o k).tr (AF_pch _ _ _)) (AF.rf d), AM_ite (AM.rf m) ((AM_mkp m k).tr (AM_mpt _ _)), SM_ite ((SM_kp d o k).tr (SM_pch _ _ _)) (SM.rf d), SD_ite (SD.rf m) ((SD_mkp m k).tr (SD_mpt _ _))⟩
theorem act_2 (ht : TR d m n row) (hs : SX d m r sd o k) (hx : x < n) (hk : m.A 40 x = 2) : actR d m x := by
  have hn := ht.n60
  obtain ⟨t1, t2, -⟩ := ht.1.2.2.2.2.1 x hx
  obtain ⟨c', hc, c1⟩ := c_act2 ht.1.1 hn hx (by rw [t1, hk]) hs.ring hs.1.1 hs.1.2.1 hs.said
  exact ⟨_, _, c1, (c_acts2 hs.tx hs.2.2.2.2.2.2.1 hs.2.2.2.2.1 (by omega) hk).mono (by decide) (Nat.le_refl _) (Nat.le_refl _), SX_act2 hs hc, AF_ite ((AF_kp d o k).tr (AF_T _ _)) (AF.rf d), AM_ite (AM.rf m) ((AM_mkp m k).tr (AM_F _ (by decide) _)), SM_ite ((SM_kp d o k).tr (SM_T _ _)) (SM.rf d), SD_ite (SD.rf m) ((SD_mkp m k).tr (SD_F _ _ _))⟩
theorem act_3 (ht : TR d m n row) (hs : SX d m r sd o k) (hx : x < n) (hk : m.A 40 x = 3) : actR d m x := by
  have hn := ht.n60
  obtain ⟨t1, t2, -⟩ := ht.1.2.2.2.2.1 x hx
  have c1 := c_act3 ht.1.1 hn hx (by rw [t1, hk]) hs.ring
  exact ⟨_, _, c1, (c_acts3 hs.2.2.2.2.2.2.1 hs.2.2.2.2.1 (by omega) hk).mono (by decide) (Nat.le_refl _) (Nat.le_refl _), SX_act3 hs, AF_ite (AF_tb d o k) (AF.rf d), AM_ite (AM.rf m) (AM_mun m k), SM_ite (SM_tb d o k) (SM.rf d), SD_ite (SD.rf m) (SD_mun m k)⟩
theorem act_5 (ht : TR d m n row) (hs : SX d m r sd o k) (hx : x < n) (hk : m.A 40 x = 5) : actR d m x := by
  have hn := ht.n60
  obtain ⟨t1, t2, -⟩ := ht.1.2.2.2.2.1 x hx
  obtain ⟨rs, q1, q2, q3⟩ := SX_said hs
  have c1 := c_act5 ht.1.1 hn hx (by rw [t1, hk]) hs.ring hs.1.1 hs.1.2.1 rs q1 q2
  exact ⟨_, _, c1, (c_acts5 hs.tx hs.2.2.2.2.2.2.1 hs.2.2.2.2.1 (by omega) hk).mono (by decide) (Nat.le_refl _) (Nat.le_refl _), SX_act5 hs q3, AF_ite ((AF_kp d o k).tr ((AF_S _ _).tr (AF_T _ _))) (AF.rf d), AM_ite (AM.rf m) ((AM_mkp m k).tr (AM_mspk _ _)), SM_ite ((SM_kp d o k).tr ((SM_S _ _).tr (SM_T _ _))) (SM.rf d), SD_ite (SD.rf m) ((SD_mkp m k).tr (SD_mspk _ _))⟩
theorem AF_pcw (a i b W : Nat) (z : Sg) : AF z (pcw a i b W z) := by
  induction a generalizing i z with
  | zero => exact AF.rf z
  | succ a ih => rw [pcw]; exact (AF_pch z _ _).tr (ih (i + 1) _)
theorem AF_cpE (sp : Bool) (z : Sg) (n : Nat) : AF z (cpE sp z n) := AF_ite (AF_pch z _ _) (AF.rf z)
theorem act_4 (ht : TR d m n row) (hb : BR d m N) (hs : SX d m r sd o k) (hx : x < n) (hk : m.A 40 x = 4) : actR d m x := by
  have hn := ht.n60
  have hN := hb.2.2.1
  have hX := hs.1.2.2.2.2
  have hl := hs.1.2.1
  obtain ⟨t1, t2, -⟩ := ht.1.2.2.2.2.1 x hx
  have hrk := fore_rank hb hl hX (z := m) rfl rfl rfl rfl (m.A 41 x)
  have c2 := c_acts4 hs.tx hb.md hs.2.2.2.2.2.2.1 hs.2.2.2.2.1 (show x < 60 by omega) hk
  rcases rnk_cases (zfm r.length N m) N (m.A 41 x) N 0 with ⟨a1, -⟩ | ⟨W, -, a2, a3, a4⟩
  · have hf : fat (zsf d r N) (d.A 8 x) = -1 := by rw [t2, ← hrk, a1]
    have c1 := c_act4_none ht.1.1 hn hx (by rw [t1, hk]) hs.1.1 hl hb.bk hf
    have e : mA4 m r.length k N x = zfm r.length N m := by
      unfold mA4
      rw [if_pos a1]
    rw [e] at c2
    refine ⟨_, _, c1, c2, ?_, AF_zsf d r N, AM_zfm _ _ m, SM_zsf d r N, SD_zfm _ _ m⟩
    exact ⟨r, sd, o, k, SX_AF hs (K_zsf d r N) (funext fun j => F_zsf d r N (by decide) j) (by unfold zfm; rw [F_fmk]) (fun a h1 h2 => by unfold zfm; rw [A_fmk _ _ (by omega)])⟩
  · have hf : fat (zsf d r N) (d.A 8 x) = nI W := by rw [t2, ← hrk, a3]
    obtain ⟨⟨L, l1, l2, l3, l4, l5⟩, -⟩ := hb.2.2.2 W (by omega)
    obtain ⟨c', hc, c1⟩ := c_act4_some ht.1.1 hn hx (by rw [t1, hk]) hs.ring hs.1.1 hl hs.said hb.bk (show W < N by omega) l3 l2 hf
    have e : mA4 m r.length k N x = (if r.length + L - wr r + 1 ≤ 200 then mpt (mps W (L - wr r) (wr r) (mkp (zfm r.length N m) k)) 32 else zfm r.length N m) := by
      unfold mA4
      rw [show m4W m r.length N x = nI W from a3, if_neg (nI_m1 (by omega)), nI_clamp (by omega), l4, nI_clamp (by omega), mwr_eq hX]
    rw [e] at c2
    rw [t2] at hf
    exact ⟨_, _, c1, c2, SX_act4 (n := n) (row := row) hb hs (by omega) l3 l2 hf hc, AF_ite ((AF_zsf d r N).tr ((AF_kp _ o k).tr ((AF_T _ _).tr ((AF_pcw _ _ _ _ _).tr (AF_cpE _ _ _))))) (AF_zsf d r N), AM_ite ((AM_zfm _ _ m).tr ((AM_mkp _ k).tr ((AM_mps _ _ _ _).tr (AM_mpt _ _)))) (AM_zfm _ _ m), SM_ite ((SM_zsf d r N).tr ((SM_kp _ o k).tr ((SM_T _ _).tr ((SM_pcw _ _ _ _ _).tr (SM_cpE _ _ _))))) (SM_zsf d r N), SD_ite ((SD_zfm _ _ m).tr ((SD_mkp _ k).tr ((SD_mps _ _ _ _).tr (SD_mpt _ _)))) (SD_zfm _ _ m)⟩
theorem act_6 (ht : TR d m n row) (hb : BR d m N) (hs : SX d m r sd o k) (hx : x < n) (hk : m.A 40 x = 6) : actR d m x := by
  have hn := ht.n60
  have hN := hb.2.2.1
  have hX := hs.1.2.2.2.2
  have hl := hs.1.2.1
  have hle := wr_le r
  obtain ⟨t1, t2, -⟩ := ht.1.2.2.2.2.1 x hx
  have hrk := off_rank ht hb hl hX (z := m) (fun _ _ => rfl) (m.A 41 x)
  have hlen : ∀ W L, W < N → L ≤ 12 → ofR r.length N n m (m.A 41 x) = nI W → m.A 56 W = nI L → r.length - mwr (m.A 48) r.length r.length 0 + L ≤ 200 := by
    intro W L hW hL12 h1 h2
    obtain ⟨⟨L', l1, l2, l3, l4, l5⟩, -⟩ := hb.2.2.2 W hW
    rw [hrk] at h1
    have h9 := off_len ht hb hl hX h1 hW
    have e1 : L' = wr r := by rw [l4, nI_eq (by omega) (by omega)] at h9; exact h9
    have e2 : nI L = nI (wr r) := by rw [← h2, h9]
    rw [mwr_eq hX]
    have hLw : L = wr r := (nI_eq (by omega) (by omega)).mp e2
    omega
  have c2 := c_acts6 hs.tx hb.md ht.mt hs.2.2.2.2.2.2.1 hs.2.2.2.2.1 (show x < 60 by omega) hk hlen
  rcases ofR_cases r.length N n m (m.A 41 x) with a1 | ⟨W, a2, a3, a4, -⟩
  · have hf : fat (zso d r N) (d.A 8 x) = -1 := by rw [t2, ← hrk, a1]
    have c1 := c_act6_none ht.1.1 hn hx (by rw [t1, hk]) hs.1.1 hl hb.bk hf
    have e : mA6 m r.length k N n x = (zom r.length N n m).2 := by
      unfold mA6
      rw [if_pos a1]
    rw [e] at c2
    refine ⟨_, _, c1, c2, ?_, AF_zso d r N, AM_zom _ _ _ m, SM_zso d r N, SD_zom _ _ _ m⟩
    exact ⟨r, sd, o, k, SX_AF hs (K_zso d r N) (funext fun j => F_zso d r N (by decide) j) (by unfold zom; rw [F_omk]) (fun a h1 h2 => by unfold zom; rw [A_omk _ _ _ (by omega)])⟩
  · have hf : fat (zso d r N) (d.A 8 x) = nI W := by rw [t2, ← hrk, a3]
    obtain ⟨⟨L, l1, l2, l3, l4, l5⟩, -⟩ := hb.2.2.2 W (by omega)
    obtain ⟨c', hc, c1⟩ := c_act6_some ht.1.1 hn hx (by rw [t1, hk]) hs.ring hs.1.1 hl hs.said hb.bk (show W < N by omega) l3 l2 hf
    have e : mA6 m r.length k N n x = mps W L 0 (stF (mkp (zom r.length N n m).2 k) 39 24 (nI (r.length - wr r))) := by
      unfold mA6
      rw [a3, if_neg (nI_m1 (by omega)), nI_clamp (by omega), l4, nI_clamp (by omega), mwr_eq hX]
    rw [e] at c2
    rw [t2] at hf
    exact ⟨_, _, c1, c2, SX_act6 ht hb hs (by omega) l3 l2 hf hc, AF_ite ((AF_zso d r N).tr ((AF_kp _ o k).tr ((AF_T _ _).tr ((AF_pcw _ _ _ _ _).tr (AF_cpE _ _ _))))) (AF_zso d r N), (AM_zom _ _ _ m).tr ((AM_mkp _ k).tr ((AM_F _ (by decide) _).tr (AM_mps _ _ _ _))), SM_ite ((SM_zso d r N).tr ((SM_kp _ o k).tr ((SM_T _ _).tr ((SM_pcw _ _ _ _ _).tr (SM_cpE _ _ _))))) (SM_zso d r N), (SD_zom _ _ _ m).tr ((SD_mkp _ k).tr ((SD_F _ _ _).tr (SD_mps _ _ _ _)))⟩
theorem act_both (ht : TR d m n row) (hb : BR d m N) (hs : SR d m) (hx : x < n) (hk : ¬ m.A 40 x = 0) : actR d m x := by
  obtain ⟨r, sd, o, k, hs⟩ := hs
  rcases kinds (ht.1.2.2.2.2.2.2.2 x hx).1 hk with h | h | h | h | h | h
  · exact act_1 ht hs hx h
  · exact act_2 ht hs hx h
  · exact act_3 ht hs hx h
  · exact act_4 ht hb hs hx h
  · exact act_5 ht hs hx h
  · exact act_6 ht hb hs hx h
end ActB
