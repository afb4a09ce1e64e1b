/-! FORESEEN and OFFERED taken: both sides -/
def AF (d d' : Sg) : Prop := (∀ a, ¬ (29 ≤ a ∧ a ≤ 31) → d'.A a = d.A a) ∧ (∀ i, ¬ i = 18 → ¬ i = 28 → d'.F i = d.F i)
def AM (m m' : Sg) : Prop := (∀ a, ¬ (48 ≤ a ∧ a ≤ 53) → ¬ a = 58 → m'.A a = m.A a) ∧ (∀ j, ¬ (24 ≤ j ∧ j ≤ 26) → m'.F 39 j = m.F 39 j)
theorem AF.rf (z : Sg) : AF z z := ⟨fun _ _ => rfl, fun _ _ _ => rfl⟩
theorem AM.rf (z : Sg) : AM z z := ⟨fun _ _ _ => rfl, fun _ _ => rfl⟩
theorem AF.tr {a b c : Sg} (h : AF a b) (k : AF b c) : AF a c := ⟨fun i hi => (k.1 i hi).trans (h.1 i hi), fun i h1 h2 => (k.2 i h1 h2).trans (h.2 i h1 h2)⟩
theorem AM.tr {a b c : Sg} (h : AM a b) (k : AM b c) : AM a c := ⟨fun i h1 h2 => (k.1 i h1 h2).trans (h.1 i h1 h2), fun i h1 => (k.2 i h1).trans (h.2 i h1)⟩
theorem AF_kp (z : Sg) (o k : Nat) : AF z (kp z o k) := ⟨fun a _ => by rw [A_kp], fun i h1 _ => funext fun j => F_kp z o k h1 j⟩
theorem AF_T (z : Sg) (t : Nat) : AF z (stT z t) := ⟨fun _ _ => rfl, fun _ _ _ => rfl⟩
theorem AF_S (z : Sg) (t : Option Nat) : AF z (stS z t) := ⟨fun _ _ => rfl, fun _ _ _ => rfl⟩
theorem AF_pch (z : Sg) (x : Int32) (n : Nat) : AF z (pch z x n) := ⟨fun _ _ => rfl, fun _ _ _ => rfl⟩
theorem AF_tb (z : Sg) (o k : Nat) : AF z (tb z o k) := ⟨fun _ _ => rfl, fun i h1 _ => Fi_stF z 18 4 _ h1⟩
theorem AF_ite {c : Prop} [Decidable c] {z a b : Sg} (h : AF z a) (k : AF z b) : AF z (if c then a else b) := by split <;> assumption
theorem AM_ite {c : Prop} [Decidable c] {z a b : Sg} (h : AM z a) (k : AM z b) : AM z (if c then a else b) := by split <;> assumption
theorem AF_zsf (z : Sg) (r : List Int32) (n : Nat) : AF z (zsf z r n) := ⟨fun a h => A_zsf z r n (by omega) (by omega) (by omega), fun i _ h2 => funext fun j => F_zsf z r n h2 j⟩
theorem AF_zso (z : Sg) (r : List Int32) (n : Nat) : AF z (zso z r n) := ⟨fun a h => A_zso z r n (by omega) (by omega) (by omega), fun i _ h2 => funext fun j => F_zso z r n h2 j⟩
theorem AM_mkp (z : Sg) (k : Nat) : AM z (mkp z k) := ⟨fun a h _ => A_mkp (by omega) (by omega) (by omega) (by omega), fun j h => F_mkp (by omega)⟩
theorem AM_F (z : Sg) {j : Nat} (h : 24 ≤ j ∧ j ≤ 26) (v : Int32) : AM z (stF z 39 j v) := ⟨fun _ _ _ => rfl, fun l hl => F_oth _ _ _ _ (by omega)⟩
theorem AM_A (z : Sg) {a : Nat} (h : 48 ≤ a ∧ a ≤ 53) (f : Nat → Int32) : AM z (stA z a f) := ⟨fun b h1 _ => by rw [A_stA, if_neg (by omega)], fun _ _ => rfl⟩
theorem AM_mpt (z : Sg) (x : Int32) : AM z (mpt z x) := (AM_A z (by decide) _).tr (AM_F _ (by decide) _)
theorem AM_mps (W : Nat) : ∀ (m i : Nat) (z : Sg), AM z (mps W m i z)
  | 0, _, z => AM.rf z
  | m + 1, i, z => by rw [mps]; exact (AM_mpt z _).tr (AM_mps W m (i + 1) _)
theorem AM_mun (z : Sg) (k : Nat) : AM z (mun z k) := (AM_F z (by decide) _).tr (((AM_A _ (by decide) _).tr (AM_A _ (by decide) _)).tr ((AM_F _ (by decide) _).tr (AM_F _ (by decide) _)))
theorem AM_mspk (z : Sg) (t : Nat) : AM z (mspk z t) := (AM_A z (by decide) _).tr ((AM_F _ (by decide) _).tr (AM_F _ (by decide) _))
theorem AM_zfm (t n : Nat) (z : Sg) : AM z (zfm t n z) := ⟨fun a _ h => A_fmk t _ h n 0 z, fun j _ => by unfold zfm; rw [F_fmk]⟩
theorem AM_zom (t n nn : Nat) (z : Sg) : AM z (zom t n nn z).2 := ⟨fun a _ h => A_omk t _ nn h n 0 _ z, fun j _ => by unfold zom; rw [F_omk]⟩
theorem SX_AF {d m d' m' : Sg} {r : List Int32} {sd : Option (List Int32)} {o k : Nat} (h : SX d m r sd o k) (hK : d'.2.2 = d.2.2) (hF : d'.F 18 = d.F 18) (h39 : m'.F 39 = m.F 39) (hA : ∀ a, 48 ≤ a → a ≤ 53 → m'.A a = m.A a) : SX d' m' r sd o k := h.c (congrArg (fun q => q.2.1.1) hK) (congrArg (fun q => q.2.1.2) hK) (congrArg (fun q => q.2.2.1) hK) ⟨[], by rw [List.append_nil]; exact congrArg (fun q => q.2.2.2.2) hK⟩ hF (by rw [h39]) (by rw [h39]) (by rw [h39]) hA
theorem pcw_add (b W : Nat) : ∀ (x y i : Nat) (z : Sg), pcw (x + y) i b W z = pcw y (i + x) b W (pcw x i b W z)
  | 0, y, i, z => by rw [Nat.zero_add, Nat.add_zero]; rfl
  | x + 1, y, i, z => by rw [show x + 1 + y = x + y + 1 by omega, pcw, pcw, pcw_add b W x y, show i + 1 + x = i + (x + 1) by omega]
section Compl
variable {d m : Sg} {r : List Int32} {sd : Option (List Int32)} {o k : Nat}
theorem SX_T (h : SX d m r sd o k) {d' : Sg} (hc : ch d'.D d'.T r) (hD : ∃ w, d'.D = d.D ++ w) (hS : d'.S = d.S) (hP : d'.P = d.P) (hF : d'.F 18 = d.F 18) : SX d' m r sd o k := by
  obtain ⟨w, hD⟩ := hD
  obtain ⟨⟨a1, a2, a3, a4, a5⟩, b, c1, c2, c3, c4⟩ := h
  unfold SX
  rw [hS, hP, hF]
  refine ⟨⟨hc, a2, a3, a4, a5⟩, ?_, c1, c2, c3, ?_⟩
  · rw [hD]; exact b.mono w
  · rw [hD]; exact c4.mono w
theorem pu_ok (g : Nat → Int32) : ∀ (k i : Nat) (r : List Int32), (∀ x ∈ r, okB x) → (∀ j, i ≤ j → j < i + k → okB (g j)) → ∀ x ∈ pu g k i r, okB x
  | 0, _, _, h, _ => h
  | k + 1, i, r, h, hg => by
    rw [pu]
    refine pu_ok g k (i + 1) _ (fun x hx => ?_) (fun j h1 h2 => hg j (by omega) (by omega))
    rcases List.mem_cons.mp hx with e | e
    · rw [e]; exact hg i (Nat.le_refl i) (by omega)
    · exact h x e
theorem SX_word (h : SX d m r sd o k) {W a i b : Nat} (hb : r.length = b + i) (hl : r.length + a ≤ 200) (hg : ∀ j, i ≤ j → j < i + a → d.A 25 (12 * W + j) = m.A 55 (12 * W + j) ∧ okB (m.A 55 (12 * W + j))) : SX (pcw a i b W d) (mps W a i m) (pu (fun j => m.A 55 (12 * W + j)) a i r) sd o k := by
  obtain ⟨⟨a1, a2, a3, a4, a5⟩, b1, c1, c2, c3, c4⟩ := h
  obtain ⟨e1, ⟨w, e2⟩, e3, e4, e5, e6⟩ := pcw_ok W b a i d r a1 hb
  obtain ⟨f1, f2, f3, f4⟩ := mps_ok W a i m r a4 hl a5 (fun j h1 h2 => (hg j h1 h2).2)
  rw [pu_c (g' := fun j => m.A 55 (12 * W + j)) a i r (fun j h1 h2 => (hg j h1 h2).1)] at e1
  unfold SX
  rw [e3, e4, e5, f3 49 (by decide), f3 50 (by decide), f3 51 (by decide), f3 52 (by decide), f3 53 (by decide), f4 25 (by decide), f4 26 (by decide)]
  refine ⟨⟨e1, by rw [pu_len]; omega, pu_ok _ a i r a3 (fun j h1 h2 => (hg j h1 h2).2), by rw [f2, pu_len], f1⟩, ?_, c1, c2, c3, ?_⟩
  · rw [e2]; exact b1.mono w
  · rw [e2]; exact c4.mono w
/-- a word put behind what is written of it -/
theorem SX_compl (h : SX d m r sd o k) {W L q c' : Nat} (hc : ch d.D c' (r.drop q)) (hq : q ≤ r.length) (hqL : q ≤ L) (hl : r.length - q + L ≤ 200) (hg : ∀ j, j < L → d.A 25 (12 * W + j) = m.A 55 (12 * W + j) ∧ okB (m.A 55 (12 * W + j))) (hw : ∀ i, i < q → m.A 55 (12 * W + i) = r.getD (q - 1 - i) 0) : ∃ r', r'.length = r.length - q + L ∧ SX (pcw L 0 (r.length - q) W (stT d c')) (mps W (L - q) q m) r' sd o k := by
  have hspl : pcw L 0 (r.length - q) W (stT d c') = pcw (L - q) q (r.length - q) W (pcw q 0 (r.length - q) W (stT d c')) := by
    have h9 := pcw_add (r.length - q) W q (L - q) 0 (stT d c')
    rw [Nat.zero_add, show q + (L - q) = L by omega] at h9
    exact h9
  obtain ⟨e1, ⟨w, e2⟩, e3, e4, e5, e6⟩ := pcw_ok W (r.length - q) q 0 (stT d c') (r.drop q) hc (by rw [List.length_drop]; omega)
  have hback : pu (fun j => (stT d c').A 25 (12 * W + j)) q 0 (r.drop q) = r := by
    have h9 := pu_back (fun j => (stT d c').A 25 (12 * W + j)) hq (fun i hi => by
      show d.A 25 (12 * W + i) = _
      rw [(hg i (by omega)).1]
      exact hw i hi) q (Nat.le_refl q)
    rw [h9, Nat.sub_self]
    rfl
  rw [hback] at e1
  have h2 : SX (pcw q 0 (r.length - q) W (stT d c')) m r sd o k := SX_T h e1 ⟨w, e2⟩ e3 e4 (by rw [e5]; rfl)
  have h3 := SX_word h2 (W := W) (a := L - q) (i := q) (b := r.length - q) (by omega) (by omega) (fun j h1 h2 => by rw [e6]; exact hg j (by omega))
  rw [← hspl] at h3
  exact ⟨_, by rw [pu_len]; omega, h3⟩
theorem SX_act4 {N n W L c' : Nat} {row : Nat → List Nat} (hb : BR d m N) (h : SX d m r sd o k) {v : Int32} (hW : W < N) (hL : d.A 26 W = nI L) (hL2 : L ≤ 12) (hf : fat (zsf d r N) v = nI W) (hc : ch d.D c' (r.drop (wr r))) : SR (if cmOK true L r.length (wr r) then cpE true (pcw L 0 (r.length - wr r) W (stT (kp (zsf d r N) o k) c')) (r.length - wr r + L) else zsf d r N) (if r.length + L - wr r + 1 ≤ 200 then mpt (mps W (L - wr r) (wr r) (mkp (zfm r.length N m) k)) 32 else zfm r.length N m) := by
  have hx := h.1.2.2.2.2
  have hl := h.1.2.1
  have hle := wr_le r
  have hN := hb.2.2.1
  obtain ⟨hT, hS, hD⟩ := K4 d r N
  have hs0 : SX (zsf d r N) (zfm r.length N m) r sd o k := SX_AF h (K_zsf d r N) (funext fun j => F_zsf d r N (by decide) j) (by unfold zfm; rw [F_fmk]) (fun a h1 h2 => by unfold zfm; rw [A_fmk _ _ (by omega)])
  -- the word is longer than what is written, and begins with it
  have hfs : fsM m r.length (wr r) W (wr r) := by
    have h9 := fore_rank hb hl hx (z := m) rfl rfl rfl rfl v
    rw [hf] at h9
    rcases rnk_cases (zfm r.length N m) N v N 0 with ⟨a1, -⟩ | ⟨V, -, a2, a3, a4⟩
    · rw [a1] at h9
      exact absurd h9.symm (nI_m1 (by omega))
    · rw [a3, nI_eq (by omega) (by omega)] at h9
      have h8 := fs_long (by omega) a4
      rw [mwr_eq hx, h9] at h8
      exact h8
  obtain ⟨⟨L', l1, l2, l3, l4, l5⟩, -⟩ := hb.2.2.2 W hW
  have hLL : L' = L := by
    rw [l3, nI_eq (by omega) (by omega)] at hL
    exact hL
  subst hLL
  have hqL : wr r < L' := by
    have h9 := hfs.1
    rw [l4] at h9
    rcases Nat.lt_or_ge (wr r) L' with h8 | h8
    · exact h8
    · exact absurd (nI_le h8 (by omega)) h9
  by_cases hok : r.length - wr r + L' + 1 ≤ 200
  · rw [if_pos (show cmOK true L' r.length (wr r) from ⟨by omega, by rw [if_pos rfl]; exact hok⟩), if_pos (by omega)]
    obtain ⟨o', k', -, h3⟩ := RG_keep hs0
    have e25 : (kp (zsf d r N) o k).A 25 = d.A 25 := by rw [A_kp, A_zsf _ _ _ (by decide) (by decide) (by decide)]
    have e55 : (mkp (zfm r.length N m) k).A 55 = m.A 55 := by
      rw [A_mkp (by decide) (by decide) (by decide) (by decide)]
      unfold zfm
      rw [A_fmk _ _ (by decide)]
    obtain ⟨r', r1, r2⟩ := SX_compl h3 (W := W) (L := L') (q := wr r) (c' := c') (by rw [D_kp, hD]; exact hc) hle (by omega) (by omega) (fun j hj => by rw [e25, e55]; exact ⟨(l5 j hj).1, Or.inl (l5 j hj).2⟩) (fun i hi => by rw [e55, hfs.2 i hi, tx_at hx hi])
    have h4 := SX_put r2 (by omega) (v := 32) (Or.inr rfl)
    rw [r1] at h4
    exact ⟨_, _, _, _, h4⟩
  · rw [if_neg (show ¬ cmOK true L' r.length (wr r) from fun h9 => hok (by have := h9.2; rw [if_pos rfl] at this; exact this)), if_neg (by omega)]
    exact ⟨_, _, _, _, hs0⟩
theorem off_len {N n W : Nat} {row : Nat → List Nat} (ht : TR d m n row) (hb : BR d m N) (hl : r.length ≤ 200) (hx : TX (m.A 48) r) {v : Int32} (hf : fat (zso d r N) v = nI W) (hW : W < N) : m.A 56 W = nI (wr r) := by
  have hN := hb.2.2.1
  have h9 := off_rank ht hb hl hx (z := m) (fun _ _ => rfl) v
  rw [hf] at h9
  have e48 : mwr (m.A 48) r.length r.length 0 = wr r := mwr_eq hx
  rcases ofR_cases r.length N n m v with a1 | ⟨V, a1, a2, a3, -⟩
  · rw [a1] at h9
    exact absurd h9.symm (nI_m1 (by omega))
  · rw [a2, nI_eq (by omega) (by omega)] at h9
    subst h9
    have h8 := a3.1
    unfold zom at h8
    rw [e48, (omk_58 (m := m) r.length (wr r) n N 0 _ m (fun _ _ => rfl)).1, if_pos (by omega)] at h8
    unfold omV at h8
    by_cases e : m.A 56 V = nI (wr r)
    · exact e
    · rw [if_neg e] at h8
      exact absurd (by decide) h8
theorem SX_act6 {N n W L c' : Nat} {row : Nat → List Nat} (ht : TR d m n row) (hb : BR d m N) (h : SX d m r sd o k) {v : Int32} (hW : W < N) (hL : d.A 26 W = nI L) (hL2 : L ≤ 12) (hf : fat (zso d r N) v = nI W) (hc : ch d.D c' (r.drop (wr r))) : SR (if cmOK false L r.length (wr r) then cpE false (pcw L 0 (r.length - wr r) W (stT (kp (zso d r N) o k) c')) (r.length - wr r + L) else zso d r N) (mps W L 0 (stF (mkp (zom r.length N n m).2 k) 39 24 (nI (r.length - wr r)))) := by
  have hx := h.1.2.2.2.2
  have hl := h.1.2.1
  have hle := wr_le r
  have hN := hb.2.2.1
  obtain ⟨hT, hS, hD⟩ := K6 d r N
  have hs0 : SX (zso d r N) (zom r.length N n m).2 r sd o k := SX_AF h (K_zso d r N) (funext fun j => F_zso d r N (by decide) j) (by unfold zom; rw [F_omk]) (fun a h1 h2 => by unfold zom; rw [A_omk _ _ _ (by omega)])
  obtain ⟨⟨L', l1, l2, l3, l4, l5⟩, -⟩ := hb.2.2.2 W hW
  have hLL : L' = L := by
    rw [l3, nI_eq (by omega) (by omega)] at hL
    exact hL
  subst hLL
  have hLq : L' = wr r := by
    have h9 := off_len ht hb hl hx hf hW
    rw [l4, nI_eq (by omega) (by omega)] at h9
    exact h9
  rw [if_pos (show cmOK false L' r.length (wr r) from ⟨by omega, by rw [if_neg (by decide)]; omega⟩)]
  obtain ⟨o', k', -, h3⟩ := RG_keep hs0
  have h4 := SX_cut h3 (q := wr r) (c' := c') (by rw [D_kp, hD]; exact hc) hle
  have e25 : (kp (zso d r N) o k).A 25 = d.A 25 := by rw [A_kp, A_zso _ _ _ (by decide) (by decide) (by decide)]
  have e55 : (mkp (zom r.length N n m).2 k).A 55 = m.A 55 := by
    rw [A_mkp (by decide) (by decide) (by decide) (by decide)]
    unfold zom
    rw [A_omk _ _ _ (by decide)]
  have h5 := SX_word h4 (W := W) (a := L') (i := 0) (b := r.length - wr r) (by rw [List.length_drop]; omega) (by rw [List.length_drop]; omega) (fun j h1 h2 => by
    show (kp (zso d r N) o k).A 25 (12 * W + j) = (mkp (zom r.length N n m).2 k).A 55 (12 * W + j) ∧ okB ((mkp (zom r.length N n m).2 k).A 55 (12 * W + j))
    rw [e25, e55]
    exact ⟨(l5 j (by omega)).1, Or.inl (l5 j (by omega)).2⟩)
  exact ⟨_, _, _, _, h5⟩
end Compl
