/-! THE MODEL: acts of FORESEEN and OFFERED; press -/
theorem rnk_cases (z : Sg) (n : Nat) (k : Int32) : ∀ (m w : Nat), rnk z n k m w = -1 ∧ (∀ V, w ≤ V → V < w + m → ¬ rkC z n k V) ∨ ∃ V, w ≤ V ∧ V < w + m ∧ rnk z n k m w = nI V ∧ rkC z n k V
  | 0, w => Or.inl ⟨rfl, fun V h1 h2 => absurd h2 (by omega)⟩
  | m + 1, w => by
    rw [rnk]
    by_cases h : rkC z n k w
    · rw [if_pos h]
      exact Or.inr ⟨w, Nat.le_refl w, by omega, rfl, h⟩
    · rw [if_neg h]
      rcases rnk_cases z n k m (w + 1) with ⟨h1, h2⟩ | ⟨V, h1, h2, h3, h4⟩
      · refine Or.inl ⟨h1, fun V h3 h4 => ?_⟩
        by_cases e : V = w
        · rw [e]; exact h
        · exact h2 V (by omega) (by omega)
      · exact Or.inr ⟨V, by omega, by omega, h3, h4⟩
theorem A_fmk (t q : Nat) {a : Nat} (h : ¬ a = 58) : ∀ (m W : Nat) (z : Sg), (fmk t q m W z).A a = z.A a
  | 0, _, _ => rfl
  | m + 1, W, z => by rw [fmk, A_fmk t q h, A_stA, if_neg h]
theorem fmk_mark (t q : Nat) : ∀ (m W : Nat) (z : Sg) (V : Nat), (fmk t q m W z).A 58 V = if W ≤ V ∧ V < W + m then fmV z t q V else z.A 58 V
  | 0, W, z, V => by rw [fmk, if_neg (by omega)]
  | m + 1, W, z, V => by
    rw [fmk, fmk_mark t q m (W + 1)]
    by_cases h : W + 1 ≤ V ∧ V < W + 1 + m
    · rw [if_pos h, if_pos (by omega)]
      rfl
    · rw [if_neg h, A_stA, if_pos rfl]
      unfold upd
      by_cases h2 : V = W
      · rw [if_pos h2, if_pos (by omega), h2]
      · rw [if_neg h2, if_neg (by omega)]
theorem D_fmk (t q : Nat) : ∀ (m W : Nat) (z : Sg), (fmk t q m W z).D = z.D
  | 0, _, _ => rfl
  | m + 1, W, z => by rw [fmk, D_fmk]; rfl
theorem tx_zfm {t n : Nat} {z : Sg} (h : txOK z t) : txOK (zfm t n z) t := ⟨by unfold zfm; rw [F_fmk]; exact h.1, h.2⟩
theorem md_zfm {t n N : Nat} {z : Sg} (h : mdOK z N) : mdOK (zfm t n z) N := ⟨by unfold zfm; rw [F_fmk]; exact h.1, h.2.1, fun W hW => by unfold zfm; rw [A_fmk t _ (by decide)]; exact h.2.2 W hW⟩
/-- a word that the model foresees is longer than what is written -/
theorem fs_long {t n : Nat} {z : Sg} {k : Int32} {V : Nat} (hV : V < n) (h : rkC (zfm t n z) n k V) : fsM z t (mwr (z.A 48) t t 0) V (mwr (z.A 48) t t 0) := by
  have h1 := h.1
  unfold zfm at h1
  rw [fmk_mark, if_pos (by omega)] at h1
  unfold fmV at h1
  by_cases h2 : fsM z t (mwr (z.A 48) t t 0) V (mwr (z.A 48) t t 0)
  · exact h2
  · rw [if_neg h2] at h1
    exact absurd (by decide) h1
section Acts2
variable {z : Sg} {t k x n nn : Nat}
abbrev m4W (z : Sg) (t n x : Nat) : Int32 := rnk (zfm t n z) n (z.A 41 x) n 0
def mA4 (z : Sg) (t k n x : Nat) : Sg :=
  if m4W z t n x = -1 then zfm t n z else
  if t + (z.A 56 (m4W z t n x).toNatClampNeg).toNatClampNeg - mwr (z.A 48) t t 0 + 1 ≤ 200 then mpt (mps (m4W z t n x).toNatClampNeg ((z.A 56 (m4W z t n x).toNatClampNeg).toNatClampNeg - mwr (z.A 48) t t 0) (mwr (z.A 48) t t 0) (mkp (zfm t n z) k)) 32 else zfm t n z
theorem c_acts4 (hx : txOK z t) (hd : mdOK z n) (hk : k ≤ 100) (hF : z.F 39 26 = nI k) (hxl : x < 60) (hkd : z.A 40 x = 4) : EM mMod_acts 3 0 0 [.ref 39, .int (nI x)] (hp z) (Det none (hp (mA4 z t k n x))) := by
  have hcx : (nI x).toNatClampNeg = x := nI_clamp (by omega)
  have ht := hx.2
  have hkt : (z.A 40 x).toInt = 4 := by rw [hkd]; rfl
  have hx1 := tx_zfm (n := n) hx
  have hd1 := md_zfm (t := t) (n := n) hd
  have h48 : (zfm t n z).A 48 = z.A 48 := by unfold zfm; rw [A_fmk t _ (by decide)]
  have h56 : (zfm t n z).A 56 = z.A 56 := by unfold zfm; rw [A_fmk t _ (by decide)]
  have hF1 : (zfm t n z).F 39 26 = nI k := by unfold zfm; rw [F_fmk]; exact hF
  have hwr := c_Mod_written hx1
  rw [h48] at hwr
  have hle := mwr_le (z.A 48) t t 0
  unfold mA4
  refine E_aload_n dX11_acts_0 rfl ?_
  refine E_getf 1 dX11_acts_1 fl_X11_9 (by decide) (hg_39 _) rfl ?_
  refine E_iload_n dX11_acts_4 rfl ?_
  refine E_iald dX11_acts_5 (by decide) (hg_40 _) (vp_in_nI (by omega) (by omega)) ?_
  rw [hcx]
  refine E_tableIn 155 dX11_acts_6 (by omega) (by omega) (by rw [hkt]; rfl) (by decide) ?_
  skip
  rcases rnk_cases (zfm t n z) n (z.A 41 x) n 0 with ⟨h1, -⟩ | ⟨W, -, hW, h1, h2⟩
  ·
    refine E_aload_n dX11_acts_155 rfl ?_
    refine E_aload_n dX11_acts_156 rfl ?_
    refine E_getf 2 dX11_acts_157 fl_X11_13 (by decide) (hg_39 _) rfl ?_
    refine E_iload_n dX11_acts_160 rfl ?_
    refine E_iald dX11_acts_161 (by decide) (hg_41 _) (vp_in_nI (by omega) (by omega)) ?_
    rw [hcx]
    refine E_V1 dX11_acts_162 cv_X11_171 (by decide) (hg_39 _) rfl rfl (Nat.le_of_ble_eq_true rfl) (Nat.le_of_ble_eq_true rfl) (c_foreseenAt hx hd _) (by decide) (Nat.zero_le _) (Nat.zero_le _) ?_
    refine E_istore_n dX11_acts_165 (by decide) rfl ?_
    refine E_aload_n dX11_acts_166 rfl ?_
    refine E_V0 dX11_acts_167 cv_X11_174 (by decide) (hg_39 _) rfl rfl (Nat.le_of_ble_eq_true rfl) (Nat.le_of_ble_eq_true rfl) (hwr) (by decide) (Nat.zero_le _) (Nat.zero_le _) ?_
    refine E_istore_n dX11_acts_170 (by decide) rfl ?_
    refine E_iload_n dX11_acts_171 rfl ?_
    refine E_iconst (v := (-1)) dX11_acts_172 rfl ?_
    rw [h1]
    refine E_icmp_eq 197 dX11_acts_173 (by decide) (fun c_173 => ?_) (fun c_173 => ?_)
    · exact E_vret dX11_acts_197 rfl ⟨rfl, by rw [if_pos h1]⟩
    · exact absurd rfl c_173
  · have hWn : W < n := by omega
    have hn := hd.2.1
    obtain ⟨L, hL1, hL2, hL⟩ := hd.2.2 W hWn
    have hfs := fs_long hWn h2
    have hqL : mwr (z.A 48) t t 0 < L := by
      have h8 := hfs.1
      rw [hL, nI_leI (by omega) (by omega)] at h8
      omega
    have hcW : (nI W).toNatClampNeg = W := nI_clamp (by omega)
    have hcL : (nI L).toNatClampNeg = L := nI_clamp (by omega)
    rw [show m4W z t n x = nI W from h1, if_neg (nI_m1 (by omega)), hcW, hL, hcL]
    have h56k : (mkp (zfm t n z) k).A 56 W = nI L := by rw [A_mkp (by decide) (by decide) (by decide) (by decide), h56]; exact hL
    refine E_aload_n dX11_acts_155 rfl ?_
    refine E_aload_n dX11_acts_156 rfl ?_
    refine E_getf 2 dX11_acts_157 fl_X11_13 (by decide) (hg_39 _) rfl ?_
    refine E_iload_n dX11_acts_160 rfl ?_
    refine E_iald dX11_acts_161 (by decide) (hg_41 _) (vp_in_nI (by omega) (by omega)) ?_
    rw [hcx]
    refine E_V1 dX11_acts_162 cv_X11_171 (by decide) (hg_39 _) rfl rfl (Nat.le_of_ble_eq_true rfl) (Nat.le_of_ble_eq_true rfl) (c_foreseenAt hx hd _) (by decide) (Nat.zero_le _) (Nat.zero_le _) ?_
    rw [h1]
    refine E_istore_n dX11_acts_165 (by decide) rfl ?_
    refine E_aload_n dX11_acts_166 rfl ?_
    refine E_V0 dX11_acts_167 cv_X11_174 (by decide) (hg_39 _) rfl rfl (Nat.le_of_ble_eq_true rfl) (Nat.le_of_ble_eq_true rfl) (hwr) (by decide) (Nat.zero_le _) (Nat.zero_le _) ?_
    refine E_istore_n dX11_acts_170 (by decide) rfl ?_
    refine E_iload_n dX11_acts_171 rfl ?_
    refine E_iconst (v := (-1)) dX11_acts_172 rfl ?_
    refine E_icmp_eq 197 dX11_acts_173 (by decide) (fun c_173 => ?_) (fun c_173 => ?_)
    · exact absurd c_173 (nI_m1 (by omega))
    · refine E_aload_n dX11_acts_176 rfl ?_
      refine E_getf 24 dX11_acts_177 fl_X11_159 (by decide) (hg_39 _) rfl ?_
      rw [hx1.1]
      refine E_aload_n dX11_acts_180 rfl ?_
      refine E_getf 29 dX11_acts_181 fl_X11_73 (by decide) (hg_39 _) rfl ?_
      refine E_iload_n dX11_acts_184 rfl ?_
      refine E_iald dX11_acts_185 (by decide) (hg_56 _) (vp_in_nI (by omega) (by omega)) ?_
      rw [hcW, h56, hL]
      refine E_iadd dX11_acts_186 ?_
      rw [nI_add]
      refine E_iload_n dX11_acts_187 rfl ?_
      refine E_isub dX11_acts_188 ?_
      rw [pk_sub (by omega)]
      refine E_iconst (v := 1) dX11_acts_189 rfl ?_
      refine E_iadd dX11_acts_190 ?_
      rw [nI_1]
      refine E_sipush (v := 200) dX11_acts_191 rfl ?_
      refine E_icmp_le 198 dX11_acts_194 (by decide) (fun c_194 => ?_) (fun c_194 => ?_)
      · have hle2 := (nI_leI (b := 200) (by omega) (by omega)).mp c_194
        rw [if_pos hle2]
        refine E_aload_n dX11_acts_198 rfl ?_
        refine E_V0 dX11_acts_199 cv_X11_162 (by decide) (hg_39 _) rfl rfl (Nat.le_of_ble_eq_true rfl) (Nat.le_of_ble_eq_true rfl) (c_Mod_keep hk (zfm t n z) hF1) (by decide) (Nat.zero_le _) (Nat.zero_le _) ?_
        refine E_iload_n dX11_acts_202 rfl ?_
        refine E_istore dX11_acts_203 (by decide) rfl ?_
        refine E.pick [3, 4, 2, 1, 0] rfl ?_
        exact l_mps4 (by omega) hL2 (L - mwr (z.A 48) t t 0) (mwr (z.A 48) t t 0) t (mkp (zfm t n z) k) (by omega) (txm hx1) (by omega) h56k
      · exact E_vret dX11_acts_197 rfl ⟨rfl, by rw [if_neg (fun h9 => c_194 (nI_le (b := 200) h9 (by omega)))]⟩
theorem A_omk (t q nn : Nat) {a : Nat} (h : ¬ a = 58) : ∀ (m W : Nat) (p : Bool) (z : Sg), (omk t q nn m W p z).2.A a = z.A a
  | 0, _, _, _ => rfl
  | m + 1, W, p, z => by
    rw [omk]
    split
    · rw [A_omk t q nn h]
      unfold omz om1
      split
      · rw [A_stA, if_neg h, A_stA, if_neg h]
      · rw [A_stA, if_neg h]
    · rw [A_omk t q nn h]
      unfold om1
      rw [A_stA, if_neg h]
theorem F_omz (z : Sg) (t q nn W : Nat) : (omz z t q nn W).F = z.F := by
  unfold omz
  split <;> rfl
theorem F_omk (t q nn : Nat) : ∀ (m W : Nat) (p : Bool) (z : Sg), (omk t q nn m W p z).2.F = z.F
  | 0, _, _, _ => rfl
  | m + 1, W, p, z => by
    rw [omk]
    split
    · rw [F_omk, F_omz]
    · rw [F_omk]; rfl
theorem D_omz (z : Sg) (t q nn W : Nat) : (omz z t q nn W).D = z.D := by
  unfold omz
  split <;> rfl
theorem D_omk (t q nn : Nat) : ∀ (m W : Nat) (p : Bool) (z : Sg), (omk t q nn m W p z).2.D = z.D
  | 0, _, _, _ => rfl
  | m + 1, W, p, z => by
    rw [omk]
    split
    · rw [D_omk, D_omz]
    · rw [D_omk]; rfl
theorem ofR_cases (t n nn : Nat) (z : Sg) (k : Int32) : ofR t n nn z k = -1 ∨ ∃ W, W < n ∧ ofR t n nn z k = nI W ∧ rkC (zom t n nn z).2 n k W ∧ (zom t n nn z).1 = false := by
  unfold ofR
  by_cases h : (zom t n nn z).1 = true
  · rw [if_pos h]
    exact Or.inl rfl
  · rw [if_neg h]
    rcases rnk_cases (zom t n nn z).2 n k n 0 with ⟨h1, -⟩ | ⟨W, -, h2, h3, h4⟩
    · exact Or.inl h1
    · exact Or.inr ⟨W, by omega, h3, h4, by simpa using h⟩
def mA6 (z : Sg) (t k n nn x : Nat) : Sg :=
  if ofR t n nn z (z.A 41 x) = -1 then (zom t n nn z).2 else
  mps (ofR t n nn z (z.A 41 x)).toNatClampNeg (z.A 56 (ofR t n nn z (z.A 41 x)).toNatClampNeg).toNatClampNeg 0 (stF (mkp (zom t n nn z).2 k) 39 24 (nI (t - mwr (z.A 48) t t 0)))
theorem c_acts6 (hx : txOK z t) (hd : mdOK z n) (hT : mtOK z nn) (hk : k ≤ 100) (hF : z.F 39 26 = nI k) (hxl : x < 60) (hkd : z.A 40 x = 6) (hlen : ∀ W L, W < n → L ≤ 12 → ofR t n nn z (z.A 41 x) = nI W → z.A 56 W = nI L → t - mwr (z.A 48) t t 0 + L ≤ 200) : EM mMod_acts 3 0 0 [.ref 39, .int (nI x)] (hp z) (Det none (hp (mA6 z t k n nn x))) := by
  have hcx : (nI x).toNatClampNeg = x := nI_clamp (by omega)
  have ht := hx.2
  have hkt : (z.A 40 x).toInt = 6 := by rw [hkd]; rfl
  have hx1 : txOK (zom t n nn z).2 t := ⟨by unfold zom; rw [F_omk]; exact hx.1, ht⟩
  have h48 : (mkp (zom t n nn z).2 k).A 48 = z.A 48 := by rw [A_mkp (by decide) (by decide) (by decide) (by decide)]; unfold zom; rw [A_omk _ _ _ (by decide)]
  have h56 : (mkp (zom t n nn z).2 k).A 56 = z.A 56 := by rw [A_mkp (by decide) (by decide) (by decide) (by decide)]; unfold zom; rw [A_omk _ _ _ (by decide)]
  have hF1 : (zom t n nn z).2.F 39 26 = nI k := by unfold zom; rw [F_omk]; exact hF
  have hwr := c_Mod_written (txm (k := k) hx1)
  rw [h48] at hwr
  have hle := mwr_le (z.A 48) t t 0
  unfold mA6
  refine E_aload_n dX11_acts_0 rfl ?_
  refine E_getf 1 dX11_acts_1 fl_X11_9 (by decide) (hg_39 _) rfl ?_
  refine E_iload_n dX11_acts_4 rfl ?_
  refine E_iald dX11_acts_5 (by decide) (hg_40 _) (vp_in_nI (by omega) (by omega)) ?_
  rw [hcx]
  refine E_tableOut 245 dX11_acts_6 (by omega) (by decide) ?_
  skip
  rcases ofR_cases t n nn z (z.A 41 x) with h1 | ⟨W, hW, h1, -, -⟩
  ·
    refine E_aload_n dX11_acts_245 rfl ?_
    refine E_aload_n dX11_acts_246 rfl ?_
    refine E_getf 2 dX11_acts_247 fl_X11_13 (by decide) (hg_39 _) rfl ?_
    refine E_iload_n dX11_acts_250 rfl ?_
    refine E_iald dX11_acts_251 (by decide) (hg_41 _) (vp_in_nI (by omega) (by omega)) ?_
    rw [hcx]
    refine E_V1 dX11_acts_252 cv_X11_178 (by decide) (hg_39 _) rfl rfl (Nat.le_of_ble_eq_true rfl) (Nat.le_of_ble_eq_true rfl) (c_offeredAt hx hd hT _) (by decide) (Nat.zero_le _) (Nat.zero_le _) ?_
    refine E_istore_n dX11_acts_255 (by decide) rfl ?_
    refine E_iload_n dX11_acts_256 rfl ?_
    refine E_iconst (v := (-1)) dX11_acts_257 rfl ?_
    rw [h1]
    refine E_icmp_ne 262 dX11_acts_258 (by decide) (fun c_258 => ?_) (fun c_258 => ?_)
    · exact absurd rfl c_258
    · exact E_vret dX11_acts_261 rfl ⟨rfl, by rw [if_pos rfl]⟩
  · have hn := hd.2.1
    obtain ⟨L, hL1, hL2, hL⟩ := hd.2.2 W hW
    have hcW : (nI W).toNatClampNeg = W := nI_clamp (by omega)
    have hcL : (nI L).toNatClampNeg = L := nI_clamp (by omega)
    have hl2 := hlen W L hW hL2 h1 hL
    rw [h1, if_neg (nI_m1 (by omega)), hcW, hL, hcL]
    refine E_aload_n dX11_acts_245 rfl ?_
    refine E_aload_n dX11_acts_246 rfl ?_
    refine E_getf 2 dX11_acts_247 fl_X11_13 (by decide) (hg_39 _) rfl ?_
    refine E_iload_n dX11_acts_250 rfl ?_
    refine E_iald dX11_acts_251 (by decide) (hg_41 _) (vp_in_nI (by omega) (by omega)) ?_
    rw [hcx]
    refine E_V1 dX11_acts_252 cv_X11_178 (by decide) (hg_39 _) rfl rfl (Nat.le_of_ble_eq_true rfl) (Nat.le_of_ble_eq_true rfl) (c_offeredAt hx hd hT _) (by decide) (Nat.zero_le _) (Nat.zero_le _) ?_
    rw [h1]
    refine E_istore_n dX11_acts_255 (by decide) rfl ?_
    refine E_iload_n dX11_acts_256 rfl ?_
    refine E_iconst (v := (-1)) dX11_acts_257 rfl ?_
    refine E_icmp_ne 262 dX11_acts_258 (by decide) (fun c_258 => ?_) (fun c_258 => ?_)
    · refine E_aload_n dX11_acts_262 rfl ?_
      refine E_V0 dX11_acts_263 cv_X11_162 (by decide) (hg_39 _) rfl rfl (Nat.le_of_ble_eq_true rfl) (Nat.le_of_ble_eq_true rfl) (c_Mod_keep hk (zom t n nn z).2 hF1) (by decide) (Nat.zero_le _) (Nat.zero_le _) ?_
      refine E_aload_n dX11_acts_266 rfl ?_
      refine E_dup dX11_acts_267 rfl ?_
      refine E_getf 24 dX11_acts_268 fl_X11_159 (by decide) (hg_39 _) rfl ?_
      rw [(txm hx1).1]
      refine E_aload_n dX11_acts_271 rfl ?_
      refine E_V0 dX11_acts_272 cv_X11_174 (by decide) (hg_39 _) rfl rfl (Nat.le_of_ble_eq_true rfl) (Nat.le_of_ble_eq_true rfl) (hwr) (by decide) (Nat.zero_le _) (Nat.zero_le _) ?_
      refine E_isub dX11_acts_275 ?_
      rw [pk_sub (by omega)]
      refine E_put 24 dX11_acts_276 fp_X11_159 (fitsV_int _) (by decide) (hg_39 _) (Nat.le_of_ble_eq_true rfl) ?_
      rw [hs_39_24]
      refine E_iconst (v := 0) dX11_acts_279 rfl ?_
      refine E_istore_n dX11_acts_280 (by decide) rfl ?_
      refine E.pick [2, 3, 1, 0] rfl ?_
      exact l_mps6 (by omega) hL2 L 0 (t - mwr (z.A 48) t t 0) (stF (mkp (zom t n nn z).2 k) 39 24 (nI (t - mwr (z.A 48) t t 0))) (by omega) ⟨rfl, by omega⟩ hl2 (by show (mkp (zom t n nn z).2 k).A 56 W = nI L; rw [h56]; exact hL)
    · exact absurd c_258 (nI_m1 (by omega))
end Acts2
