/-! FRAMES: what the desk's steps leave of the model, and the model's of the desk -/
def SD (z z' : Sg) : Prop := (∀ a, a < 40 → z'.A a = z.A a) ∧ (∀ i, ¬ i = 39 → z'.F i = z.F i) ∧ z'.T = z.T ∧ z'.S = z.S ∧ z'.P = z.P ∧ (∃ w, z'.D = z.D ++ w) ∧ z'.X = z.X
def SM (z z' : Sg) : Prop := (∀ a, 40 ≤ a → z'.A a = z.A a) ∧ z'.F 39 = z.F 39 ∧ z'.X = z.X
theorem SM.rf (z : Sg) : SM z z := ⟨fun _ _ => rfl, rfl, rfl⟩
theorem SM.tr {a b c : Sg} (h : SM a b) (k : SM b c) : SM a c := ⟨fun i hi => (k.1 i hi).trans (h.1 i hi), k.2.1.trans h.2.1, k.2.2.trans h.2.2⟩
theorem SD.rf (z : Sg) : SD z z := ⟨fun _ _ => rfl, fun _ _ => rfl, rfl, rfl, rfl, ⟨[], (List.append_nil _).symm⟩, rfl⟩
theorem SD.tr {a b c : Sg} (h : SD a b) (k : SD b c) : SD a c := by
  obtain ⟨h1, h2, h3, h4, h5, ⟨w, h6⟩, h7⟩ := h
  obtain ⟨k1, k2, k3, k4, k5, ⟨v, k6⟩, k7⟩ := k
  exact ⟨fun i hi => (k1 i hi).trans (h1 i hi), fun i hi => (k2 i hi).trans (h2 i hi), k3.trans h3, k4.trans h4, k5.trans h5, ⟨w ++ v, by rw [k6, h6, List.append_assoc]⟩, k7.trans h7⟩
theorem Fi_stF (z : Sg) (i j : Nat) (v : Int32) {k : Nat} (h : ¬ k = i) : (stF z i j v).F k = z.F k := funext fun l => by rw [F_stF, if_neg h]
theorem SM_A (z : Sg) {a : Nat} (h : a < 40) (f : Nat → Int32) : SM z (stA z a f) := ⟨fun b hb => by rw [A_stA, if_neg (by omega)], rfl, rfl⟩
theorem SM_F (z : Sg) {i : Nat} (h : ¬ 39 = i) (j : Nat) (v : Int32) : SM z (stF z i j v) := ⟨fun _ _ => rfl, Fi_stF z i j v h, rfl⟩
theorem SM_T (z : Sg) (t : Nat) : SM z (stT z t) := ⟨fun _ _ => rfl, rfl, rfl⟩
theorem SM_S (z : Sg) (t : Option Nat) : SM z (stS z t) := ⟨fun _ _ => rfl, rfl, rfl⟩
theorem SM_P (z : Sg) (i : Nat) (f : Nat → Option Nat) : SM z (stP z i f) := ⟨fun _ _ => rfl, rfl, rfl⟩
theorem SM_D (z : Sg) (w : HP) : SM z (stD z w) := ⟨fun _ _ => rfl, rfl, rfl⟩
theorem SM_L (z : Sg) (i : Nat) (f : Nat → Int64) : SM z (stL z i f) := ⟨fun _ _ => rfl, rfl, rfl⟩
theorem SD_A (z : Sg) {a : Nat} (h : 40 ≤ a) (f : Nat → Int32) : SD z (stA z a f) := ⟨fun b hb => by rw [A_stA, if_neg (by omega)], fun _ _ => rfl, rfl, rfl, rfl, ⟨[], (List.append_nil _).symm⟩, rfl⟩
theorem SD_F (z : Sg) (j : Nat) (v : Int32) : SD z (stF z 39 j v) := ⟨fun _ _ => rfl, fun i hi => Fi_stF z 39 j v hi, rfl, rfl, rfl, ⟨[], (List.append_nil _).symm⟩, rfl⟩
theorem SD_L (z : Sg) (i : Nat) (f : Nat → Int64) : SD z (stL z i f) := ⟨fun _ _ => rfl, fun _ _ => rfl, rfl, rfl, rfl, ⟨[], (List.append_nil _).symm⟩, rfl⟩
theorem SD_D (z : Sg) (w : HP) : SD z (stD z (z.D ++ w)) := ⟨fun _ _ => rfl, fun _ _ => rfl, rfl, rfl, rfl, ⟨w, rfl⟩, rfl⟩
theorem SM_ite {c : Prop} [Decidable c] {z a b : Sg} (h : SM z a) (k : SM z b) : SM z (if c then a else b) := by split <;> assumption
theorem SD_ite {c : Prop} [Decidable c] {z a b : Sg} (h : SD z a) (k : SD z b) : SD z (if c then a else b) := by split <;> assumption
/-! the desk -/
theorem SM_li1 : ∀ (m i : Nat) (z : Sg), SM z (li1 m i z)
  | 0, _, z => SM.rf z
  | m + 1, i, z => by rw [li1]; exact (SM_A z (by decide) _).tr (SM_li1 m (i + 1) _)
theorem SM_li2 : ∀ (i : Nat) (z : Sg), SM z (li2 i z)
  | 0, z => SM.rf z
  | i + 1, z => by rw [li2]; exact (SM_ite (SM_A z (by decide) _) (SM.rf z)).tr (SM_li2 i _)
theorem SM_flz (n : Nat) (z : Sg) {a : Nat} (h : a < 40) (v : Int32) : SM z (flz n z a v) := SM_A z h _
theorem SM_zcl (z : Sg) : SM z (zcl z) := (SM_flz 60 z (by decide) 0).tr ((SM_flz 60 _ (by decide) (-1)).tr ((SM_flz 60 _ (by decide) (-1)).tr ((SM_flz 60 _ (by decide) (-1)).tr ((SM_flz 60 _ (by decide) (-1)).tr (SM_flz 26 _ (by decide) 0)))))
theorem SM_jn (z : Sg) (o t : Int32) : SM z (jn z o t) := SM_ite ((SM_A z (by decide) _).tr (SM_A _ (by decide) _)) (SM.rf z)
theorem SM_sb1 (z : Sg) (nd g : Int32) : SM z (sb1 z nd g) := (SM_A z (by decide) _).tr ((SM_A _ (by decide) _).tr (SM_A _ (by decide) _))
theorem SM_sb (z : Sg) (nd g : Int32) : SM z (sb z nd g) := SM_ite (((SM_sb1 z nd g).tr (SM_A _ (by decide) _)).tr (SM_jn _ _ _)) ((SM_sb1 z nd g).tr (SM_A _ (by decide) _))
theorem SM_li3 : ∀ (m i : Nat) (z : Sg), SM z (li3 m i z)
  | 0, _, z => SM.rf z
  | m + 1, i, z => by rw [li3]; exact (SM_ite (SM_sb z _ _) (SM.rf z)).tr (SM_li3 m (i + 1) _)
theorem SM_zfl (n : Nat) (z : Sg) : SM z (zfl n z) := (SM_li1 n 0 z).tr ((SM_li2 (n - 1) _).tr ((SM_zcl _).tr (SM_li3 (n - 1) 1 _)))
theorem SM_zct (z : Sg) (g : Int32) : SM z (zct z g) := (SM_F z (by decide) _ _).tr ((SM_F _ (by decide) _ _).tr ((SM_F _ (by decide) _ _).tr ((SM_F _ (by decide) _ _).tr (SM_F _ (by decide) _ _))))
theorem SM_zst (n : Nat) (z : Sg) : SM z (zst n z) := (SM_zfl n z).tr (SM_zct _ _)
theorem SM_zadd (z : Sg) (g k v : Int32) : SM z (zadd z g k v) := (SM_A z (by decide) _).tr ((SM_A _ (by decide) _).tr ((SM_A _ (by decide) _).tr (SM_F _ (by decide) _ _)))
theorem SM_addz (z : Sg) (g k v : Int32) : SM z (addz z g k v) := SM_ite (SM_zadd z g k v) (SM.rf z)
theorem SM_zemp (z : Sg) : SM z (zemp z) := (SM_A z (by decide) _).tr ((SM_A _ (by decide) _).tr ((SM_A _ (by decide) _).tr (SM_F _ (by decide) _ _)))
theorem SM_fin (z : Sg) (x : Int32) : SM z (fin z x) := (SM_F z (by decide) _ _).tr ((SM_F _ (by decide) _ _).tr (SM_F _ (by decide) _ _))
theorem SM_chg (z : Sg) : SM z (chg z) := SM_ite (SM_ite ((SM_F z (by decide) _ _).tr (SM_zct _ _)) ((SM_F z (by decide) _ _).tr (SM_fin _ _))) (SM_fin z _)
theorem SM_psb (g : Int32) (z : Sg) : SM z (psb g z) := SM_ite (SM_F z (by decide) _ _) ((SM_F z (by decide) _ _).tr (SM_chg _))
theorem SM_ps : ∀ (m : Nat) (g : Int32) (z : Sg), SM z (ps m g z)
  | 0, _, z => SM.rf z
  | m + 1, g, z => by rw [ps]; exact SM_ite (SM.rf z) ((SM_psb g z).tr (SM_ps m g _))
theorem SM_ztk (z : Sg) : SM z (ztk z) := (SM_F z (by decide) _ _).tr (SM_F _ (by decide) _ _)
theorem SM_kp1 (z : Sg) (s : Nat) : SM z (kp1 z s) := (SM_P z _ _).tr (SM_P _ _ _)
theorem SM_kp (z : Sg) (o k : Nat) : SM z (kp z o k) := SM_ite ((SM_kp1 z _).tr (SM_F _ (by decide) _ _)) ((SM_kp1 z _).tr (SM_F _ (by decide) _ _))
theorem SM_tb (z : Sg) (o k : Nat) : SM z (tb z o k) := (SM_F z (by decide) _ _).tr ((SM_T _ _).tr (SM_S _ _))
theorem SM_pch (z : Sg) (x : Int32) (n : Nat) : SM z (pch z x n) := (SM_D z _).tr (SM_T _ _)
theorem SM_pcw : ∀ (m i b W : Nat) (z : Sg), SM z (pcw m i b W z)
  | 0, _, _, _, z => SM.rf z
  | m + 1, i, b, W, z => by rw [pcw]; exact (SM_pch z _ _).tr (SM_pcw m (i + 1) b W _)
theorem SM_cpE (sp : Bool) (z : Sg) (n : Nat) : SM z (cpE sp z n) := SM_ite (SM_pch z _ _) (SM.rf z)
theorem SM_wfb (one other : Int32) : ∀ (m i : Nat) (z : Sg), SM z (wfb one other m i z)
  | 0, _, z => SM.rf z
  | m + 1, i, z => by rw [wfb]; exact SM_ite (SM.rf z) ((SM_ite (SM.rf z) ((SM_A z (by decide) _).tr (SM_F _ (by decide) _ _))).tr (SM_wfb one other m (i + 1) _))
theorem SM_badd (z : Sg) (n t : Nat) : SM z (badd z n t) := (SM_A z (by decide) _).tr ((SM_A _ (by decide) _).tr (SM_F _ (by decide) _ _))
theorem SM_wBook (z : Sg) (n t : Nat) : SM z (wBook z n t) := SM_ite (SM_ite (SM_badd z n t) (SM.rf z)) (SM.rf z)
theorem SM_wPut (z : Sg) (w c : Int32) : SM z (wPut z w c) := SM_ite (SM_A z (by decide) _) (SM.rf z)
theorem SM_ePut (z : Sg) (w u : Int32) (p : Nat) : SM z (ePut z w u p) := (SM_A z (by decide) _).tr ((SM_A _ (by decide) _).tr (SM_F _ (by decide) _ _))
theorem SM_eSh (z : Sg) (p : Nat) : SM z (eSh z p) := (SM_A z (by decide) _).tr (SM_A _ (by decide) _)
theorem SM_esh (w u : Int32) : ∀ (p : Nat) (z : Sg), SM z (esh w u p z)
  | 0, z => by rw [esh]; exact SM_ePut z w u 0
  | p + 1, z => by rw [esh]; exact SM_ite ((SM_eSh z p).tr (SM_esh w u p _)) (SM_ePut z w u _)
theorem SM_enl (z : Sg) (w u : Int32) (f : Nat) : SM z (enl z w u f) := SM_ite (SM_esh w u f z) (SM.rf z)
theorem SM_sfl (k : Nat) : ∀ (m W f : Nat) (z : Sg), SM z (sfl k m W f z)
  | 0, _, _, z => SM.rf z
  | m + 1, W, f, z => by rw [sfl]; exact SM_ite ((SM_enl z _ _ _).tr (SM_sfl k m _ _ _)) (SM_sfl k m _ _ _)
theorem SM_rwZ (z : Sg) (r : List Int32) : SM z (rwZ z r) := SM_ite (SM_A z (by decide) _) (SM.rf z)
theorem SM_zsf (z : Sg) (r : List Int32) (n : Nat) : SM z (zsf z r n) := (SM_F z (by decide) _ _).tr ((SM_rwZ _ r).tr (SM_sfl _ n 0 0 _))
theorem SM_sof (k : Nat) : ∀ (m W f : Nat) (z : Sg), SM z (sof k m W f z)
  | 0, _, _, z => SM.rf z
  | m + 1, W, f, z => by rw [sof]; exact SM_ite ((SM_enl z _ _ _).tr (SM_sof k m _ _ _)) (SM_sof k m _ _ _)
theorem SM_zso1 (z : Sg) (r : List Int32) : SM z (zso1 z r) := (SM_F z (by decide) _ _).tr (SM_rwZ _ r)
theorem SM_zso (z : Sg) (r : List Int32) (n : Nat) : SM z (zso z r n) := SM_ite (SM_zso1 z r) ((SM_zso1 z r).tr (SM_sof _ n 0 0 _))
theorem SM_fls : ∀ (m i : Nat) (z : Sg), SM z (fls m i z)
  | 0, _, z => SM.rf z
  | m + 1, i, z => by rw [fls]; exact SM_ite ((SM_A z (by decide) _).tr (SM_fls m (i + 1) _)) (SM_fls m (i + 1) z)
theorem SM_zfs (n : Nat) (z : Sg) : SM z (zfs n z) := (SM_flz 26 z (by decide) _).tr (SM_fls (n - 1) 1 _)
theorem SM_sl1 : ∀ (m i : Nat) (z : Sg), SM z (sl1 m i z)
  | 0, _, z => SM.rf z
  | m + 1, i, z => by rw [sl1]; exact (SM_A z (by decide) _).tr (SM_sl1 m (i + 1) _)
theorem SM_sl3 (i : Nat) : ∀ (m j : Nat) (z : Sg), SM z (sl3 i m j z)
  | 0, _, z => SM.rf z
  | m + 1, j, z => by rw [sl3]; exact (SM_A z (by decide) _).tr (SM_sl3 i m (j + 1) _)
theorem SM_sl2 (n : Nat) : ∀ (i : Nat) (z : Sg), SM z (sl2 n i z)
  | 0, z => SM.rf z
  | i + 1, z => by rw [sl2]; exact (SM_sl3 i _ _ z).tr (SM_sl2 n i _)
theorem SM_zsol (n : Nat) (z : Sg) : SM z (zsol n z) := (SM_sl1 n 0 z).tr (SM_sl2 n n _)
theorem SM_bld (n : Nat) : ∀ (m s g : Nat) (z : Sg), SM z (bld n m s g z)
  | 0, _, _, z => SM.rf z
  | m + 1, s, g, z => by
    rw [bld]
    exact SM_ite (SM.rf z) (SM_ite ((SM_addz z _ _ _).tr (SM_bld n m _ _ _)) (SM_ite (((SM_zadd z _ _ _).tr (SM_A _ (by decide) _)).tr (SM_bld n m _ _ _)) (SM.rf z)))
theorem SM_zbd (n : Nat) (z : Sg) : SM z (zbd n z) := (SM_A z (by decide) _).tr (SM_bld n 60 0 0 _)
theorem SM_ly3 (t : Nat) (z : Sg) : SM z (ly3 t z) := (SM_zsol t z).tr ((SM_zemp _).tr ((SM_zbd t _).tr (SM_F _ (by decide) _ _)))
theorem SM_zly (t : Nat) (z : Sg) : SM z (zly t z) := (SM_ly3 t z).tr (SM_zst _ _)
/-! the model -/
theorem SD_lo1 : ∀ (m i : Nat) (z : Sg), SD z (lo1 m i z)
  | 0, _, z => SD.rf z
  | m + 1, i, z => by rw [lo1]; exact ((SD_A z (by decide) _).tr ((SD_A _ (by decide) _).tr (SD_A _ (by decide) _))).tr (SD_lo1 m (i + 1) _)
theorem SD_lo2 : ∀ (i : Nat) (z : Sg), SD z (lo2 i z)
  | 0, z => SD.rf z
  | i + 1, z => by rw [lo2]; exact (SD_A z (by decide) _).tr (SD_lo2 i _)
theorem SD_lk (z : Sg) (i : Nat) (g : Int32) : SD z (lk z i g) := (SD_A z (by decide) _).tr ((SD_A _ (by decide) _).tr (SD_A _ (by decide) _))
theorem SD_lo3 : ∀ (m i : Nat) (z : Sg), SD z (lo3 m i z)
  | 0, _, z => SD.rf z
  | m + 1, i, z => by rw [lo3]; exact (SD_ite (SD_lk z _ _) (SD.rf z)).tr (SD_lo3 m (i + 1) _)
theorem SD_zlk (n : Nat) (z : Sg) : SD z (zlk n z) := (SD_lo1 n 0 z).tr ((SD_lo2 (n - 1) _).tr (SD_lo3 (n - 1) 1 _))
theorem SD_zcm (z : Sg) (g : Int32) : SD z (zcm z g) := (SD_F z _ _).tr ((SD_F _ _ _).tr ((SD_F _ _ _).tr ((SD_F _ _ _).tr (SD_F _ _ _))))
theorem SD_zlc (n : Nat) (z : Sg) : SD z (zlc n z) := (SD_zlk n z).tr (SD_zcm _ _)
theorem SD_zad (z : Sg) (g k v : Int32) : SD z (zad z g k v) := (SD_A z (by decide) _).tr ((SD_A _ (by decide) _).tr ((SD_A _ (by decide) _).tr (SD_F _ _ _)))
theorem SD_z00 (z : Sg) : SD z (z00 z) := SD_F z _ _
theorem SD_gset (z : Sg) : SD z (gset z) := by
  unfold gset
  rw [List.append_assoc]
  exact (SD_F z _ _).tr (SD_D (stF z 39 0 0) _)
theorem SD_tk1 (z : Sg) : SD z (tk1 z) := (SD_F z _ _).tr ((SD_F _ _ _).tr ((SD_F _ _ _).tr (SD_F _ _ _)))
theorem SD_tk2 (z : Sg) : SD z (tk2 z) := (SD_tk1 z).tr ((SD_F _ _ _).tr (SD_F _ _ _))
theorem SD_tk (z : Sg) : SD z (tk z) := SD_ite (SD_F z _ _) (SD_ite (SD_tk1 z) (SD_ite ((SD_tk2 z).tr (SD_zcm _ _)) (SD_tk2 z)))
theorem SD_tks : ∀ (m : Nat) (z : Sg), SD z (tks m z)
  | 0, z => SD.rf z
  | m + 1, z => by rw [tks]; exact (SD_tk z).tr (SD_tks m _)
theorem SD_mpr (z : Sg) : SD z (mpr z) := (SD_F z _ _).tr ((SD_F _ _ _).tr (SD_F _ _ _))
theorem SD_two (z : Sg) {a b : Nat} (ha : 40 ≤ a) (hb : 40 ≤ b) (f g : Nat → Int32) : SD z (two z a b f g) := (SD_A z ha _).tr (SD_A _ hb _)
theorem SD_kC (z : Sg) (K : Nat) : SD z (kC z K) := (SD_A z (by decide) _).tr ((SD_A _ (by decide) _).tr (SD_F _ _ _))
theorem SD_kB (z : Sg) (K : Nat) : SD z (kB z K) := SD_two z (by decide) (by decide) _ _
theorem SD_kA (z : Sg) : SD z (kA z) := (SD_two z (by decide) (by decide) _ _).tr ((SD_two _ (by decide) (by decide) _ _).tr (SD_F _ _ _))
theorem SD_mkp (z : Sg) (k : Nat) : SD z (mkp z k) := SD_ite ((SD_kA z).tr ((SD_kB _ _).tr (SD_kC _ _))) ((SD_kB z _).tr (SD_kC _ _))
theorem SD_mun (z : Sg) (k : Nat) : SD z (mun z k) := (SD_F z _ _).tr ((SD_two _ (by decide) (by decide) _ _).tr ((SD_F _ _ _).tr (SD_F _ _ _)))
theorem SD_mpt (z : Sg) (x : Int32) : SD z (mpt z x) := (SD_A z (by decide) _).tr (SD_F _ _ _)
theorem SD_mps (W : Nat) : ∀ (m i : Nat) (z : Sg), SD z (mps W m i z)
  | 0, _, z => SD.rf z
  | m + 1, i, z => by rw [mps]; exact (SD_mpt z _).tr (SD_mps W m (i + 1) _)
theorem SD_mspk (z : Sg) (t : Nat) : SD z (mspk z t) := (SD_A z (by decide) _).tr ((SD_F _ _ _).tr (SD_F _ _ _))
theorem SD_fmk (t q : Nat) : ∀ (m W : Nat) (z : Sg), SD z (fmk t q m W z)
  | 0, _, z => SD.rf z
  | m + 1, W, z => by rw [fmk]; exact (SD_A z (by decide) _).tr (SD_fmk t q m (W + 1) _)
theorem SD_zfm (t n : Nat) (z : Sg) : SD z (zfm t n z) := SD_fmk t _ n 0 z
theorem SD_om1 (z : Sg) (W : Nat) : SD z (om1 z W) := SD_A z (by decide) _
theorem SD_omz (z : Sg) (t q nn W : Nat) : SD z (omz z t q nn W) := SD_ite ((SD_om1 z W).tr (SD_A _ (by decide) _)) (SD_om1 z W)
theorem SD_omk (t q nn : Nat) : ∀ (m W : Nat) (p : Bool) (z : Sg), SD z (omk t q nn m W p z).2
  | 0, _, _, z => SD.rf z
  | m + 1, W, p, z => by
    rw [omk]
    split
    · exact (SD_omz z _ _ _ _).tr (SD_omk t q nn m (W + 1) _ _)
    · exact (SD_om1 z W).tr (SD_omk t q nn m (W + 1) _ _)
theorem SD_zom (t n nn : Nat) (z : Sg) : SD z (zom t n nn z).2 := SD_omk t _ nn n 0 _ z
theorem SD_cfz (t n : Nat) : ∀ (m i : Nat) (z : Sg), SD z (cfz t n m i z).2
  | 0, _, z => SD_zfm t n z
  | m + 1, i, z => by
    rw [cfz]
    split
    · exact SD_zfm t n z
    · exact (SD_zfm t n z).tr (SD_cfz t n m (i + 1) _)
theorem SD_coz (t n nn : Nat) : ∀ (m i : Nat) (z : Sg), SD z (coz t n nn m i z).2
  | 0, _, z => SD_zom t n nn z
  | m + 1, i, z => by
    rw [coz]
    split
    · exact SD_zom t n nn z
    · exact (SD_zom t n nn z).tr (SD_coz t n nn m (i + 1) _)
theorem SD_mA4 (z : Sg) (t k n x : Nat) : SD z (mA4 z t k n x) := SD_ite (SD_zfm t n z) (SD_ite ((SD_zfm t n z).tr ((SD_mkp _ k).tr ((SD_mps _ _ _ _).tr (SD_mpt _ _)))) (SD_zfm t n z))
theorem SD_mf1 (z : Sg) (v k : Int32) : SD z (mf1 z v k) := SD_ite (SD.rf z) ((SD_A z (by decide) _).tr (SD_F _ _ _))
theorem SD_mf4 (z : Sg) (v : Int32) : SD z (mf4 z v) := (SD_mf1 z _ _).tr ((SD_mf1 _ _ _).tr ((SD_mf1 _ _ _).tr (SD_mf1 _ _ _)))
theorem SD_fdM (one other : Int32) (z : Sg) : SD z (fdM one other z) := (SD_F z _ _).tr ((SD_mf4 _ _).tr (SD_mf4 _ _))
theorem SD_mad (z : Sg) (n t : Nat) : SD z (mad z n t) := (SD_A z (by decide) _).tr ((SD_A _ (by decide) _).tr (SD_F _ _ _))
theorem SD_mfi (z : Sg) (W : Nat) (c : Int32) : SD z (mfi z W c) := (SD_A z (by decide) _).tr (SD_F _ _ _)
theorem SD_mwZ (z : Sg) (n t W : Nat) (c : Int32) : SD z (mwZ z n t W c) := SD_ite (SD.rf z) (SD_ite ((SD_mad z n t).tr (SD_mfi _ _ _)) (SD_mfi z _ _))
theorem SD_ltZ (z : Sg) (w i : Int32) : SD z (ltZ z w i) := SD_F z _ _
theorem SD_atZ (z : Sg) (w i : Int32) : SD z (atZ z w i) := SD_F z _ _
theorem SD_spl (i j : Nat) : ∀ (p : Nat) (z : Sg), SD z (spl i j p z)
  | 0, z => SD.rf z
  | p + 1, z => by rw [spl]; exact (SD_L z _ _).tr (SD_spl i j p _)
theorem SD_sij (i j : Nat) (z : Sg) : SD z (sij i j z) := (SD_ite (SD_L z _ _) (SD.rf z)).tr (SD_spl i j 27 _)
theorem SD_sis (sz : Nat) : ∀ (m i : Nat) (z : Sg), SD z (sis sz m i z)
  | 0, _, z => SD.rf z
  | m + 1, i, z => by rw [sis]; exact (SD_sij i _ z).tr (SD_sis sz m (i + 1) _)
theorem SD_ssz (n : Nat) : ∀ (m sz : Nat) (z : Sg), SD z (ssz n m sz z)
  | 0, _, z => SD.rf z
  | m + 1, sz, z => by rw [ssz]; exact (SD_sis sz _ 0 z).tr (SD_ssz n m (sz + 1) _)
theorem SD_lyM (K : KF) : ∀ (m g f j p : Nat) (w : Bool) (z : Sg), SD z (lyM K m g f j p w z)
  | 0, _, _, _, _, _, z => SD.rf z
  | m + 1, g, f, j, p, w, z => by
    rw [lyM]
    exact SD_ite (SD.rf z) (SD_ite ((SD_zad z _ _ _).tr (SD_lyM K m _ _ _ _ _ _)) (((SD_zad z _ _ _).tr (SD_lyM K m _ _ _ _ _ _)).tr (SD_lyM K m _ _ _ _ _ _)))
theorem SD_ml1 (z : Sg) (t : Nat) : SD z (ml1 z t) := (SD_F z _ _).tr ((SD_A _ (by decide) _).tr ((SD_F _ _ _).tr ((SD_ssz t (t + 1) 0 _).tr (SD_F _ _ _))))
theorem SD_ml3 (K : KF) (z : Sg) (t : Nat) : SD z (ml3 K z t) := (SD_ml1 z t).tr ((SD_lyM K _ _ _ _ _ _ _).tr (SD_zlc _ _))
theorem SD_mA6 (z : Sg) (t k n nn x : Nat) : SD z (mA6 z t k n nn x) := SD_ite (SD_zom t n nn z) ((SD_zom t n nn z).tr ((SD_mkp _ k).tr ((SD_F _ _ _).tr (SD_mps _ _ _ _))))
