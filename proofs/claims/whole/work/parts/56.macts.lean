/-! THE MODEL: acts, kind by kind -/
theorem A_two (z : Sg) {a b c : Nat} (h1 : ¬ c = a) (h2 : ¬ c = b) (f g : Nat → Int32) : (two z a b f g).A c = z.A c := by
  unfold two
  rw [A_stA, if_neg h2, A_stA, if_neg h1]
theorem A_mkp {z : Sg} {k a : Nat} (h1 : ¬ a = 50) (h2 : ¬ a = 51) (h3 : ¬ a = 52) (h4 : ¬ a = 53) : (mkp z k).A a = z.A a := by
  unfold mkp
  split
  · unfold kC kB kA kA2
    rw [A_stF, A_stA, if_neg h4, A_stA, if_neg h3, A_two _ h1 h2, A_stF, A_two _ h3 h4, A_two _ h1 h2]
  · unfold kC kB
    rw [A_stF, A_stA, if_neg h4, A_stA, if_neg h3, A_two _ h1 h2]
theorem F_mkp {z : Sg} {k i j : Nat} (h : ¬ (i = 39 ∧ j = 26)) : (mkp z k).F i j = z.F i j := by
  have key : ∀ (w : Sg) (v : Int32), (stF w 39 26 v).F i j = w.F i j := by
    intro w v
    rw [F_stF]
    by_cases h1 : i = 39
    · rw [if_pos h1, if_neg (fun h2 => h ⟨h1, h2⟩), h1]
    · rw [if_neg h1]
  unfold mkp
  split
  · unfold kC
    rw [key]
    show (kB (kA z) 99).F i j = z.F i j
    show (kA z).F i j = z.F i j
    unfold kA kA2
    rw [key]
    rfl
  · unfold kC
    rw [key]
    rfl
theorem txm {z : Sg} {t k : Nat} (h : txOK z t) : txOK (mkp z k) t := ⟨by rw [F_mkp (by decide)]; exact h.1, h.2⟩
section Acts
variable {z : Sg} {t k x n : Nat}
theorem c_acts1 (hx : txOK z t) (hk : k ≤ 100) (hF : z.F 39 26 = nI k) (hxl : x < 60) (hkd : z.A 40 x = 1) : EM mMod_acts 1 0 0 [.ref 39, .int (nI x)] (hp z) (Det none (hp (if t = 200 then z else mpt (mkp z k) (z.A 41 x)))) := by
  have hcx : (nI x).toNatClampNeg = x := nI_clamp (by omega)
  have ht := hx.2
  have h41 : (mkp z k).A 41 = z.A 41 := A_mkp (by decide) (by decide) (by decide) (by decide)
  have hkt : (z.A 40 x).toInt = 1 := by rw [hkd]; rfl
  by_cases h : t = 200
  · rw [if_pos h]
    refine E_aload_n dX11_acts_0 rfl ?_
    refine E_getf 1 dX11_acts_1 fl_X11_9 (by decide) (hg_39 _) rfl ?_
    refine E_iload_n dX11_acts_4 rfl ?_
    refine E_iald dX11_acts_5 (by decide) (hg_40 _) (vp_in_nI (by omega) (by omega)) ?_
    rw [hcx]
    refine E_tableIn 40 dX11_acts_6 (by omega) (by omega) (by rw [hkt]; rfl) (by decide) ?_
    skip
    refine E_aload_n dX11_acts_40 rfl ?_
    refine E_getf 24 dX11_acts_41 fl_X11_159 (by decide) (hg_39 _) rfl ?_
    refine E_sipush (v := 200) dX11_acts_44 rfl ?_
    rw [hx.1, h]
    refine E_icmp_ne 51 dX11_acts_47 (by decide) (fun c_47 => ?_) (fun c_47 => ?_)
    · exact absurd rfl c_47
    · exact E_vret dX11_acts_50 rfl ⟨rfl, rfl⟩
  · rw [if_neg h]
    refine E_aload_n dX11_acts_0 rfl ?_
    refine E_getf 1 dX11_acts_1 fl_X11_9 (by decide) (hg_39 _) rfl ?_
    refine E_iload_n dX11_acts_4 rfl ?_
    refine E_iald dX11_acts_5 (by decide) (hg_40 _) (vp_in_nI (by omega) (by omega)) ?_
    rw [hcx]
    refine E_tableIn 40 dX11_acts_6 (by omega) (by omega) (by rw [hkt]; rfl) (by decide) ?_
    skip
    refine E_aload_n dX11_acts_40 rfl ?_
    refine E_getf 24 dX11_acts_41 fl_X11_159 (by decide) (hg_39 _) rfl ?_
    refine E_sipush (v := 200) dX11_acts_44 rfl ?_
    rw [hx.1]
    refine E_icmp_ne 51 dX11_acts_47 (by decide) (fun c_47 => ?_) (fun c_47 => ?_)
    · refine E_aload_n dX11_acts_51 rfl ?_
      refine E_V0 dX11_acts_52 cv_X11_162 (by decide) (hg_39 _) rfl rfl (Nat.le_of_ble_eq_true rfl) (Nat.le_of_ble_eq_true rfl) (c_Mod_keep hk z hF) (by decide) (Nat.zero_le _) (Nat.zero_le _) ?_
      refine E_aload_n dX11_acts_55 rfl ?_
      refine E_aload_n dX11_acts_56 rfl ?_
      refine E_getf 2 dX11_acts_57 fl_X11_13 (by decide) (hg_39 _) rfl ?_
      refine E_iload_n dX11_acts_60 rfl ?_
      refine E_iald dX11_acts_61 (by decide) (hg_41 _) (vp_in_nI (by omega) (by omega)) ?_
      rw [hcx, h41]
      refine E_V1 dX11_acts_62 cv_X11_165 (by decide) (hg_39 _) rfl rfl (Nat.le_of_ble_eq_true rfl) (Nat.le_of_ble_eq_true rfl) (c_put (mkp z k) _ (by rw [(txm hx).1]; exact vp_in_nI (by omega) (by omega))) (by decide) (Nat.zero_le _) (Nat.zero_le _) ?_
      exact E_vret dX11_acts_65 rfl ⟨rfl, rfl⟩
    · exact absurd c_47 (fun h9 => h ((nI_eq (b := 200) (by omega) (by omega)).mp h9))
theorem c_acts2 (hx : txOK z t) (hk : k ≤ 100) (hF : z.F 39 26 = nI k) (hxl : x < 60) (hkd : z.A 40 x = 2) : EM mMod_acts 1 0 0 [.ref 39, .int (nI x)] (hp z) (Det none (hp (if t = 0 then z else stF (mkp z k) 39 24 (nI (t - 1))))) := by
  have hcx : (nI x).toNatClampNeg = x := nI_clamp (by omega)
  have ht := hx.2
  have hkt : (z.A 40 x).toInt = 2 := by rw [hkd]; rfl
  by_cases h : t = 0
  · rw [if_pos h]
    refine E_aload_n dX11_acts_0 rfl ?_
    refine E_getf 1 dX11_acts_1 fl_X11_9 (by decide) (hg_39 _) rfl ?_
    refine E_iload_n dX11_acts_4 rfl ?_
    refine E_iald dX11_acts_5 (by decide) (hg_40 _) (vp_in_nI (by omega) (by omega)) ?_
    rw [hcx]
    refine E_tableIn 66 dX11_acts_6 (by omega) (by omega) (by rw [hkt]; rfl) (by decide) ?_
    skip
    refine E_aload_n dX11_acts_66 rfl ?_
    refine E_getf 24 dX11_acts_67 fl_X11_159 (by decide) (hg_39 _) rfl ?_
    rw [hx.1, h]
    refine E_if_ne 74 dX11_acts_70 (by decide) (fun c_70 => ?_) (fun c_70 => ?_)
    · exact absurd rfl c_70
    · exact E_vret dX11_acts_73 rfl ⟨rfl, rfl⟩
  · rw [if_neg h]
    refine E_aload_n dX11_acts_0 rfl ?_
    refine E_getf 1 dX11_acts_1 fl_X11_9 (by decide) (hg_39 _) rfl ?_
    refine E_iload_n dX11_acts_4 rfl ?_
    refine E_iald dX11_acts_5 (by decide) (hg_40 _) (vp_in_nI (by omega) (by omega)) ?_
    rw [hcx]
    refine E_tableIn 66 dX11_acts_6 (by omega) (by omega) (by rw [hkt]; rfl) (by decide) ?_
    skip
    refine E_aload_n dX11_acts_66 rfl ?_
    refine E_getf 24 dX11_acts_67 fl_X11_159 (by decide) (hg_39 _) rfl ?_
    rw [hx.1]
    refine E_if_ne 74 dX11_acts_70 (by decide) (fun c_70 => ?_) (fun c_70 => ?_)
    · refine E_aload_n dX11_acts_74 rfl ?_
      refine E_V0 dX11_acts_75 cv_X11_162 (by decide) (hg_39 _) rfl rfl (Nat.le_of_ble_eq_true rfl) (Nat.le_of_ble_eq_true rfl) (c_Mod_keep hk z hF) (by decide) (Nat.zero_le _) (Nat.zero_le _) ?_
      refine E_aload_n dX11_acts_78 rfl ?_
      refine E_dup dX11_acts_79 rfl ?_
      refine E_getf 24 dX11_acts_80 fl_X11_159 (by decide) (hg_39 _) rfl ?_
      rw [(txm hx).1]
      refine E_iconst (v := 1) dX11_acts_83 rfl ?_
      refine E_isub dX11_acts_84 ?_
      rw [show nI t - 1 = nI (t - 1) from pk_sub (b := 1) (by omega)]
      refine E_put 24 dX11_acts_85 fp_X11_159 (fitsV_int _) (by decide) (hg_39 _) (Nat.le_of_ble_eq_true rfl) ?_
      rw [hs_39_24]
      exact E_vret dX11_acts_88 rfl ⟨rfl, rfl⟩
    · exact absurd c_70 (nI_ne0 (by omega) (by omega))
theorem c_acts3 (hk : k ≤ 100) (hF : z.F 39 26 = nI k) (hxl : x < 60) (hkd : z.A 40 x = 3) : EM mMod_acts 1 0 0 [.ref 39, .int (nI x)] (hp z) (Det none (hp (if k = 0 then z else mun z k))) := by
  have hcx : (nI x).toNatClampNeg = x := nI_clamp (by omega)
  have hkt : (z.A 40 x).toInt = 3 := by rw [hkd]; rfl
  refine E_aload_n dX11_acts_0 rfl ?_
  refine E_getf 1 dX11_acts_1 fl_X11_9 (by decide) (hg_39 _) rfl ?_
  refine E_iload_n dX11_acts_4 rfl ?_
  refine E_iald dX11_acts_5 (by decide) (hg_40 _) (vp_in_nI (by omega) (by omega)) ?_
  rw [hcx]
  refine E_tableIn 89 dX11_acts_6 (by omega) (by omega) (by rw [hkt]; rfl) (by decide) ?_
  skip
  refine E_aload_n dX11_acts_89 rfl ?_
  refine E_V0 dX11_acts_90 cv_X11_168 (by decide) (hg_39 _) rfl rfl (Nat.le_of_ble_eq_true rfl) (Nat.le_of_ble_eq_true rfl) (c_Mod_undo hk z hF) (by decide) (Nat.zero_le _) (Nat.zero_le _) ?_
  exact E_vret dX11_acts_93 rfl ⟨rfl, rfl⟩
def scp (f g : Nat → Int32) (i : Nat) : Nat → Int32 := fun j => if j < i then vp_nar .byte (g j) else f j
theorem scp_s (f g : Nat → Int32) (i : Nat) : upd (scp f g i) i (vp_nar .byte (g i)) = scp f g (i + 1) := by
  funext j
  unfold upd scp
  by_cases h : j = i
  · rw [if_pos h, if_pos (by omega), h]
  · rw [if_neg h]
    by_cases h2 : j < i
    · rw [if_pos h2, if_pos (by omega)]
    · rw [if_neg h2, if_neg (by omega)]
theorem scp_0 (f g : Nat → Int32) : scp f g 0 = f := funext fun j => if_neg (by omega)
def mspk (z : Sg) (t : Nat) : Sg := stF (stF (stA z 49 (scp (z.A 49) (z.A 48) t)) 39 25 (nI t)) 39 24 0
theorem l_say (hx : txOK z t) : ∀ (m i : Nat) (z' : Sg), i + m = t → z' = stA z 49 (scp (z.A 49) (z.A 48) i) → E mMod_acts 1 0 0 115 [(0, .ref 39), (1, .int (nI x)), (2, .int (nI i))] [] (hp z') (Det none (hp (mspk z t))) := by
  obtain ⟨hF, ht⟩ := hx
  intro m
  induction m with
  | zero =>
    intro i z' hi hz
    have hF' : z'.F 39 24 = nI t := by rw [hz]; exact hF
    refine E_iload_n dX11_acts_115 rfl ?_
    refine E_aload_n dX11_acts_116 rfl ?_
    refine E_getf 24 dX11_acts_117 fl_X11_159 (by decide) (hg_39 _) rfl ?_
    rw [hF']
    refine E_icmp_ge 141 dX11_acts_120 (by decide) (fun c_120 => ?_) (fun c_120 => ?_)
    · refine E_aload_n dX11_acts_141 rfl ?_
      refine E_aload_n dX11_acts_142 rfl ?_
      refine E_getf 24 dX11_acts_143 fl_X11_159 (by decide) (hg_39 _) rfl ?_
      rw [hF']
      refine E_put 25 dX11_acts_146 fp_X11_64 (fitsV_int _) (by decide) (hg_39 _) (Nat.le_of_ble_eq_true rfl) ?_
      rw [hs_39_25]
      refine E_aload_n dX11_acts_149 rfl ?_
      refine E_iconst (v := 0) dX11_acts_150 rfl ?_
      refine E_put 24 dX11_acts_151 fp_X11_159 (fitsV_int _) (by decide) (hg_39 _) (Nat.le_of_ble_eq_true rfl) ?_
      rw [hs_39_24]
      exact E_vret dX11_acts_154 rfl ⟨rfl, by rw [hz, show i = t by omega]; rfl⟩
    · exact absurd (nI_le (by omega) (by omega)) c_120
  | succ m ih =>
    intro i z' hi hz
    have hF' : z'.F 39 24 = nI t := by rw [hz]; exact hF
    have h48 : z'.A 48 = z.A 48 := by rw [hz]; rfl
    have hcl : (nI i).toNatClampNeg = i := nI_clamp (by omega)
    refine E_iload_n dX11_acts_115 rfl ?_
    refine E_aload_n dX11_acts_116 rfl ?_
    refine E_getf 24 dX11_acts_117 fl_X11_159 (by decide) (hg_39 _) rfl ?_
    rw [hF']
    refine E_icmp_ge 141 dX11_acts_120 (by decide) (fun c_120 => ?_) (fun c_120 => ?_)
    · exact absurd c_120 (nI_ge (by omega) (by omega))
    · refine E_aload_n dX11_acts_123 rfl ?_
      refine E_getf 19 dX11_acts_124 fl_X11_49 (by decide) (hg_39 _) rfl ?_
      refine E_iload_n dX11_acts_127 rfl ?_
      refine E_aload_n dX11_acts_128 rfl ?_
      refine E_getf 18 dX11_acts_129 fl_X11_45 (by decide) (hg_39 _) rfl ?_
      refine E_iload_n dX11_acts_132 rfl ?_
      refine E_bald dX11_acts_133 (by decide) (hg_48 _) (vp_in_nI (by omega) (by omega)) ?_
      rw [hcl, h48]
      refine E_bast dX11_acts_134 (by decide) (hg_49 _) (vp_in_nI (by omega) (by omega)) ?_
      rw [hs_49]
      rw [hcl]
      refine E_iincL 1 dX11_acts_135 rfl rfl (by decide) rfl ?_
      rw [nI_1]
      refine E_goto 115 dX11_acts_138 (by decide) ?_
      refine E.pick [1, 2, 0] rfl ?_
      refine ih (i + 1) _ (by omega) ?_
      rw [hz, stA_stA, A_stA, if_pos rfl, scp_s]
theorem c_acts5 (hx : txOK z t) (hk : k ≤ 100) (hF : z.F 39 26 = nI k) (hxl : x < 60) (hkd : z.A 40 x = 5) : EM mMod_acts 1 0 0 [.ref 39, .int (nI x)] (hp z) (Det none (hp (if t = 0 ∧ z.F 39 25 = 0 then z else mspk (mkp z k) t))) := by
  have hcx : (nI x).toNatClampNeg = x := nI_clamp (by omega)
  have ht := hx.2
  have hkt : (z.A 40 x).toInt = 5 := by rw [hkd]; rfl
  have go : E mMod_acts 1 0 0 109 [(0, .ref 39), (1, .int (nI x))] [] (hp z) (Det none (hp (mspk (mkp z k) t))) := by
    refine E_aload_n dX11_acts_109 rfl ?_
    refine E_V0 dX11_acts_110 cv_X11_162 (by decide) (hg_39 _) rfl rfl (Nat.le_of_ble_eq_true rfl) (Nat.le_of_ble_eq_true rfl) (c_Mod_keep hk z hF) (by decide) (Nat.zero_le _) (Nat.zero_le _) ?_
    refine E_iconst (v := 0) dX11_acts_113 rfl ?_
    refine E_istore_n dX11_acts_114 (by decide) rfl ?_
    refine E.pick [1, 2, 0] rfl ?_
    exact l_say (txm hx) t 0 (mkp z k) (by omega) (by rw [scp_0, stA_self])
  refine E_aload_n dX11_acts_0 rfl ?_
  refine E_getf 1 dX11_acts_1 fl_X11_9 (by decide) (hg_39 _) rfl ?_
  refine E_iload_n dX11_acts_4 rfl ?_
  refine E_iald dX11_acts_5 (by decide) (hg_40 _) (vp_in_nI (by omega) (by omega)) ?_
  rw [hcx]
  refine E_tableIn 94 dX11_acts_6 (by omega) (by omega) (by rw [hkt]; rfl) (by decide) ?_
  skip
  refine E_aload_n dX11_acts_94 rfl ?_
  refine E_getf 24 dX11_acts_95 fl_X11_159 (by decide) (hg_39 _) rfl ?_
  rw [hx.1]
  refine E_if_ne 109 dX11_acts_98 (by decide) (fun c_98 => ?_) (fun c_98 => ?_)
  · first | exact (by rw [if_neg (fun h9 : t = 0 ∧ z.F 39 25 = 0 => c_98 (by rw [h9.1]; rfl))]; exact go) | exact (by rw [if_neg (fun h9 : t = 0 ∧ z.F 39 25 = 0 => c_105 h9.2)]; exact go)
  · refine E_aload_n dX11_acts_101 rfl ?_
    refine E_getf 25 dX11_acts_102 fl_X11_64 (by decide) (hg_39 _) rfl ?_
    refine E_if_ne 109 dX11_acts_105 (by decide) (fun c_105 => ?_) (fun c_105 => ?_)
    · first | exact (by rw [if_neg (fun h9 : t = 0 ∧ z.F 39 25 = 0 => c_98 (by rw [h9.1]; rfl))]; exact go) | exact (by rw [if_neg (fun h9 : t = 0 ∧ z.F 39 25 = 0 => c_105 h9.2)]; exact go)
    · exact E_vret dX11_acts_108 rfl ⟨rfl, by rw [if_pos ⟨by rcases Nat.eq_zero_or_pos t with h9 | h9; exact h9; exact absurd c_98 (nI_ne0 h9 (by omega)), c_105⟩]⟩
/-- letters of word W, from place i on, put behind the text -/
def mps (W : Nat) : Nat → Nat → Sg → Sg
  | 0, _, z => z
  | m + 1, i, z => mps W m (i + 1) (mpt z (z.A 55 (12 * W + i)))
theorem tx_mpt {t : Nat} {z : Sg} (h : txOK z t) (ht : t < 200) (x : Int32) : txOK (mpt z x) (t + 1) := ⟨by show z.F 39 24 + 1 = nI (t + 1); rw [h.1, nI_1], by omega⟩
theorem tx_mps (W : Nat) : ∀ (m i t : Nat) (z : Sg), txOK z t → t + m ≤ 200 → txOK (mps W m i z) (t + m)
  | 0, _, t, z, h, _ => h
  | m + 1, i, t, z, h, hle => by
    rw [mps, show t + (m + 1) = t + 1 + m by omega]
    exact tx_mps W m (i + 1) (t + 1) _ (tx_mpt h (by omega) _) (by omega)
theorem l_mps4 {W L q : Nat} (hW : W < 40) (hL : L ≤ 12) : ∀ (m i t : Nat) (z : Sg), i + m = L → txOK z t → t + m + 1 ≤ 200 → z.A 56 W = nI L → E mMod_acts 3 0 0 205 [(0, .ref 39), (1, .int (nI x)), (2, .int (nI W)), (3, .int (nI q)), (4, .int (nI i))] [] (hp z) (Det none (hp (mpt (mps W m i z) 32))) := by
  intro m
  induction m with
  | zero =>
    intro i t z hi hx hle hw
    have hcw : (nI W).toNatClampNeg = W := nI_clamp (by omega)
    refine E_iload dX11_acts_205 rfl ?_
    refine E_aload_n dX11_acts_207 rfl ?_
    refine E_getf 29 dX11_acts_208 fl_X11_73 (by decide) (hg_39 _) rfl ?_
    refine E_iload_n dX11_acts_211 rfl ?_
    refine E_iald dX11_acts_212 (by decide) (hg_56 _) (vp_in_nI (by omega) (by omega)) ?_
    rw [hcw, hw]
    refine E_icmp_ge 238 dX11_acts_213 (by decide) (fun c_213 => ?_) (fun c_213 => ?_)
    · refine E_aload_n dX11_acts_238 rfl ?_
      refine E_bipush (v := 32) dX11_acts_239 rfl ?_
      refine E_V1 dX11_acts_241 cv_X11_165 (by decide) (hg_39 _) rfl rfl (Nat.le_of_ble_eq_true rfl) (Nat.le_of_ble_eq_true rfl) (c_put z 32 (by rw [hx.1]; exact vp_in_nI (by omega) (by omega))) (by decide) (Nat.zero_le _) (Nat.zero_le _) ?_
      exact E_vret dX11_acts_244 rfl ⟨rfl, rfl⟩
    · exact absurd (nI_le (by omega) (by omega)) c_213
  | succ m ih =>
    intro i t z hi hx hle hw
    have hcw : (nI W).toNatClampNeg = W := nI_clamp (by omega)
    have he : (12 : Int32) * nI W + nI i = nI (12 * W + i) := by rw [show (12 : Int32) = nI 12 from rfl, pk_mul, nI_add]
    refine E_iload dX11_acts_205 rfl ?_
    refine E_aload_n dX11_acts_207 rfl ?_
    refine E_getf 29 dX11_acts_208 fl_X11_73 (by decide) (hg_39 _) rfl ?_
    refine E_iload_n dX11_acts_211 rfl ?_
    refine E_iald dX11_acts_212 (by decide) (hg_56 _) (vp_in_nI (by omega) (by omega)) ?_
    rw [hcw, hw]
    refine E_icmp_ge 238 dX11_acts_213 (by decide) (fun c_213 => ?_) (fun c_213 => ?_)
    · exact absurd c_213 (nI_ge (by omega) (by omega))
    · refine E_aload_n dX11_acts_216 rfl ?_
      refine E_aload_n dX11_acts_217 rfl ?_
      refine E_getf 28 dX11_acts_218 fl_X11_70 (by decide) (hg_39 _) rfl ?_
      refine E_bipush (v := 12) dX11_acts_221 rfl ?_
      refine E_iload_n dX11_acts_223 rfl ?_
      refine E_imul dX11_acts_224 ?_
      refine E_iload dX11_acts_225 rfl ?_
      refine E_iadd dX11_acts_227 ?_
      rw [he]
      refine E_bald dX11_acts_228 (by decide) (hg_55 _) (vp_in_nI (by omega) (by omega)) ?_
      rw [nI_clamp (by omega)]
      refine E_V1 dX11_acts_229 cv_X11_165 (by decide) (hg_39 _) rfl rfl (Nat.le_of_ble_eq_true rfl) (Nat.le_of_ble_eq_true rfl) (c_put z _ (by rw [hx.1]; exact vp_in_nI (by omega) (by omega))) (by decide) (Nat.zero_le _) (Nat.zero_le _) ?_
      refine E_iincL 1 dX11_acts_232 rfl rfl (by decide) rfl ?_
      rw [nI_1]
      refine E_goto 205 dX11_acts_235 (by decide) ?_
      refine E.pick [1, 2, 3, 4, 0] rfl ?_
      rw [mps]
      exact ih (i + 1) (t + 1) _ (by omega) (tx_mpt hx (by omega) _) (by omega) hw
theorem l_mps6 {W L : Nat} (hW : W < 40) (hL : L ≤ 12) : ∀ (m i t : Nat) (z : Sg), i + m = L → txOK z t → t + m ≤ 200 → z.A 56 W = nI L → E mMod_acts 3 0 0 281 [(0, .ref 39), (1, .int (nI x)), (2, .int (nI W)), (3, .int (nI i))] [] (hp z) (Det none (hp (mps W m i z))) := by
  intro m
  induction m with
  | zero =>
    intro i t z hi hx hle hw
    have hcw : (nI W).toNatClampNeg = W := nI_clamp (by omega)
    refine E_iload_n dX11_acts_281 rfl ?_
    refine E_aload_n dX11_acts_282 rfl ?_
    refine E_getf 29 dX11_acts_283 fl_X11_73 (by decide) (hg_39 _) rfl ?_
    refine E_iload_n dX11_acts_286 rfl ?_
    refine E_iald dX11_acts_287 (by decide) (hg_56 _) (vp_in_nI (by omega) (by omega)) ?_
    rw [hcw, hw]
    refine E_icmp_ge 312 dX11_acts_288 (by decide) (fun c_288 => ?_) (fun c_288 => ?_)
    · exact E_vret dX11_acts_312 rfl ⟨rfl, rfl⟩
    · exact absurd (nI_le (by omega) (by omega)) c_288
  | succ m ih =>
    intro i t z hi hx hle hw
    have hcw : (nI W).toNatClampNeg = W := nI_clamp (by omega)
    have he : (12 : Int32) * nI W + nI i = nI (12 * W + i) := by rw [show (12 : Int32) = nI 12 from rfl, pk_mul, nI_add]
    refine E_iload_n dX11_acts_281 rfl ?_
    refine E_aload_n dX11_acts_282 rfl ?_
    refine E_getf 29 dX11_acts_283 fl_X11_73 (by decide) (hg_39 _) rfl ?_
    refine E_iload_n dX11_acts_286 rfl ?_
    refine E_iald dX11_acts_287 (by decide) (hg_56 _) (vp_in_nI (by omega) (by omega)) ?_
    rw [hcw, hw]
    refine E_icmp_ge 312 dX11_acts_288 (by decide) (fun c_288 => ?_) (fun c_288 => ?_)
    · exact absurd c_288 (nI_ge (by omega) (by omega))
    · refine E_aload_n dX11_acts_291 rfl ?_
      refine E_aload_n dX11_acts_292 rfl ?_
      refine E_getf 28 dX11_acts_293 fl_X11_70 (by decide) (hg_39 _) rfl ?_
      refine E_bipush (v := 12) dX11_acts_296 rfl ?_
      refine E_iload_n dX11_acts_298 rfl ?_
      refine E_imul dX11_acts_299 ?_
      refine E_iload_n dX11_acts_300 rfl ?_
      refine E_iadd dX11_acts_301 ?_
      rw [he]
      refine E_bald dX11_acts_302 (by decide) (hg_55 _) (vp_in_nI (by omega) (by omega)) ?_
      rw [nI_clamp (by omega)]
      refine E_V1 dX11_acts_303 cv_X11_165 (by decide) (hg_39 _) rfl rfl (Nat.le_of_ble_eq_true rfl) (Nat.le_of_ble_eq_true rfl) (c_put z _ (by rw [hx.1]; exact vp_in_nI (by omega) (by omega))) (by decide) (Nat.zero_le _) (Nat.zero_le _) ?_
      refine E_iincL 1 dX11_acts_306 rfl rfl (by decide) rfl ?_
      rw [nI_1]
      refine E_goto 281 dX11_acts_309 (by decide) ?_
      refine E.pick [1, 2, 3, 0] rfl ?_
      rw [mps]
      exact ih (i + 1) (t + 1) _ (by omega) (tx_mpt hx (by omega) _) (by omega) hw
end Acts
