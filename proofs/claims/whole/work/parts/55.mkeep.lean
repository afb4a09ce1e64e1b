/-! THE MODEL: keep, undo, put -/
theorem stA_3 (z : Sg) {a b : Nat} (h : ¬ a = b) (f f' g : Nat → Int32) : stA (stA (stA z a f) b g) a f' = stA (stA z a f') b g := by
  refine Prod.ext (funext fun j => ?_) rfl
  show va_up (va_up (va_up z.A a f) b g) a f' j = va_up (va_up z.A a f') b g j
  unfold va_up
  by_cases h1 : j = a
  · rw [if_pos h1, if_neg (by omega), if_pos h1]
  · rw [if_neg h1]
    by_cases h2 : j = b
    · rw [if_pos h2, if_pos h2]
    · rw [if_neg h2, if_neg h1, if_neg h2, if_neg h1]
def two (z : Sg) (a b : Nat) (f g : Nat → Int32) : Sg := stA (stA z a f) b g
theorem two_a (z : Sg) {a b : Nat} (h : ¬ a = b) (f g f' g' : Nat → Int32) : stA (stA (two z a b f g) a f') b g' = two z a b f' g' := by
  unfold two
  rw [stA_3 z h, stA_stA]
theorem two_A (z : Sg) {a b : Nat} (h : ¬ a = b) (f g : Nat → Int32) : (two z a b f g).A a = f := by
  unfold two
  rw [A_stA, if_neg h, A_stA, if_pos rfl]
theorem two_B (z : Sg) (a b : Nat) (f g : Nat → Int32) : (two z a b f g).A b = g := by
  unfold two
  rw [A_stA, if_pos rfl]
theorem two_self (z : Sg) (a b : Nat) : two z a b (z.A a) (z.A b) = z := by
  unfold two
  rw [stA_self, stA_self]
/-- shifted by one act, as far as place k -/
def shT (f : Nat → Int32) (k : Nat) : Nat → Int32 := fun j => if j + 200 < k then vp_nar .byte (f (j + 200)) else f j
def shL (f : Nat → Int32) (k : Nat) : Nat → Int32 := fun j => if j + 1 < k then f (j + 1) else f j
theorem shT_s (f : Nat → Int32) {k : Nat} (hk : 200 ≤ k) : upd (shT f k) (k - 200) (vp_nar .byte (shT f k k)) = shT f (k + 1) := by
  funext j
  unfold upd shT
  by_cases h : j = k - 200
  · rw [if_pos h, if_neg (by omega), if_pos (by omega), show j + 200 = k by omega]
  · rw [if_neg h]
    by_cases h2 : j + 200 < k
    · rw [if_pos h2, if_pos (by omega)]
    · rw [if_neg h2, if_neg (by omega)]
theorem shL_s (f : Nat → Int32) {k : Nat} (hk : 1 ≤ k) : upd (shL f k) (k - 1) (shL f k k) = shL f (k + 1) := by
  funext j
  unfold upd shL
  by_cases h : j = k - 1
  · rw [if_pos h, if_neg (by omega), if_pos (by omega), show j + 1 = k by omega]
  · rw [if_neg h]
    by_cases h2 : j + 1 < k
    · rw [if_pos h2, if_pos (by omega)]
    · rw [if_neg h2, if_neg (by omega)]
theorem shT_0 (f : Nat → Int32) : shT f 200 = f := funext fun j => if_neg (by omega)
theorem shL_0 (f : Nat → Int32) : shL f 1 = f := funext fun j => if_neg (by omega)
def blk (f g : Nat → Int32) (K i : Nat) : Nat → Int32 := fun j => if 200 * K ≤ j ∧ j < 200 * K + i then vp_nar .byte (g (j - 200 * K)) else f j
theorem blk_s (f g : Nat → Int32) (K i : Nat) : upd (blk f g K i) (200 * K + i) (vp_nar .byte (g i)) = blk f g K (i + 1) := by
  funext j
  unfold upd blk
  by_cases h : j = 200 * K + i
  · rw [if_pos h, if_pos (by omega), h, Nat.add_sub_cancel_left]
  · rw [if_neg h]
    by_cases h2 : 200 * K ≤ j ∧ j < 200 * K + i
    · rw [if_pos h2, if_pos (by omega)]
    · rw [if_neg h2, if_neg (by omega)]
theorem blk_0 (f g : Nat → Int32) (K : Nat) : blk f g K 0 = f := funext fun j => if_neg (by omega)
def kC (z : Sg) (K : Nat) : Sg := stF (stA (stA z 52 (upd (z.A 52) K (z.F 39 24))) 53 (upd (z.A 53) K (z.F 39 25))) 39 26 (nI (K + 1))
def kB (z : Sg) (K : Nat) : Sg := two z 50 51 (blk (z.A 50) (z.A 48) K 200) (blk (z.A 51) (z.A 49) K 200)
def kA2 (z : Sg) : Sg := stF (two z 52 53 (shL (z.A 52) 100) (shL (z.A 53) 100)) 39 26 (nI 99)
def kA (z : Sg) : Sg := kA2 (two z 50 51 (shT (z.A 50) 20000) (shT (z.A 51) 20000))
def mkp (z : Sg) (k : Nat) : Sg := if k = 100 then kC (kB (kA z) 99) 99 else kC (kB z k) k
theorem l_kB {K : Nat} (hK : K < 100) (z : Sg) (hF : z.F 39 26 = nI K) : ∀ (m i : Nat) (z' : Sg), i + m = 200 → z' = two z 50 51 (blk (z.A 50) (z.A 48) K i) (blk (z.A 51) (z.A 49) K i) → E mMod_keep 0 0 0 112 [(0, .ref 39), (1, .int (nI i))] [] (hp z') (Det none (hp (kC (kB z K) K))) := by
  intro m
  induction m with
  | zero =>
    intro i z' hi hz
    have hF' : z'.F 39 26 = nI K := by rw [hz]; exact hF
    have hcl : (nI K).toNatClampNeg = K := nI_clamp (by omega)
    refine E_iload_n dX11_keep_112 rfl ?_
    refine E_sipush (v := 200) dX11_keep_113 rfl ?_
    refine E_icmp_ge 167 dX11_keep_116 (by decide) (fun c_116 => ?_) (fun c_116 => ?_)
    · refine E_aload_n dX11_keep_167 rfl ?_
      refine E_getf 22 dX11_keep_168 fl_X11_58 (by decide) (hg_39 _) rfl ?_
      refine E_aload_n dX11_keep_171 rfl ?_
      refine E_getf 26 dX11_keep_172 fl_X11_156 (by decide) (hg_39 _) rfl ?_
      rw [hF']
      refine E_aload_n dX11_keep_175 rfl ?_
      refine E_getf 24 dX11_keep_176 fl_X11_159 (by decide) (hg_39 _) rfl ?_
      refine E_iast dX11_keep_179 (by decide) (hg_52 _) (vp_in_nI (by omega) (by omega)) ?_
      rw [hs_52]
      rw [hcl]
      refine E_aload_n dX11_keep_180 rfl ?_
      refine E_getf 23 dX11_keep_181 fl_X11_61 (by decide) (hg_39 _) rfl ?_
      refine E_aload_n dX11_keep_184 rfl ?_
      refine E_getf 26 (v := .int (z'.F 39 26)) dX11_keep_185 fl_X11_156 (by decide) (hg_39 _) rfl ?_
      rw [hF']
      refine E_aload_n dX11_keep_188 rfl ?_
      refine E_getf 25 (v := .int (z'.F 39 25)) dX11_keep_189 fl_X11_64 (by decide) (hg_39 _) rfl ?_
      refine E_iast (f := z'.A 53) dX11_keep_192 (by decide) (hg_53 _) (vp_in_nI (by omega) (by omega)) ?_
      rw [hs_53]
      rw [hcl]
      refine E_aload_n dX11_keep_193 rfl ?_
      refine E_dup dX11_keep_194 rfl ?_
      refine E_getf 26 (v := .int (z'.F 39 26)) dX11_keep_195 fl_X11_156 (by decide) (hg_39 _) rfl ?_
      rw [hF']
      refine E_iconst (v := 1) dX11_keep_198 rfl ?_
      refine E_iadd dX11_keep_199 ?_
      rw [nI_1]
      refine E_put 26 dX11_keep_200 fp_X11_156 (fitsV_int _) (by decide) (hg_39 _) (Nat.le_of_ble_eq_true rfl) ?_
      rw [hs_39_26]
      exact E_vret dX11_keep_203 rfl ⟨rfl, by rw [hz, show i = 200 by omega]; rfl⟩
    · exact absurd (nI_le (a := 200) (by omega) (by omega)) c_116
  | succ m ih =>
    intro i z' hi hz
    have hF' : z'.F 39 26 = nI K := by rw [hz]; exact hF
    have h48 : z'.A 48 = z.A 48 := by rw [hz]; rfl
    have h49 : z'.A 49 = z.A 49 := by rw [hz]; rfl
    have hcl : (nI i).toNatClampNeg = i := nI_clamp (by omega)
    have he : (200 : Int32) * nI K + nI i = nI (200 * K + i) := by rw [show (200 : Int32) = nI 200 from rfl, pk_mul, nI_add]
    refine E_iload_n dX11_keep_112 rfl ?_
    refine E_sipush (v := 200) dX11_keep_113 rfl ?_
    refine E_icmp_ge 167 dX11_keep_116 (by decide) (fun c_116 => ?_) (fun c_116 => ?_)
    · exact absurd c_116 (nI_ge (b := 200) (by omega) (by omega))
    · refine E_aload_n dX11_keep_119 rfl ?_
      refine E_getf 20 dX11_keep_120 fl_X11_52 (by decide) (hg_39 _) rfl ?_
      refine E_sipush (v := 200) dX11_keep_123 rfl ?_
      refine E_aload_n dX11_keep_126 rfl ?_
      refine E_getf 26 dX11_keep_127 fl_X11_156 (by decide) (hg_39 _) rfl ?_
      rw [hF']
      refine E_imul dX11_keep_130 ?_
      refine E_iload_n dX11_keep_131 rfl ?_
      refine E_iadd dX11_keep_132 ?_
      rw [he]
      refine E_aload_n dX11_keep_133 rfl ?_
      refine E_getf 18 dX11_keep_134 fl_X11_45 (by decide) (hg_39 _) rfl ?_
      refine E_iload_n dX11_keep_137 rfl ?_
      refine E_bald dX11_keep_138 (by decide) (hg_48 _) (vp_in_nI (by omega) (by omega)) ?_
      rw [hcl, h48]
      refine E_bast dX11_keep_139 (by decide) (hg_50 _) (vp_in_nI (by omega) (by omega)) ?_
      rw [hs_50]
      rw [nI_clamp (by omega)]
      refine E_aload_n dX11_keep_140 rfl ?_
      refine E_getf 21 dX11_keep_141 fl_X11_55 (by decide) (hg_39 _) rfl ?_
      refine E_sipush (v := 200) dX11_keep_144 rfl ?_
      refine E_aload_n dX11_keep_147 rfl ?_
      refine E_getf 26 (v := .int (z'.F 39 26)) dX11_keep_148 fl_X11_156 (by decide) (hg_39 _) rfl ?_
      rw [hF']
      refine E_imul dX11_keep_151 ?_
      refine E_iload_n dX11_keep_152 rfl ?_
      refine E_iadd dX11_keep_153 ?_
      rw [he]
      refine E_aload_n dX11_keep_154 rfl ?_
      refine E_getf 19 dX11_keep_155 fl_X11_49 (by decide) (hg_39 _) rfl ?_
      refine E_iload_n dX11_keep_158 rfl ?_
      refine E_bald (f := z'.A 49) dX11_keep_159 (by decide) (hg_49 _) (vp_in_nI (by omega) (by omega)) ?_
      rw [hcl, h49]
      refine E_bast (f := z'.A 51) dX11_keep_160 (by decide) (hg_51 _) (vp_in_nI (by omega) (by omega)) ?_
      rw [hs_51]
      rw [nI_clamp (by omega)]
      refine E_iincL 1 dX11_keep_161 rfl rfl (by decide) rfl ?_
      rw [nI_1]
      refine E_goto 112 dX11_keep_164 (by decide) ?_
      refine E.pick [1, 0] rfl ?_
      refine ih (i + 1) _ (by omega) ?_
      rw [hz, two_A _ (by decide), two_B, two_a _ (by decide), blk_s, blk_s]
theorem l_kL (z : Sg) (hF : z.F 39 26 = nI 100) : ∀ (m i : Nat) (z' : Sg), i + m = 100 → 1 ≤ i → z' = two z 52 53 (shL (z.A 52) i) (shL (z.A 53) i) → E mMod_keep 0 0 0 60 [(0, .ref 39), (1, .int (nI i))] [] (hp z') (Det none (hp (kC (kB (kA2 z) 99) 99))) := by
  intro m
  induction m with
  | zero =>
    intro i z' hi h1 hz
    have hF' : z'.F 39 26 = nI 100 := by rw [hz]; exact hF
    refine E_iload_n dX11_keep_60 rfl ?_
    refine E_bipush (v := 100) dX11_keep_61 rfl ?_
    refine E_icmp_ge 100 dX11_keep_63 (by decide) (fun c_63 => ?_) (fun c_63 => ?_)
    · refine E_aload_n dX11_keep_100 rfl ?_
      refine E_dup dX11_keep_101 rfl ?_
      refine E_getf 26 dX11_keep_102 fl_X11_156 (by decide) (hg_39 _) rfl ?_
      rw [hF']
      refine E_iconst (v := 1) dX11_keep_105 rfl ?_
      refine E_isub dX11_keep_106 ?_
      rw [show nI 100 - 1 = nI 99 from rfl]
      refine E_put 26 dX11_keep_107 fp_X11_156 (fitsV_int _) (by decide) (hg_39 _) (Nat.le_of_ble_eq_true rfl) ?_
      rw [hs_39_26]
      refine E_iconst (v := 0) dX11_keep_110 rfl ?_
      refine E_istore_n dX11_keep_111 (by decide) rfl ?_
      refine E.pick [1, 0] rfl ?_
      refine E.heq (hp (kA2 z)) (by rw [hz, show i = 100 by omega]; rfl) ?_
      exact l_kB (by decide) (kA2 z) rfl 200 0 (kA2 z) (by omega) (by rw [blk_0, blk_0, two_self])
    · exact absurd (nI_le (a := 100) (by omega) (by omega)) c_63
  | succ m ih =>
    intro i z' hi h1 hz
    have hcl : (nI i).toNatClampNeg = i := nI_clamp (by omega)
    have hs1 : nI i - 1 = nI (i - 1) := pk_sub (b := 1) h1
    refine E_iload_n dX11_keep_60 rfl ?_
    refine E_bipush (v := 100) dX11_keep_61 rfl ?_
    refine E_icmp_ge 100 dX11_keep_63 (by decide) (fun c_63 => ?_) (fun c_63 => ?_)
    · exact absurd c_63 (nI_ge (b := 100) (by omega) (by omega))
    · refine E_aload_n dX11_keep_66 rfl ?_
      refine E_getf 22 dX11_keep_67 fl_X11_58 (by decide) (hg_39 _) rfl ?_
      refine E_iload_n dX11_keep_70 rfl ?_
      refine E_iconst (v := 1) dX11_keep_71 rfl ?_
      refine E_isub dX11_keep_72 ?_
      rw [hs1]
      refine E_aload_n dX11_keep_73 rfl ?_
      refine E_getf 22 dX11_keep_74 fl_X11_58 (by decide) (hg_39 _) rfl ?_
      refine E_iload_n dX11_keep_77 rfl ?_
      refine E_iald dX11_keep_78 (by decide) (hg_52 _) (vp_in_nI (by omega) (by omega)) ?_
      rw [hcl]
      refine E_iast (f := z'.A 52) dX11_keep_79 (by decide) (hg_52 _) (vp_in_nI (by omega) (by omega)) ?_
      rw [hs_52]
      rw [nI_clamp (by omega)]
      refine E_aload_n dX11_keep_80 rfl ?_
      refine E_getf 23 dX11_keep_81 fl_X11_61 (by decide) (hg_39 _) rfl ?_
      refine E_iload_n dX11_keep_84 rfl ?_
      refine E_iconst (v := 1) dX11_keep_85 rfl ?_
      refine E_isub dX11_keep_86 ?_
      rw [hs1]
      refine E_aload_n dX11_keep_87 rfl ?_
      refine E_getf 23 dX11_keep_88 fl_X11_61 (by decide) (hg_39 _) rfl ?_
      refine E_iload_n dX11_keep_91 rfl ?_
      refine E_iald (f := z'.A 53) dX11_keep_92 (by decide) (hg_53 _) (vp_in_nI (by omega) (by omega)) ?_
      rw [hcl]
      refine E_iast (f := z'.A 53) dX11_keep_93 (by decide) (hg_53 _) (vp_in_nI (by omega) (by omega)) ?_
      rw [hs_53]
      rw [nI_clamp (by omega)]
      refine E_iincL 1 dX11_keep_94 rfl rfl (by decide) rfl ?_
      rw [nI_1]
      refine E_goto 60 dX11_keep_97 (by decide) ?_
      refine E.pick [1, 0] rfl ?_
      refine ih (i + 1) _ (by omega) (by omega) ?_
      rw [hz, two_A _ (by decide), two_B, two_a _ (by decide), shL_s _ h1, shL_s _ h1]
theorem l_kT (z : Sg) (hF : z.F 39 26 = nI 100) : ∀ (m i : Nat) (z' : Sg), i + m = 20000 → 200 ≤ i → z' = two z 50 51 (shT (z.A 50) i) (shT (z.A 51) i) → E mMod_keep 0 0 0 13 [(0, .ref 39), (1, .int (nI i))] [] (hp z') (Det none (hp (kC (kB (kA z) 99) 99))) := by
  intro m
  induction m with
  | zero =>
    intro i z' hi h1 hz
    have hF' : z'.F 39 26 = nI 100 := by rw [hz]; exact hF
    refine E_iload_n dX11_keep_13 rfl ?_
    refine E_sipush (v := 20000) dX11_keep_14 rfl ?_
    refine E_icmp_ge 58 dX11_keep_17 (by decide) (fun c_17 => ?_) (fun c_17 => ?_)
    · refine E_iconst (v := 1) dX11_keep_58 rfl ?_
      refine E_istore_n dX11_keep_59 (by decide) rfl ?_
      refine E.pick [1, 0] rfl ?_
      have hz2 : z' = two z 50 51 (shT (z.A 50) 20000) (shT (z.A 51) 20000) := by rw [hz, show i = 20000 by omega]
      rw [kA, ← hz2]
      exact l_kL z' hF' 99 1 z' (by omega) (by omega) (by rw [shL_0, shL_0, two_self])
    · exact absurd (nI_le (a := 20000) (by omega) (by omega)) c_17
  | succ m ih =>
    intro i z' hi h1 hz
    have hcl : (nI i).toNatClampNeg = i := nI_clamp (by omega)
    have hs1 : nI i - 200 = nI (i - 200) := pk_sub (b := 200) h1
    refine E_iload_n dX11_keep_13 rfl ?_
    refine E_sipush (v := 20000) dX11_keep_14 rfl ?_
    refine E_icmp_ge 58 dX11_keep_17 (by decide) (fun c_17 => ?_) (fun c_17 => ?_)
    · exact absurd c_17 (nI_ge (b := 20000) (by omega) (by omega))
    · refine E_aload_n dX11_keep_20 rfl ?_
      refine E_getf 20 dX11_keep_21 fl_X11_52 (by decide) (hg_39 _) rfl ?_
      refine E_iload_n dX11_keep_24 rfl ?_
      refine E_sipush (v := 200) dX11_keep_25 rfl ?_
      refine E_isub dX11_keep_28 ?_
      rw [hs1]
      refine E_aload_n dX11_keep_29 rfl ?_
      refine E_getf 20 dX11_keep_30 fl_X11_52 (by decide) (hg_39 _) rfl ?_
      refine E_iload_n dX11_keep_33 rfl ?_
      refine E_bald dX11_keep_34 (by decide) (hg_50 _) (vp_in_nI (by omega) (by omega)) ?_
      rw [hcl]
      refine E_bast dX11_keep_35 (by decide) (hg_50 _) (vp_in_nI (by omega) (by omega)) ?_
      rw [hs_50]
      rw [nI_clamp (by omega)]
      refine E_aload_n dX11_keep_36 rfl ?_
      refine E_getf 21 dX11_keep_37 fl_X11_55 (by decide) (hg_39 _) rfl ?_
      refine E_iload_n dX11_keep_40 rfl ?_
      refine E_sipush (v := 200) dX11_keep_41 rfl ?_
      refine E_isub dX11_keep_44 ?_
      rw [hs1]
      refine E_aload_n dX11_keep_45 rfl ?_
      refine E_getf 21 dX11_keep_46 fl_X11_55 (by decide) (hg_39 _) rfl ?_
      refine E_iload_n dX11_keep_49 rfl ?_
      refine E_bald (f := z'.A 51) dX11_keep_50 (by decide) (hg_51 _) (vp_in_nI (by omega) (by omega)) ?_
      rw [hcl]
      refine E_bast (f := z'.A 51) dX11_keep_51 (by decide) (hg_51 _) (vp_in_nI (by omega) (by omega)) ?_
      rw [hs_51]
      rw [nI_clamp (by omega)]
      refine E_iincL 1 dX11_keep_52 rfl rfl (by decide) rfl ?_
      rw [nI_1]
      refine E_goto 13 dX11_keep_55 (by decide) ?_
      refine E.pick [1, 0] rfl ?_
      refine ih (i + 1) _ (by omega) (by omega) ?_
      rw [hz, two_A _ (by decide), two_B, two_a _ (by decide), shT_s _ h1, shT_s _ h1]
theorem c_Mod_keep {k : Nat} (hk : k ≤ 100) (z : Sg) (hF : z.F 39 26 = nI k) : EM mMod_keep 0 0 0 [.ref 39] (hp z) (Det none (hp (mkp z k))) := by
  by_cases h : k = 100
  · rw [mkp, if_pos h]
    subst h
    refine E_aload_n dX11_keep_0 rfl ?_
    refine E_getf 26 dX11_keep_1 fl_X11_156 (by decide) (hg_39 _) rfl ?_
    rw [hF]
    refine E_bipush (v := 100) dX11_keep_4 rfl ?_
    refine E_icmp_ne 110 dX11_keep_6 (by decide) (fun c_6 => ?_) (fun c_6 => ?_)
    · exact absurd rfl c_6
    · refine E_sipush (v := 200) dX11_keep_9 rfl ?_
      refine E_istore_n dX11_keep_12 (by decide) rfl ?_
      refine E.pick [1, 0] rfl ?_
      exact l_kT z hF 19800 200 z (by omega) (by omega) (by rw [shT_0, shT_0, two_self])
  · rw [mkp, if_neg h]
    refine E_aload_n dX11_keep_0 rfl ?_
    refine E_getf 26 dX11_keep_1 fl_X11_156 (by decide) (hg_39 _) rfl ?_
    rw [hF]
    refine E_bipush (v := 100) dX11_keep_4 rfl ?_
    refine E_icmp_ne 110 dX11_keep_6 (by decide) (fun c_6 => ?_) (fun c_6 => ?_)
    · refine E_iconst (v := 0) dX11_keep_110 rfl ?_
      refine E_istore_n dX11_keep_111 (by decide) rfl ?_
      refine E.pick [1, 0] rfl ?_
      exact l_kB (by omega) z hF 200 0 z (by omega) (by rw [blk_0, blk_0, two_self])
    · exact absurd c_6 (fun h9 => h ((nI_eq (b := 100) (by omega) (by omega)).mp h9))
def cpy (f g : Nat → Int32) (K i : Nat) : Nat → Int32 := fun j => if j < i then vp_nar .byte (g (200 * K + j)) else f j
theorem cpy_s (f g : Nat → Int32) (K i : Nat) : upd (cpy f g K i) i (vp_nar .byte (g (200 * K + i))) = cpy f g K (i + 1) := by
  funext j
  unfold upd cpy
  by_cases h : j = i
  · rw [if_pos h, if_pos (by omega), h]
  · rw [if_neg h]
    by_cases h2 : j < i
    · rw [if_pos h2, if_pos (by omega)]
    · rw [if_neg h2, if_neg (by omega)]
theorem cpy_0 (f g : Nat → Int32) (K : Nat) : cpy f g K 0 = f := funext fun j => if_neg (by omega)
def mun (z : Sg) (k : Nat) : Sg := stF (stF (two (stF z 39 26 (nI (k - 1))) 48 49 (cpy (z.A 48) (z.A 50) (k - 1) 200) (cpy (z.A 49) (z.A 51) (k - 1) 200)) 39 24 (z.A 52 (k - 1))) 39 25 (z.A 53 (k - 1))
theorem l_mun {K : Nat} (hK : K < 100) (z : Sg) (hF : z.F 39 26 = nI K) : ∀ (m i : Nat) (z' : Sg), i + m = 200 → z' = two z 48 49 (cpy (z.A 48) (z.A 50) K i) (cpy (z.A 49) (z.A 51) K i) → E mMod_undo 0 0 0 20 [(0, .ref 39), (1, .int (nI i))] [] (hp z') (Det none (hp (stF (stF (two z 48 49 (cpy (z.A 48) (z.A 50) K 200) (cpy (z.A 49) (z.A 51) K 200)) 39 24 (z.A 52 K)) 39 25 (z.A 53 K)))) := by
  intro m
  induction m with
  | zero =>
    intro i z' hi hz
    have hF' : z'.F 39 26 = nI K := by rw [hz]; exact hF
    have h52 : z'.A 52 = z.A 52 := by rw [hz]; rfl
    have h53 : z'.A 53 = z.A 53 := by rw [hz]; rfl
    have hcl : (nI K).toNatClampNeg = K := nI_clamp (by omega)
    refine E_iload_n dX11_undo_20 rfl ?_
    refine E_sipush (v := 200) dX11_undo_21 rfl ?_
    refine E_icmp_ge 75 dX11_undo_24 (by decide) (fun c_24 => ?_) (fun c_24 => ?_)
    · refine E_aload_n dX11_undo_75 rfl ?_
      refine E_aload_n dX11_undo_76 rfl ?_
      refine E_getf 22 dX11_undo_77 fl_X11_58 (by decide) (hg_39 _) rfl ?_
      refine E_aload_n dX11_undo_80 rfl ?_
      refine E_getf 26 dX11_undo_81 fl_X11_156 (by decide) (hg_39 _) rfl ?_
      rw [hF']
      refine E_iald dX11_undo_84 (by decide) (hg_52 _) (vp_in_nI (by omega) (by omega)) ?_
      rw [hcl, h52]
      refine E_put 24 dX11_undo_85 fp_X11_159 (fitsV_int _) (by decide) (hg_39 _) (Nat.le_of_ble_eq_true rfl) ?_
      rw [hs_39_24]
      refine E_aload_n dX11_undo_88 rfl ?_
      refine E_aload_n dX11_undo_89 rfl ?_
      refine E_getf 23 dX11_undo_90 fl_X11_61 (by decide) (hg_39 _) rfl ?_
      refine E_aload_n dX11_undo_93 rfl ?_
      refine E_getf 26 (v := .int (z'.F 39 26)) dX11_undo_94 fl_X11_156 (by decide) (hg_39 _) rfl ?_
      rw [hF']
      refine E_iald (f := z'.A 53) dX11_undo_97 (by decide) (hg_53 _) (vp_in_nI (by omega) (by omega)) ?_
      rw [hcl, h53]
      refine E_put 25 dX11_undo_98 fp_X11_64 (fitsV_int _) (by decide) (hg_39 _) (Nat.le_of_ble_eq_true rfl) ?_
      rw [hs_39_25]
      exact E_vret dX11_undo_101 rfl ⟨rfl, by rw [hz, show i = 200 by omega]⟩
    · exact absurd (nI_le (a := 200) (by omega) (by omega)) c_24
  | succ m ih =>
    intro i z' hi hz
    have hF' : z'.F 39 26 = nI K := by rw [hz]; exact hF
    have h50 : z'.A 50 = z.A 50 := by rw [hz]; rfl
    have h51 : z'.A 51 = z.A 51 := by rw [hz]; rfl
    have hcl : (nI i).toNatClampNeg = i := nI_clamp (by omega)
    have he : (200 : Int32) * nI K + nI i = nI (200 * K + i) := by rw [show (200 : Int32) = nI 200 from rfl, pk_mul, nI_add]
    refine E_iload_n dX11_undo_20 rfl ?_
    refine E_sipush (v := 200) dX11_undo_21 rfl ?_
    refine E_icmp_ge 75 dX11_undo_24 (by decide) (fun c_24 => ?_) (fun c_24 => ?_)
    · exact absurd c_24 (nI_ge (b := 200) (by omega) (by omega))
    · refine E_aload_n dX11_undo_27 rfl ?_
      refine E_getf 18 dX11_undo_28 fl_X11_45 (by decide) (hg_39 _) rfl ?_
      refine E_iload_n dX11_undo_31 rfl ?_
      refine E_aload_n dX11_undo_32 rfl ?_
      refine E_getf 20 dX11_undo_33 fl_X11_52 (by decide) (hg_39 _) rfl ?_
      refine E_sipush (v := 200) dX11_undo_36 rfl ?_
      refine E_aload_n dX11_undo_39 rfl ?_
      refine E_getf 26 dX11_undo_40 fl_X11_156 (by decide) (hg_39 _) rfl ?_
      rw [hF']
      refine E_imul dX11_undo_43 ?_
      refine E_iload_n dX11_undo_44 rfl ?_
      refine E_iadd dX11_undo_45 ?_
      rw [he]
      refine E_bald dX11_undo_46 (by decide) (hg_50 _) (vp_in_nI (by omega) (by omega)) ?_
      rw [nI_clamp (by omega), h50]
      refine E_bast dX11_undo_47 (by decide) (hg_48 _) (vp_in_nI (by omega) (by omega)) ?_
      rw [hs_48]
      rw [hcl]
      refine E_aload_n dX11_undo_48 rfl ?_
      refine E_getf 19 dX11_undo_49 fl_X11_49 (by decide) (hg_39 _) rfl ?_
      refine E_iload_n dX11_undo_52 rfl ?_
      refine E_aload_n dX11_undo_53 rfl ?_
      refine E_getf 21 dX11_undo_54 fl_X11_55 (by decide) (hg_39 _) rfl ?_
      refine E_sipush (v := 200) dX11_undo_57 rfl ?_
      refine E_aload_n dX11_undo_60 rfl ?_
      refine E_getf 26 (v := .int (z'.F 39 26)) dX11_undo_61 fl_X11_156 (by decide) (hg_39 _) rfl ?_
      rw [hF']
      refine E_imul dX11_undo_64 ?_
      refine E_iload_n dX11_undo_65 rfl ?_
      refine E_iadd dX11_undo_66 ?_
      rw [he]
      refine E_bald (f := z'.A 51) dX11_undo_67 (by decide) (hg_51 _) (vp_in_nI (by omega) (by omega)) ?_
      rw [nI_clamp (by omega), h51]
      refine E_bast (f := z'.A 49) dX11_undo_68 (by decide) (hg_49 _) (vp_in_nI (by omega) (by omega)) ?_
      rw [hs_49]
      rw [hcl]
      refine E_iincL 1 dX11_undo_69 rfl rfl (by decide) rfl ?_
      rw [nI_1]
      refine E_goto 20 dX11_undo_72 (by decide) ?_
      refine E.pick [1, 0] rfl ?_
      refine ih (i + 1) _ (by omega) ?_
      rw [hz, two_A _ (by decide), two_B, two_a _ (by decide), cpy_s, cpy_s]
theorem c_Mod_undo {k : Nat} (hk : k ≤ 100) (z : Sg) (hF : z.F 39 26 = nI k) : EM mMod_undo 0 0 0 [.ref 39] (hp z) (Det none (hp (if k = 0 then z else mun z k))) := by
  by_cases h : k = 0
  · rw [if_pos h]
    subst h
    refine E_aload_n dX11_undo_0 rfl ?_
    refine E_getf 26 dX11_undo_1 fl_X11_156 (by decide) (hg_39 _) rfl ?_
    rw [hF]
    refine E_if_ne 8 dX11_undo_4 (by decide) (fun c_4 => ?_) (fun c_4 => ?_)
    · exact absurd rfl c_4
    · exact E_vret dX11_undo_7 rfl ⟨rfl, rfl⟩
  · rw [if_neg h]
    refine E_aload_n dX11_undo_0 rfl ?_
    refine E_getf 26 dX11_undo_1 fl_X11_156 (by decide) (hg_39 _) rfl ?_
    rw [hF]
    refine E_if_ne 8 dX11_undo_4 (by decide) (fun c_4 => ?_) (fun c_4 => ?_)
    · refine E_aload_n dX11_undo_8 rfl ?_
      refine E_dup dX11_undo_9 rfl ?_
      refine E_getf 26 dX11_undo_10 fl_X11_156 (by decide) (hg_39 _) rfl ?_
      rw [hF]
      refine E_iconst (v := 1) dX11_undo_13 rfl ?_
      refine E_isub dX11_undo_14 ?_
      rw [show nI k - 1 = nI (k - 1) from pk_sub (b := 1) (by omega)]
      refine E_put 26 dX11_undo_15 fp_X11_156 (fitsV_int _) (by decide) (hg_39 _) (Nat.le_of_ble_eq_true rfl) ?_
      rw [hs_39_26]
      refine E_iconst (v := 0) dX11_undo_18 rfl ?_
      refine E_istore_n dX11_undo_19 (by decide) rfl ?_
      refine E.pick [1, 0] rfl ?_
      exact l_mun (K := k - 1) (by omega) (stF z 39 26 (nI (k - 1))) rfl 200 0 _ (by omega) (by rw [cpy_0, cpy_0, two_self])
    · exact absurd c_4 (nI_ne0 (by omega) (by omega))
def mpt (z : Sg) (x : Int32) : Sg := stF (stA z 48 (upd (z.A 48) (z.F 39 24).toNatClampNeg (vp_nar .byte x.toInt8.toInt32))) 39 24 (z.F 39 24 + 1)
theorem c_put (z : Sg) (x : Int32) (h : vp_in (z.F 39 24) 200) : EM mMod_put 0 0 0 [.ref 39, .int x] (hp z) (Det none (hp (mpt z x))) := by
  refine E_aload_n dX11_put_0 rfl ?_
  refine E_getf 18 dX11_put_1 fl_X11_45 (by decide) (hg_39 _) rfl ?_
  refine E_aload_n dX11_put_4 rfl ?_
  refine E_getf 24 dX11_put_5 fl_X11_159 (by decide) (hg_39 _) rfl ?_
  refine E_iload_n dX11_put_8 rfl ?_
  refine E_i2b dX11_put_9 ?_
  refine E_bast dX11_put_10 (by decide) (hg_48 _) (h) ?_
  rw [hs_48]
  refine E_aload_n dX11_put_11 rfl ?_
  refine E_dup dX11_put_12 rfl ?_
  refine E_getf 24 (v := .int (z.F 39 24)) dX11_put_13 fl_X11_159 (by decide) (hg_39 _) rfl ?_
  refine E_iconst (v := 1) dX11_put_16 rfl ?_
  refine E_iadd dX11_put_17 ?_
  refine E_put 24 dX11_put_18 fp_X11_159 (fitsV_int _) (by decide) (hg_39 _) (Nat.le_of_ble_eq_true rfl) ?_
  rw [hs_39_24]
  exact E_vret dX11_put_21 rfl ⟨rfl, rfl⟩
