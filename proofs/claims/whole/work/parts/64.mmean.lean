/-! THE MODEL: mean -/
section Mmean
variable {n : Nat} {z : Sg}
theorem rm_toInt (a b : Int64) : (a - a / b * b).toInt = a.toInt.tmod b.toInt := by
  have ha1 := a.toInt_lt
  have ha2 := a.le_toInt
  rw [Int64.toInt_sub, Int64.toInt_mul, Int64.toInt_div, Int.sub_bmod_bmod]
  rw [← Int.sub_bmod_bmod, Int.bmod_mul_bmod, Int.sub_bmod_bmod]
  have h1 : a.toInt - a.toInt.tdiv b.toInt * b.toInt = a.toInt.tmod b.toInt := by
    have := Int.tmod_add_tdiv_mul a.toInt b.toInt
    omega
  rw [h1]
  have h2 := Int.natAbs_tmod a.toInt b.toInt
  have h3 := Nat.mod_le a.toInt.natAbs b.toInt.natAbs
  have hb1 := b.toInt_lt
  have hb2 := b.le_toInt
  have h4 : a.toInt.tmod b.toInt < 9223372036854775808 := by
    by_cases hb : b.toInt = 0
    · rw [hb, Int.tmod_zero]
      omega
    · have h5 := Nat.mod_lt a.toInt.natAbs (show 0 < b.toInt.natAbs by omega)
      omega
  refine Int.bmod_eq_of_le ?_ ?_
  · omega
  · omega
/-- the model's gcd: as the desk's, with as many steps as it wants -/
theorem rm_lt (a b : Int64) (h : ¬ b = 0) : (a - a / b * b).toInt.natAbs < b.toInt.natAbs := by
  rw [rm_toInt, Int.natAbs_tmod]
  refine Nat.mod_lt _ ?_
  have : ¬ b.toInt = 0 := fun h9 => h (Int64.toInt_inj.mp (by rw [h9]; rfl))
  omega
theorem cdv_ne : ∀ (m : Nat) (a b : Int64), b.toInt.natAbs < m → (b = 0 → ¬ a = 0) → ¬ cdv m a b = 0
  | 0, _, _, h, _ => absurd h (by omega)
  | m + 1, a, b, h, h2 => by
    rw [cdv]
    split
    · next h3 => exact h2 h3
    · next h3 =>
      have := rm_lt a b h3
      exact cdv_ne m b _ (by omega) (fun _ => h3)
theorem l_mgd (w : Int32) (x0 y0 : Int64) (Q : Option Value → HP → Prop) (g : Int64) (K : E mMod_mean 2 0 0 205 [(0, .ref 39), (1, .int w), (2, .long x0), (4, .long y0), (6, .long g)] [] (hp z) Q) : ∀ (m : Nat) (a b : Int64), b.toInt.natAbs < m → cdv m a b = g → E mMod_mean 2 0 0 180 [(0, .ref 39), (1, .int w), (2, .long x0), (4, .long y0), (6, .long a), (8, .long b)] [] (hp z) Q := by
  intro m
  induction m with
  | zero =>
    intro a b h hg
    exact absurd h (by omega)
  | succ m ih =>
    intro a b h hg
    rw [cdv] at hg
    refine E_lload dX11_mean_180 rfl ?_
    refine E_lconst (v := 0) dX11_mean_182 rfl ?_
    refine E_lcmp dX11_mean_183 ?_
    refine E_if_eq 205 dX11_mean_184 (by decide) (fun c_184 => ?_) (fun c_184 => ?_)
    · refine E.pick [0, 1, 2, 3, 4] rfl ?_
      rw [if_pos (lgc.mp c_184)] at hg
      subst hg
      exact K
    · refine E_lload dX11_mean_187 rfl ?_
      refine E_lload dX11_mean_189 rfl ?_
      refine E_lrem dX11_mean_191 (fun h9 => c_184 (lgc.mpr h9)) ?_
      refine E_lstore dX11_mean_192 (by decide) rfl ?_
      refine E_lload dX11_mean_194 rfl ?_
      refine E_lstore dX11_mean_196 (by decide) rfl ?_
      refine E_lload dX11_mean_198 rfl ?_
      refine E_lstore dX11_mean_200 (by decide) rfl ?_
      refine E_goto 180 dX11_mean_202 (by decide) ?_
      refine E.pick [3, 4, 5, 6, 1, 0] rfl ?_
      rw [if_neg (fun h9 => c_184 (lgc.mpr h9))] at hg
      have h8 := rm_lt a b (fun h9 => c_184 (lgc.mpr h9))
      exact ih b _ (by omega) hg
def mls (z : Sg) (l : Nat) : Nat → Nat → Int32 → Int32
  | 0, _, b => b
  | m + 1, x, b => mls z l m (x + 1) (if z.A 40 x = 1 ∧ z.A 41 x = 97 + nI l ∧ (b = -1 ∨ mct z 60 0 x < b) then mct z 60 0 x else b)
theorem l_mls (h : grOK z n) (hF : z.F 39 5 = nI n) (w : Int32) (x0 y0 : Int64) (l : Nat) (Q : Option Value → HP → Prop) (r : Int32) (K : E mMod_mean 2 0 0 118 [(0, .ref 39), (1, .int w), (2, .long x0), (4, .long y0), (6, .int (nI l)), (7, .int r)] [] (hp z) Q) : ∀ (m x : Nat) (b : Int32), x + m = n → mls z l m x b = r → E mMod_mean 2 0 0 52 [(0, .ref 39), (1, .int w), (2, .long x0), (4, .long y0), (6, .int (nI l)), (7, .int b), (8, .int (nI x))] [] (hp z) Q := by
  have hn := h.1
  intro m
  induction m with
  | zero =>
    intro x b hx hr
    rw [mls] at hr
    subst hr
    refine E_iload dX11_mean_52 rfl ?_
    refine E_aload_n dX11_mean_54 rfl ?_
    refine E_getf 5 dX11_mean_55 fl_X11_22 (by decide) (hg_39 _) rfl ?_
    rw [hF]
    refine E_icmp_ge 118 dX11_mean_58 (by decide) (fun c_58 => ?_) (fun c_58 => ?_)
    · refine E.pick [0, 1, 2, 3, 4, 5] rfl ?_
      exact K
    · exact absurd (nI_le (by omega) (by omega)) c_58
  | succ m ih =>
    intro x b hx hr
    rw [mls] at hr
    have hcl : (nI x).toNatClampNeg = x := nI_clamp (by omega)
    have hc := c_Mod_costOf h x (by omega)
    have go : ∀ b2, b2 = (if z.A 40 x = 1 ∧ z.A 41 x = 97 + nI l ∧ (b = -1 ∨ mct z 60 0 x < b) then mct z 60 0 x else b) → E mMod_mean 2 0 0 112 [(0, .ref 39), (1, .int w), (2, .long x0), (4, .long y0), (6, .int (nI l)), (7, .int b2), (8, .int (nI x))] [] (hp z) Q := by
      intro b2 hb
      rw [← hb] at hr
      refine E_iincL 1 dX11_mean_112 rfl rfl (by decide) rfl ?_
      rw [nI_1]
      refine E_goto 52 dX11_mean_115 (by decide) ?_
      refine E.pick [1, 2, 3, 4, 5, 6, 0] rfl ?_
      exact ih (x + 1) b2 (by omega) hr
    refine E_iload dX11_mean_52 rfl ?_
    refine E_aload_n dX11_mean_54 rfl ?_
    refine E_getf 5 dX11_mean_55 fl_X11_22 (by decide) (hg_39 _) rfl ?_
    rw [hF]
    refine E_icmp_ge 118 dX11_mean_58 (by decide) (fun c_58 => ?_) (fun c_58 => ?_)
    · exact absurd c_58 (nI_ge (by omega) (by omega))
    · refine E_aload_n dX11_mean_61 rfl ?_
      refine E_getf 1 dX11_mean_62 fl_X11_9 (by decide) (hg_39 _) rfl ?_
      refine E_iload dX11_mean_65 rfl ?_
      refine E_iald dX11_mean_67 (by decide) (hg_40 _) (vp_in_nI (by omega) (by omega)) ?_
      rw [hcl]
      refine E_iconst (v := 1) dX11_mean_68 rfl ?_
      refine E_icmp_ne 112 dX11_mean_69 (by decide) (fun c_69 => ?_) (fun c_69 => ?_)
      · first | exact go b (by rw [if_neg (fun h9 => c_69 h9.1)]) | exact go b (by rw [if_neg (fun h9 => c_84 h9.2.1)]) | exact go b (by rw [if_neg (fun h9 => h9.2.2.elim c_90 (fun h8 => by rw [i32_lt] at h8; rw [i32_le] at c_101; omega))]) | (have h7 : mct z 60 0 x < b := (by rw [i32_lt]; rw [i32_le] at c_101; omega); exact go (mct z 60 0 x) (if_pos ⟨c_69, c_84, Or.inr h7⟩).symm) | exact go (mct z 60 0 x) (if_pos ⟨c_69, c_84, Or.inl c_90⟩).symm
      · refine E_aload_n dX11_mean_72 rfl ?_
        refine E_getf 2 dX11_mean_73 fl_X11_13 (by decide) (hg_39 _) rfl ?_
        refine E_iload dX11_mean_76 rfl ?_
        refine E_iald dX11_mean_78 (by decide) (hg_41 _) (vp_in_nI (by omega) (by omega)) ?_
        rw [hcl]
        refine E_bipush (v := 97) dX11_mean_79 rfl ?_
        refine E_iload dX11_mean_81 rfl ?_
        refine E_iadd dX11_mean_83 ?_
        refine E_icmp_ne 112 dX11_mean_84 (by decide) (fun c_84 => ?_) (fun c_84 => ?_)
        · first | exact go b (by rw [if_neg (fun h9 => c_69 h9.1)]) | exact go b (by rw [if_neg (fun h9 => c_84 h9.2.1)]) | exact go b (by rw [if_neg (fun h9 => h9.2.2.elim c_90 (fun h8 => by rw [i32_lt] at h8; rw [i32_le] at c_101; omega))]) | (have h7 : mct z 60 0 x < b := (by rw [i32_lt]; rw [i32_le] at c_101; omega); exact go (mct z 60 0 x) (if_pos ⟨c_69, c_84, Or.inr h7⟩).symm) | exact go (mct z 60 0 x) (if_pos ⟨c_69, c_84, Or.inl c_90⟩).symm
        · refine E_iload dX11_mean_87 rfl ?_
          refine E_iconst (v := (-1)) dX11_mean_89 rfl ?_
          refine E_icmp_eq 104 dX11_mean_90 (by decide) (fun c_90 => ?_) (fun c_90 => ?_)
          · refine E_aload_n dX11_mean_104 rfl ?_
            refine E_iload dX11_mean_105 rfl ?_
            refine E_V1 dX11_mean_107 cv_X11_207 (by decide) (hg_39 _) rfl rfl (Nat.le_of_ble_eq_true rfl) (Nat.le_of_ble_eq_true rfl) (hc) (by decide) (Nat.zero_le _) (Nat.zero_le _) ?_
            refine E_istore dX11_mean_110 (by decide) rfl ?_
            refine E.pick [1, 2, 3, 4, 5, 0, 6] rfl ?_
            first | exact go b (by rw [if_neg (fun h9 => c_69 h9.1)]) | exact go b (by rw [if_neg (fun h9 => c_84 h9.2.1)]) | exact go b (by rw [if_neg (fun h9 => h9.2.2.elim c_90 (fun h8 => by rw [i32_lt] at h8; rw [i32_le] at c_101; omega))]) | (have h7 : mct z 60 0 x < b := (by rw [i32_lt]; rw [i32_le] at c_101; omega); exact go (mct z 60 0 x) (if_pos ⟨c_69, c_84, Or.inr h7⟩).symm) | exact go (mct z 60 0 x) (if_pos ⟨c_69, c_84, Or.inl c_90⟩).symm
          · refine E_aload_n dX11_mean_93 rfl ?_
            refine E_iload dX11_mean_94 rfl ?_
            refine E_V1 dX11_mean_96 cv_X11_207 (by decide) (hg_39 _) rfl rfl (Nat.le_of_ble_eq_true rfl) (Nat.le_of_ble_eq_true rfl) (hc) (by decide) (Nat.zero_le _) (Nat.zero_le _) ?_
            refine E_iload dX11_mean_99 rfl ?_
            refine E_icmp_ge 112 dX11_mean_101 (by decide) (fun c_101 => ?_) (fun c_101 => ?_)
            · first | exact go b (by rw [if_neg (fun h9 => c_69 h9.1)]) | exact go b (by rw [if_neg (fun h9 => c_84 h9.2.1)]) | exact go b (by rw [if_neg (fun h9 => h9.2.2.elim c_90 (fun h8 => by rw [i32_lt] at h8; rw [i32_le] at c_101; omega))]) | (have h7 : mct z 60 0 x < b := (by rw [i32_lt]; rw [i32_le] at c_101; omega); exact go (mct z 60 0 x) (if_pos ⟨c_69, c_84, Or.inr h7⟩).symm) | exact go (mct z 60 0 x) (if_pos ⟨c_69, c_84, Or.inl c_90⟩).symm
            · refine E_aload_n dX11_mean_104 rfl ?_
              refine E_iload dX11_mean_105 rfl ?_
              refine E_V1 dX11_mean_107 cv_X11_207 (by decide) (hg_39 _) rfl rfl (Nat.le_of_ble_eq_true rfl) (Nat.le_of_ble_eq_true rfl) (hc) (by decide) (Nat.zero_le _) (Nat.zero_le _) ?_
              refine E_istore dX11_mean_110 (by decide) rfl ?_
              refine E.pick [1, 2, 3, 4, 5, 0, 6] rfl ?_
              first | exact go b (by rw [if_neg (fun h9 => c_69 h9.1)]) | exact go b (by rw [if_neg (fun h9 => c_84 h9.2.1)]) | exact go b (by rw [if_neg (fun h9 => h9.2.2.elim c_90 (fun h8 => by rw [i32_lt] at h8; rw [i32_le] at c_101; omega))]) | (have h7 : mct z 60 0 x < b := (by rw [i32_lt]; rw [i32_le] at c_101; omega); exact go (mct z 60 0 x) (if_pos ⟨c_69, c_84, Or.inr h7⟩).symm) | exact go (mct z 60 0 x) (if_pos ⟨c_69, c_84, Or.inl c_90⟩).symm
def mmn (z : Sg) (n : Nat) : Nat → Nat → Int64 → Int64 → Option (Int64 × Int64)
  | 0, _, t, a => some (t, a)
  | m + 1, l, t, a => if z.A 59 l = 0 then mmn z n m (l + 1) t a else if mls z l n 0 (-1) = -1 then none else mmn z n m (l + 1) (t + (z.A 59 l).toInt64 * (mls z l n 0 (-1)).toInt64) (a + (z.A 59 l).toInt64)
def mmR (w : Int32) : Option (Int64 × Int64) → Int64
  | none => -1
  | some (t, a) => if a = 0 then -1 else (if w = 0 then t else a) / cdv (a.toInt.natAbs + 1) t a
theorem l_mdv (w : Int32) (t a g : Int64) (hg : ¬ g = 0) : E mMod_mean 2 0 0 205 [(0, .ref 39), (1, .int w), (2, .long t), (4, .long a), (6, .long g)] [] (hp z) (Det (some (.long ((if w = 0 then t else a) / g))) (hp z)) := by
  refine E_iload_n dX11_mean_205 rfl ?_
  refine E_if_ne 216 dX11_mean_206 (by decide) (fun c_206 => ?_) (fun c_206 => ?_)
  · refine E_lload dX11_mean_216 rfl ?_
    refine E_lload dX11_mean_218 rfl ?_
    refine E_ldiv dX11_mean_220 (hg) ?_
    exact E_lret dX11_mean_221 rfl ⟨by first | rw [if_pos c_206] | rw [if_neg c_206], rfl⟩
  · refine E_lload_n dX11_mean_209 rfl ?_
    refine E_lload dX11_mean_210 rfl ?_
    refine E_ldiv dX11_mean_212 (hg) ?_
    refine E_goto 221 dX11_mean_213 (by decide) ?_
    exact E_lret dX11_mean_221 rfl ⟨by first | rw [if_pos c_206] | rw [if_neg c_206], rfl⟩
theorem l_mmn (h : grOK z n) (hF : z.F 39 5 = nI n) (w : Int32) : ∀ (m l : Nat) (t a : Int64), l + m = 26 → E mMod_mean 2 0 0 26 [(0, .ref 39), (1, .int w), (2, .long t), (4, .long a), (6, .int (nI l))] [] (hp z) (Det (some (.long (mmR w (mmn z n m l t a)))) (hp z)) := by
  intro m
  induction m with
  | zero =>
    intro l t a hl
    refine E_iload dX11_mean_26 rfl ?_
    refine E_bipush (v := 26) dX11_mean_28 rfl ?_
    refine E_icmp_ge 162 dX11_mean_30 (by decide) (fun c_30 => ?_) (fun c_30 => ?_)
    · refine E_lload dX11_mean_162 rfl ?_
      refine E_lconst (v := 0) dX11_mean_164 rfl ?_
      refine E_lcmp dX11_mean_165 ?_
      refine E_if_ne 173 dX11_mean_166 (by decide) (fun c_166 => ?_) (fun c_166 => ?_)
      · refine E_lload_n dX11_mean_173 rfl ?_
        refine E_lstore dX11_mean_174 (by decide) rfl ?_
        refine E_lload dX11_mean_176 rfl ?_
        refine E_lstore dX11_mean_178 (by decide) rfl ?_
        refine E.pick [2, 3, 4, 5, 1, 0] rfl ?_
        have ha : ¬ a = 0 := fun h9 => c_166 (lgc.mpr h9)
        have hne := cdv_ne (a.toInt.natAbs + 1) t a (by omega) (fun h9 => absurd h9 ha)
        refine l_mgd w t a _ _ ?_ (a.toInt.natAbs + 1) t a (by omega) rfl
        rw [mmn, mmR, if_neg ha]
        exact l_mdv w t a _ hne
      · refine E_ldc2 dX11_mean_169 k_210 ?_
        exact E_lret dX11_mean_172 rfl ⟨by rw [mmn, mmR, if_pos (lgc.mp c_166)], rfl⟩
    · exact absurd (nI_le (a := 26) (by omega) (by omega)) c_30
  | succ m ih =>
    intro l t a hl
    have hcl : (nI l).toNatClampNeg = l := nI_clamp (by omega)
    have step : z.A 59 l = 0 → E mMod_mean 2 0 0 156 [(0, .ref 39), (1, .int w), (2, .long t), (4, .long a), (6, .int (nI l))] [] (hp z) (Det (some (.long (mmR w (mmn z n (m + 1) l t a)))) (hp z)) := by
      intro h0
      rw [mmn, if_pos h0]
      refine E_iincL 1 dX11_mean_156 rfl rfl (by decide) rfl ?_
      rw [nI_1]
      refine E_goto 26 dX11_mean_159 (by decide) ?_
      refine E.pick [1, 2, 3, 4, 0] rfl ?_
      exact ih (l + 1) t a (by omega)
    have tail : ¬ z.A 59 l = 0 → E mMod_mean 2 0 0 118 [(0, .ref 39), (1, .int w), (2, .long t), (4, .long a), (6, .int (nI l)), (7, .int (mls z l n 0 (-1)))] [] (hp z) (Det (some (.long (mmR w (mmn z n (m + 1) l t a)))) (hp z)) := by
      intro h0
      rw [mmn, if_neg h0]
      refine E_iload dX11_mean_118 rfl ?_
      refine E_iconst (v := (-1)) dX11_mean_120 rfl ?_
      refine E_icmp_ne 128 dX11_mean_121 (by decide) (fun c_121 => ?_) (fun c_121 => ?_)
      · refine E_lload_n dX11_mean_128 rfl ?_
        refine E_aload_n dX11_mean_129 rfl ?_
        refine E_getf 34 dX11_mean_130 fl_X11_82 (by decide) (hg_39 _) rfl ?_
        refine E_iload dX11_mean_133 rfl ?_
        refine E_iald dX11_mean_135 (by decide) (hg_59 _) (vp_in_nI (by omega) (by omega)) ?_
        rw [hcl]
        refine E_i2l dX11_mean_136 ?_
        refine E_iload dX11_mean_137 rfl ?_
        refine E_i2l dX11_mean_139 ?_
        refine E_lmul dX11_mean_140 ?_
        refine E_ladd dX11_mean_141 ?_
        refine E_lstore_n dX11_mean_142 (by decide) rfl ?_
        refine E_lload dX11_mean_143 rfl ?_
        refine E_aload_n dX11_mean_145 rfl ?_
        refine E_getf 34 dX11_mean_146 fl_X11_82 (by decide) (hg_39 _) rfl ?_
        refine E_iload dX11_mean_149 rfl ?_
        refine E_iald dX11_mean_151 (by decide) (hg_59 _) (vp_in_nI (by omega) (by omega)) ?_
        rw [hcl]
        refine E_i2l dX11_mean_152 ?_
        refine E_ladd dX11_mean_153 ?_
        refine E_lstore dX11_mean_154 (by decide) rfl ?_
        refine E_iincL 1 dX11_mean_156 rfl rfl (by decide) rfl ?_
        rw [nI_1]
        refine E_goto 26 dX11_mean_159 (by decide) ?_
        refine E.pick [3, 4, 2, 1, 0] rfl ?_
        rw [if_neg c_121]
        exact ih (l + 1) _ _ (by omega)
      · refine E_ldc2 dX11_mean_124 k_210 ?_
        exact E_lret dX11_mean_127 rfl ⟨by rw [if_pos c_121]; rfl, rfl⟩
    refine E_iload dX11_mean_26 rfl ?_
    refine E_bipush (v := 26) dX11_mean_28 rfl ?_
    refine E_icmp_ge 162 dX11_mean_30 (by decide) (fun c_30 => ?_) (fun c_30 => ?_)
    · exact absurd c_30 (nI_ge (b := 26) (by omega) (by omega))
    · refine E_aload_n dX11_mean_33 rfl ?_
      refine E_getf 34 dX11_mean_34 fl_X11_82 (by decide) (hg_39 _) rfl ?_
      refine E_iload dX11_mean_37 rfl ?_
      refine E_iald dX11_mean_39 (by decide) (hg_59 _) (vp_in_nI (by omega) (by omega)) ?_
      rw [hcl]
      refine E_if_ne 46 dX11_mean_40 (by decide) (fun c_40 => ?_) (fun c_40 => ?_)
      · refine E_iconst (v := (-1)) dX11_mean_46 rfl ?_
        refine E_istore dX11_mean_47 (by decide) rfl ?_
        refine E_iconst (v := 0) dX11_mean_49 rfl ?_
        refine E_istore dX11_mean_50 (by decide) rfl ?_
        refine E.pick [2, 3, 4, 5, 6, 1, 0] rfl ?_
        exact l_mls h hF w t a l _ _ (tail c_40) n 0 (-1) (by omega) rfl
      · refine E_goto 156 dX11_mean_43 (by decide) ?_
        exact step c_40
theorem c_Mod_mean (h : grOK z n) (hF : z.F 39 5 = nI n) (w : Int32) : EM mMod_mean 2 0 0 [.ref 39, .int w] (hp z) (Det (some (.long (if inB w 0 1 then mmR w (mmn (z00 z) n 26 0 0 0) else (-1)))) (hp (z00 z))) := by
  refine E_aload_n dX11_mean_0 rfl ?_
  refine E_iconst (v := 0) dX11_mean_1 rfl ?_
  refine E_put 0 dX11_mean_2 fp_X11_98 (fitsV_int _) (by decide) (hg_39 _) (Nat.le_of_ble_eq_true rfl) ?_
  rw [hs_39_0]
  refine E_iload_n dX11_mean_5 rfl ?_
  refine E_iconst (v := 0) dX11_mean_6 rfl ?_
  refine E_iconst (v := 1) dX11_mean_7 rfl ?_
  refine E_S3 dX11_mean_8 cs_X11_120 (Nat.le_of_ble_eq_true rfl) (Nat.le_of_ble_eq_true rfl) (c_isIn _ w 0 1) (by decide) (Nat.zero_le _) (Nat.zero_le _) ?_
  refine E_if_ne 18 dX11_mean_11 (by decide) (fun c_11 => ?_) (fun c_11 => ?_)
  · refine E_lconst (v := 0) dX11_mean_18 rfl ?_
    refine E_lstore_n dX11_mean_19 (by decide) rfl ?_
    refine E_lconst (v := 0) dX11_mean_20 rfl ?_
    refine E_lstore dX11_mean_21 (by decide) rfl ?_
    refine E_iconst (v := 0) dX11_mean_23 rfl ?_
    refine E_istore dX11_mean_24 (by decide) rfl ?_
    refine E.pick [3, 4, 2, 1, 0] rfl ?_
    rw [if_pos (b2i_ne c_11)]
    exact l_mmn (z := z00 z) h hF w 26 0 0 0 (by omega)
  · refine E_ldc2 dX11_mean_14 k_210 ?_
    exact E_lret dX11_mean_17 rfl ⟨by rw [if_neg (b2i_e0 c_11)], rfl⟩
end Mmean
