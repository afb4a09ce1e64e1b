/-! THE MODEL: isRow, isWord, word, written -/
abbrev mAll (z : Sg) (t i : Nat) : Prop := 0 < t ∧ ∀ j, j < i → isL (z.A 54 j)
theorem l_mRow {t : Nat} (ht : t ≤ 26) (z : Sg) (hF : z.F 39 31 = nI t) : ∀ (m i : Nat), i + m = t → E mMod_isRow 1 0 0 15 [(0, .ref 39), (1, .int (b2i (mAll z t i))), (2, .int (nI i))] [] (hp z) (Det (some (.int (b2i (mAll z t t)))) (hp z)) := by
  intro m
  induction m with
  | zero =>
    intro i hi
    refine E_iload_n dX11_isRow_15 rfl ?_
    refine E_aload_n dX11_isRow_16 rfl ?_
    refine E_getf 31 dX11_isRow_17 fl_X11_181 (by decide) (hg_39 _) rfl ?_
    rw [hF]
    refine E_icmp_ge 51 dX11_isRow_20 (by decide) (fun c_20 => ?_) (fun c_20 => ?_)
    · refine E_iload_n dX11_isRow_51 rfl ?_
      exact E_iret dX11_isRow_52 rfl b2i_nar ⟨by rw [show i = t by omega], rfl⟩
    · exact absurd (nI_le (by omega) (by omega)) c_20
  | succ m ih =>
    intro i hi
    have hcl : (nI i).toNatClampNeg = i := nI_clamp (by omega)
    have h9 := ih (i + 1) (by omega)
    refine E_iload_n dX11_isRow_15 rfl ?_
    refine E_aload_n dX11_isRow_16 rfl ?_
    refine E_getf 31 dX11_isRow_17 fl_X11_181 (by decide) (hg_39 _) rfl ?_
    rw [hF]
    refine E_icmp_ge 51 dX11_isRow_20 (by decide) (fun c_20 => ?_) (fun c_20 => ?_)
    · exact absurd c_20 (nI_ge (by omega) (by omega))
    · refine E_iload_n dX11_isRow_23 rfl ?_
      refine E_if_eq 43 dX11_isRow_24 (by decide) (fun c_24 => ?_) (fun c_24 => ?_)
      · refine E_iconst (v := 0) dX11_isRow_43 rfl ?_
        refine E_istore_n dX11_isRow_44 (by decide) rfl ?_
        refine E_iincL 1 dX11_isRow_45 rfl rfl (by decide) rfl ?_
        rw [nI_1]
        refine E_goto 15 dX11_isRow_48 (by decide) ?_
        refine E.pick [2, 1, 0] rfl ?_
        first | exact (by rw [b2i_f (show ¬ mAll z t (i + 1) from fun h8 => b2i_e0 c_24 ⟨h8.1, fun j hj => h8.2 j (by omega)⟩)] at h9; exact h9) | exact (by rw [b2i_f (show ¬ mAll z t (i + 1) from fun h8 => b2i_e0 c_36 (h8.2 i (by omega)))] at h9; exact h9) | exact (by rw [b2i_t (show mAll z t (i + 1) from ⟨(b2i_ne c_24).1, fun j hj => by by_cases e : j = i; exact e ▸ b2i_ne c_36; exact (b2i_ne c_24).2 j (by omega)⟩)] at h9; exact h9)
      · refine E_aload_n dX11_isRow_27 rfl ?_
        refine E_getf 27 dX11_isRow_28 fl_X11_67 (by decide) (hg_39 _) rfl ?_
        refine E_iload_n dX11_isRow_31 rfl ?_
        refine E_bald dX11_isRow_32 (by decide) (hg_54 _) (vp_in_nI (by omega) (by omega)) ?_
        rw [hcl]
        refine E_S1 dX11_isRow_33 cs_X11_124 (Nat.le_of_ble_eq_true rfl) (Nat.le_of_ble_eq_true rfl) (c_isSmall _ _) (by decide) (Nat.zero_le _) (Nat.zero_le _) ?_
        refine E_if_eq 43 dX11_isRow_36 (by decide) (fun c_36 => ?_) (fun c_36 => ?_)
        · refine E_iconst (v := 0) dX11_isRow_43 rfl ?_
          refine E_istore_n dX11_isRow_44 (by decide) rfl ?_
          refine E_iincL 1 dX11_isRow_45 rfl rfl (by decide) rfl ?_
          rw [nI_1]
          refine E_goto 15 dX11_isRow_48 (by decide) ?_
          refine E.pick [2, 1, 0] rfl ?_
          first | exact (by rw [b2i_f (show ¬ mAll z t (i + 1) from fun h8 => b2i_e0 c_24 ⟨h8.1, fun j hj => h8.2 j (by omega)⟩)] at h9; exact h9) | exact (by rw [b2i_f (show ¬ mAll z t (i + 1) from fun h8 => b2i_e0 c_36 (h8.2 i (by omega)))] at h9; exact h9) | exact (by rw [b2i_t (show mAll z t (i + 1) from ⟨(b2i_ne c_24).1, fun j hj => by by_cases e : j = i; exact e ▸ b2i_ne c_36; exact (b2i_ne c_24).2 j (by omega)⟩)] at h9; exact h9)
        · refine E_iconst (v := 1) dX11_isRow_39 rfl ?_
          refine E_goto 44 dX11_isRow_40 (by decide) ?_
          refine E_istore_n dX11_isRow_44 (by decide) rfl ?_
          refine E_iincL 1 dX11_isRow_45 rfl rfl (by decide) rfl ?_
          rw [nI_1]
          refine E_goto 15 dX11_isRow_48 (by decide) ?_
          refine E.pick [2, 1, 0] rfl ?_
          first | exact (by rw [b2i_f (show ¬ mAll z t (i + 1) from fun h8 => b2i_e0 c_24 ⟨h8.1, fun j hj => h8.2 j (by omega)⟩)] at h9; exact h9) | exact (by rw [b2i_f (show ¬ mAll z t (i + 1) from fun h8 => b2i_e0 c_36 (h8.2 i (by omega)))] at h9; exact h9) | exact (by rw [b2i_t (show mAll z t (i + 1) from ⟨(b2i_ne c_24).1, fun j hj => by by_cases e : j = i; exact e ▸ b2i_ne c_36; exact (b2i_ne c_24).2 j (by omega)⟩)] at h9; exact h9)
theorem c_Mod_isRow {t : Nat} (ht : t ≤ 26) (z : Sg) (hF : z.F 39 31 = nI t) : EM mMod_isRow 1 0 0 [.ref 39] (hp z) (Det (some (.int (b2i (mAll z t t)))) (hp z)) := by
  have h9 := l_mRow ht z hF t 0 (by omega)
  refine E_aload_n dX11_isRow_0 rfl ?_
  refine E_getf 31 dX11_isRow_1 fl_X11_181 (by decide) (hg_39 _) rfl ?_
  rw [hF]
  refine E_if_le 11 dX11_isRow_4 (by decide) (fun c_4 => ?_) (fun c_4 => ?_)
  · refine E_iconst (v := 0) dX11_isRow_11 rfl ?_
    refine E_istore_n dX11_isRow_12 (by decide) rfl ?_
    refine E_iconst (v := 0) dX11_isRow_13 rfl ?_
    refine E_istore_n dX11_isRow_14 (by decide) rfl ?_
    refine E.pick [2, 1, 0] rfl ?_
    first | exact (by rw [b2i_f (show ¬ mAll z t 0 from fun h8 => nI_nle h8.1 (by omega) c_4)] at h9; exact h9) | exact (by rw [b2i_t (show mAll z t 0 from ⟨by rcases Nat.eq_zero_or_pos t with h8 | h8; exact absurd (by rw [h8]; decide) c_4; exact h8, fun j hj => absurd hj (Nat.not_lt_zero j)⟩)] at h9; exact h9)
  · refine E_iconst (v := 1) dX11_isRow_7 rfl ?_
    refine E_goto 12 dX11_isRow_8 (by decide) ?_
    refine E_istore_n dX11_isRow_12 (by decide) rfl ?_
    refine E_iconst (v := 0) dX11_isRow_13 rfl ?_
    refine E_istore_n dX11_isRow_14 (by decide) rfl ?_
    refine E.pick [2, 1, 0] rfl ?_
    first | exact (by rw [b2i_f (show ¬ mAll z t 0 from fun h8 => nI_nle h8.1 (by omega) c_4)] at h9; exact h9) | exact (by rw [b2i_t (show mAll z t 0 from ⟨by rcases Nat.eq_zero_or_pos t with h8 | h8; exact absurd (by rw [h8]; decide) c_4; exact h8, fun j hj => absurd hj (Nat.not_lt_zero j)⟩)] at h9; exact h9)
abbrev mEq (z : Sg) (t W i : Nat) : Prop := z.A 56 W = nI t ∧ ∀ j, j < i → z.A 55 (12 * W + j) = z.A 54 j
theorem l_mIsW {t W : Nat} (ht : t ≤ 12) (hW : W < 40) (z : Sg) (hF : z.F 39 31 = nI t) : ∀ (m i : Nat), i + m = t → E mMod_isWord 0 0 0 21 [(0, .ref 39), (1, .int (nI W)), (2, .int (b2i (mEq z t W i))), (3, .int (nI i))] [] (hp z) (Det (some (.int (b2i (mEq z t W t)))) (hp z)) := by
  intro m
  induction m with
  | zero =>
    intro i hi
    refine E_iload_n dX11_isWord_21 rfl ?_
    refine E_aload_n dX11_isWord_22 rfl ?_
    refine E_getf 31 dX11_isWord_23 fl_X11_181 (by decide) (hg_39 _) rfl ?_
    rw [hF]
    refine E_icmp_ge 65 dX11_isWord_26 (by decide) (fun c_26 => ?_) (fun c_26 => ?_)
    · refine E_iload_n dX11_isWord_65 rfl ?_
      exact E_iret dX11_isWord_66 rfl b2i_nar ⟨by rw [show i = t by omega], rfl⟩
    · exact absurd (nI_le (by omega) (by omega)) c_26
  | succ m ih =>
    intro i hi
    have hcl : (nI i).toNatClampNeg = i := nI_clamp (by omega)
    have h9 := ih (i + 1) (by omega)
    have he : (12 : Int32) * nI W + nI i = nI (12 * W + i) := by rw [show (12 : Int32) = nI 12 from rfl, pk_mul, nI_add]
    refine E_iload_n dX11_isWord_21 rfl ?_
    refine E_aload_n dX11_isWord_22 rfl ?_
    refine E_getf 31 dX11_isWord_23 fl_X11_181 (by decide) (hg_39 _) rfl ?_
    rw [hF]
    refine E_icmp_ge 65 dX11_isWord_26 (by decide) (fun c_26 => ?_) (fun c_26 => ?_)
    · exact absurd c_26 (nI_ge (by omega) (by omega))
    · refine E_iload_n dX11_isWord_29 rfl ?_
      refine E_if_eq 65 dX11_isWord_30 (by decide) (fun c_30 => ?_) (fun c_30 => ?_)
      · refine E_iload_n dX11_isWord_65 rfl ?_
        exact E_iret dX11_isWord_66 rfl b2i_nar ⟨by rw [b2i_f (b2i_e0 c_30), b2i_f (show ¬ mEq z t W t from fun h8 => b2i_e0 c_30 ⟨h8.1, fun j hj => h8.2 j (by omega)⟩)], rfl⟩
      · refine E_aload_n dX11_isWord_33 rfl ?_
        refine E_getf 28 dX11_isWord_34 fl_X11_70 (by decide) (hg_39 _) rfl ?_
        refine E_bipush (v := 12) dX11_isWord_37 rfl ?_
        refine E_iload_n dX11_isWord_39 rfl ?_
        refine E_imul dX11_isWord_40 ?_
        refine E_iload_n dX11_isWord_41 rfl ?_
        refine E_iadd dX11_isWord_42 ?_
        rw [he]
        refine E_bald dX11_isWord_43 (by decide) (hg_55 _) (vp_in_nI (by omega) (by omega)) ?_
        rw [nI_clamp (by omega)]
        refine E_aload_n dX11_isWord_44 rfl ?_
        refine E_getf 27 dX11_isWord_45 fl_X11_67 (by decide) (hg_39 _) rfl ?_
        refine E_iload_n dX11_isWord_48 rfl ?_
        refine E_bald dX11_isWord_49 (by decide) (hg_54 _) (vp_in_nI (by omega) (by omega)) ?_
        rw [hcl]
        refine E_icmp_ne 57 dX11_isWord_50 (by decide) (fun c_50 => ?_) (fun c_50 => ?_)
        · refine E_iconst (v := 0) dX11_isWord_57 rfl ?_
          refine E_istore_n dX11_isWord_58 (by decide) rfl ?_
          refine E_iincL 1 dX11_isWord_59 rfl rfl (by decide) rfl ?_
          rw [nI_1]
          refine E_goto 21 dX11_isWord_62 (by decide) ?_
          refine E.pick [2, 3, 1, 0] rfl ?_
          first | exact (by rw [b2i_f (show ¬ mEq z t W (i + 1) from fun h8 => c_50 (h8.2 i (by omega)))] at h9; exact h9) | exact (by rw [b2i_t (show mEq z t W (i + 1) from ⟨(b2i_ne c_30).1, fun j hj => by by_cases e : j = i; exact e ▸ c_50; exact (b2i_ne c_30).2 j (by omega)⟩)] at h9; exact h9)
        · refine E_iconst (v := 1) dX11_isWord_53 rfl ?_
          refine E_goto 58 dX11_isWord_54 (by decide) ?_
          refine E_istore_n dX11_isWord_58 (by decide) rfl ?_
          refine E_iincL 1 dX11_isWord_59 rfl rfl (by decide) rfl ?_
          rw [nI_1]
          refine E_goto 21 dX11_isWord_62 (by decide) ?_
          refine E.pick [2, 3, 1, 0] rfl ?_
          first | exact (by rw [b2i_f (show ¬ mEq z t W (i + 1) from fun h8 => c_50 (h8.2 i (by omega)))] at h9; exact h9) | exact (by rw [b2i_t (show mEq z t W (i + 1) from ⟨(b2i_ne c_30).1, fun j hj => by by_cases e : j = i; exact e ▸ c_50; exact (b2i_ne c_30).2 j (by omega)⟩)] at h9; exact h9)
theorem c_Mod_isWord {t W : Nat} (ht : t ≤ 12) (hW : W < 40) (z : Sg) (hF : z.F 39 31 = nI t) : EM mMod_isWord 0 0 0 [.ref 39, .int (nI W)] (hp z) (Det (some (.int (b2i (mEq z t W t)))) (hp z)) := by
  have h9 := l_mIsW ht hW z hF t 0 (by omega)
  refine E_aload_n dX11_isWord_0 rfl ?_
  refine E_getf 29 dX11_isWord_1 fl_X11_73 (by decide) (hg_39 _) rfl ?_
  refine E_iload_n dX11_isWord_4 rfl ?_
  refine E_iald dX11_isWord_5 (by decide) (hg_56 _) (vp_in_nI (by omega) (by omega)) ?_
  rw [nI_clamp (by omega)]
  refine E_aload_n dX11_isWord_6 rfl ?_
  refine E_getf 31 dX11_isWord_7 fl_X11_181 (by decide) (hg_39 _) rfl ?_
  rw [hF]
  refine E_icmp_ne 17 dX11_isWord_10 (by decide) (fun c_10 => ?_) (fun c_10 => ?_)
  · refine E_iconst (v := 0) dX11_isWord_17 rfl ?_
    refine E_istore_n dX11_isWord_18 (by decide) rfl ?_
    refine E_iconst (v := 0) dX11_isWord_19 rfl ?_
    refine E_istore_n dX11_isWord_20 (by decide) rfl ?_
    refine E.pick [2, 3, 1, 0] rfl ?_
    first | exact (by rw [b2i_f (show ¬ mEq z t W 0 from fun h8 => c_10 h8.1)] at h9; exact h9) | exact (by rw [b2i_t (show mEq z t W 0 from ⟨c_10, fun j hj => absurd hj (Nat.not_lt_zero j)⟩)] at h9; exact h9)
  · refine E_iconst (v := 1) dX11_isWord_13 rfl ?_
    refine E_goto 18 dX11_isWord_14 (by decide) ?_
    refine E_istore_n dX11_isWord_18 (by decide) rfl ?_
    refine E_iconst (v := 0) dX11_isWord_19 rfl ?_
    refine E_istore_n dX11_isWord_20 (by decide) rfl ?_
    refine E.pick [2, 3, 1, 0] rfl ?_
    first | exact (by rw [b2i_f (show ¬ mEq z t W 0 from fun h8 => c_10 h8.1)] at h9; exact h9) | exact (by rw [b2i_t (show mEq z t W 0 from ⟨c_10, fun j hj => absurd hj (Nat.not_lt_zero j)⟩)] at h9; exact h9)
def mfn (z : Sg) (t : Nat) : Nat → Nat → Nat
  | 0, W => W
  | m + 1, W => if mEq z t W t then W else mfn z t m (W + 1)
theorem mfn_le (z : Sg) (t : Nat) : ∀ (m W : Nat), mfn z t m W ≤ W + m
  | 0, W => Nat.le_refl W
  | m + 1, W => by
    rw [mfn]
    split
    · omega
    · have := mfn_le z t m (W + 1)
      omega
def mcp (z : Sg) (n i : Nat) : Sg := stA z 55 (fun j => if 12 * n ≤ j ∧ j < 12 * n + i then vp_nar .byte (z.A 54 (j - 12 * n)) else z.A 55 j)
def mad (z : Sg) (n t : Nat) : Sg := stF (stA (mcp z n t) 56 (upd (z.A 56) n (nI t))) 39 32 (nI (n + 1))
def mfi (z : Sg) (W : Nat) (c : Int32) : Sg := stF (stA z 57 (upd (z.A 57) W c)) 39 31 0
theorem mw_fin (z : Sg) {W : Nat} (hW : W < 40) (c : Int32) {l3 : List (Nat × Value)} : E mMod_word 2 0 0 127 ([(0, .ref 39), (1, .int c), (2, .int (nI W))]) [] (hp z) (Det (some (.int (nI W))) (hp (mfi z W c))) := by
  refine E_aload_n dX11_word_127 rfl ?_
  refine E_getf 30 dX11_word_128 fl_X11_76 (by decide) (hg_39 _) rfl ?_
  refine E_iload_n dX11_word_131 rfl ?_
  refine E_iload_n dX11_word_132 rfl ?_
  refine E_iast dX11_word_133 (by decide) (hg_57 _) (vp_in_nI (by omega) (by omega)) ?_
  rw [hs_57]
  rw [nI_clamp (by omega)]
  refine E_aload_n dX11_word_134 rfl ?_
  refine E_iconst (v := 0) dX11_word_135 rfl ?_
  refine E_put 31 dX11_word_136 fp_X11_181 (fitsV_int _) (by decide) (hg_39 _) (Nat.le_of_ble_eq_true rfl) ?_
  rw [hs_39_31]
  refine E_iload_n dX11_word_139 rfl ?_
  exact E_iret dX11_word_140 rfl rfl ⟨rfl, rfl⟩
theorem l_mcp {n t : Nat} (hn : n < 40) (ht : t ≤ 12) (z : Sg) (hT : z.F 39 31 = nI t) (hB : z.F 39 32 = nI n) (c : Int32) : ∀ (m i : Nat) (z' : Sg), i + m = t → z' = mcp z n i → E mMod_word 2 0 0 76 [(0, .ref 39), (1, .int c), (2, .int (nI n)), (3, .int (nI i))] [] (hp z') (Det (some (.int (nI n))) (hp (mfi (mad z n t) n c))) := by
  intro m
  induction m with
  | zero =>
    intro i z' hi hz
    have hB' : z'.F 39 32 = nI n := by rw [hz]; exact hB
    have hT' : z'.F 39 31 = nI t := by rw [hz]; exact hT
    refine E_iload_n dX11_word_76 rfl ?_
    refine E_aload_n dX11_word_77 rfl ?_
    refine E_getf 31 dX11_word_78 fl_X11_181 (by decide) (hg_39 _) rfl ?_
    rw [hT']
    refine E_icmp_ge 107 dX11_word_81 (by decide) (fun c_81 => ?_) (fun c_81 => ?_)
    · refine E_aload_n dX11_word_107 rfl ?_
      refine E_getf 29 dX11_word_108 fl_X11_73 (by decide) (hg_39 _) rfl ?_
      refine E_iload_n dX11_word_111 rfl ?_
      refine E_aload_n dX11_word_112 rfl ?_
      refine E_getf 31 dX11_word_113 fl_X11_181 (by decide) (hg_39 _) rfl ?_
      rw [hT']
      refine E_iast dX11_word_116 (by decide) (hg_56 _) (vp_in_nI (by omega) (by omega)) ?_
      rw [hs_56]
      rw [nI_clamp (by omega)]
      refine E_aload_n dX11_word_117 rfl ?_
      refine E_dup dX11_word_118 rfl ?_
      refine E_getf 32 (v := .int (z'.F 39 32)) dX11_word_119 fl_X11_191 (by decide) (hg_39 _) rfl ?_
      rw [hB']
      refine E_iconst (v := 1) dX11_word_122 rfl ?_
      refine E_iadd dX11_word_123 ?_
      rw [nI_1]
      refine E_put 32 dX11_word_124 fp_X11_191 (fitsV_int _) (by decide) (hg_39 _) (Nat.le_of_ble_eq_true rfl) ?_
      rw [hs_39_32]
      refine E.pick [0, 1, 2] rfl ?_
      refine E.heq (hp (mad z n t)) (by rw [hz, show i = t by omega]; rfl) ?_
      exact mw_fin (mad z n t) hn c (l3 := [])
    · exact absurd (nI_le (by omega) (by omega)) c_81
  | succ m ih =>
    intro i z' hi hz
    have hT' : z'.F 39 31 = nI t := by rw [hz]; exact hT
    have h54 : z'.A 54 = z.A 54 := by rw [hz]; rfl
    have he : (12 : Int32) * nI n + nI i = nI (12 * n + i) := by rw [show (12 : Int32) = nI 12 from rfl, pk_mul, nI_add]
    refine E_iload_n dX11_word_76 rfl ?_
    refine E_aload_n dX11_word_77 rfl ?_
    refine E_getf 31 dX11_word_78 fl_X11_181 (by decide) (hg_39 _) rfl ?_
    rw [hT']
    refine E_icmp_ge 107 dX11_word_81 (by decide) (fun c_81 => ?_) (fun c_81 => ?_)
    · exact absurd c_81 (nI_ge (by omega) (by omega))
    · refine E_aload_n dX11_word_84 rfl ?_
      refine E_getf 28 dX11_word_85 fl_X11_70 (by decide) (hg_39 _) rfl ?_
      refine E_bipush (v := 12) dX11_word_88 rfl ?_
      refine E_iload_n dX11_word_90 rfl ?_
      refine E_imul dX11_word_91 ?_
      refine E_iload_n dX11_word_92 rfl ?_
      refine E_iadd dX11_word_93 ?_
      rw [he]
      refine E_aload_n dX11_word_94 rfl ?_
      refine E_getf 27 dX11_word_95 fl_X11_67 (by decide) (hg_39 _) rfl ?_
      refine E_iload_n dX11_word_98 rfl ?_
      refine E_bald dX11_word_99 (by decide) (hg_54 _) (vp_in_nI (by omega) (by omega)) ?_
      rw [nI_clamp (show i < 2 ^ 31 by omega), h54]
      refine E_bast dX11_word_100 (by decide) (hg_55 _) (vp_in_nI (by omega) (by omega)) ?_
      rw [hs_55]
      rw [nI_clamp (by omega)]
      refine E_iincL 1 dX11_word_101 rfl rfl (by decide) rfl ?_
      rw [nI_1]
      refine E_goto 76 dX11_word_104 (by decide) ?_
      refine E.pick [1, 2, 3, 0] rfl ?_
      refine ih (i + 1) _ (by omega) ?_
      rw [hz]
      unfold mcp
      rw [stA_stA]
      congr 1
      funext j
      rw [A_stA, if_pos rfl]
      unfold upd
      dsimp only
      by_cases h1 : j = 12 * n + i
      · rw [if_pos h1, if_pos (by omega), h1, Nat.add_sub_cancel_left]
      · rw [if_neg h1]
        by_cases h2 : 12 * n ≤ j ∧ j < 12 * n + i
        · rw [if_pos h2, if_pos (by omega)]
        · rw [if_neg h2, if_neg (by omega)]
theorem mcp_0 (z : Sg) (n : Nat) : mcp z n 0 = z := by
  unfold mcp
  rw [show (fun j => if 12 * n ≤ j ∧ j < 12 * n + 0 then vp_nar .byte (z.A 54 (j - 12 * n)) else z.A 55 j) = z.A 55 from funext fun j => if_neg (by omega), stA_self]
/-- what the model does with a word at place W of n -/
def mwR (z : Sg) (n t W : Nat) : Int32 := if W = 40 then -1 else nI W
def mwZ (z : Sg) (n t W : Nat) (c : Int32) : Sg := if W = 40 then z else if W = n then mfi (mad z n t) n c else mfi z W c
theorem l_mfn {n t : Nat} (hn : n ≤ 40) (ht : t ≤ 12) (z : Sg) (hT : z.F 39 31 = nI t) (hB : z.F 39 32 = nI n) (c : Int32) : ∀ (m W : Nat), W + m = n → E mMod_word 2 0 0 36 [(0, .ref 39), (1, .int c), (2, .int (nI W))] [] (hp z) (Det (some (.int (mwR z n t (mfn z t m W)))) (hp (mwZ z n t (mfn z t m W) c))) := by
  have tail : ∀ W, W ≤ n → E mMod_word 2 0 0 58 [(0, .ref 39), (1, .int c), (2, .int (nI W))] [] (hp z) (Det (some (.int (mwR z n t W))) (hp (mwZ z n t W c))) := by
    intro W hW
    refine E_iload_n dX11_word_58 rfl ?_
    refine E_bipush (v := 40) dX11_word_59 rfl ?_
    refine E_icmp_ne 66 dX11_word_61 (by decide) (fun c_61 => ?_) (fun c_61 => ?_)
    · have h40 : ¬ W = 40 := fun h9 => c_61 (by rw [h9]; rfl)
      rw [mwR, mwZ, if_neg h40, if_neg h40]
      refine E_iload_n dX11_word_66 rfl ?_
      refine E_aload_n dX11_word_67 rfl ?_
      refine E_getf 32 dX11_word_68 fl_X11_191 (by decide) (hg_39 _) rfl ?_
      rw [hB]
      refine E_icmp_ne 127 dX11_word_71 (by decide) (fun c_71 => ?_) (fun c_71 => ?_)
      · rw [if_neg (fun h9 => c_71 (by rw [h9]))]
        exact mw_fin z (by omega) c (l3 := [])
      · refine E_iconst (v := 0) dX11_word_74 rfl ?_
        refine E_istore_n dX11_word_75 (by decide) rfl ?_
        refine E.pick [1, 2, 3, 0] rfl ?_
        have hWn := (nI_eq (by omega) (by omega)).mp c_71
        rw [if_pos hWn, hWn]
        exact l_mcp (by omega) ht z hT hB c t 0 z (by omega) (mcp_0 z n).symm
    · refine E_iconst (v := (-1)) dX11_word_64 rfl ?_
      exact E_iret dX11_word_65 rfl rfl ⟨by rw [mwR, if_pos ((nI_eq (b := 40) (by omega) (by omega)).mp c_61)], by rw [mwZ, if_pos ((nI_eq (b := 40) (by omega) (by omega)).mp c_61)]⟩
  intro m
  induction m with
  | zero =>
    intro W hW
    refine E_iload_n dX11_word_36 rfl ?_
    refine E_aload_n dX11_word_37 rfl ?_
    refine E_getf 32 dX11_word_38 fl_X11_191 (by decide) (hg_39 _) rfl ?_
    rw [hB]
    refine E_icmp_ge 58 dX11_word_41 (by decide) (fun c_41 => ?_) (fun c_41 => ?_)
    · exact tail W (by omega)
    · exact absurd (nI_le (by omega) (by omega)) c_41
  | succ m ih =>
    intro W hW
    refine E_iload_n dX11_word_36 rfl ?_
    refine E_aload_n dX11_word_37 rfl ?_
    refine E_getf 32 dX11_word_38 fl_X11_191 (by decide) (hg_39 _) rfl ?_
    rw [hB]
    refine E_icmp_ge 58 dX11_word_41 (by decide) (fun c_41 => ?_) (fun c_41 => ?_)
    · exact absurd c_41 (nI_ge (by omega) (by omega))
    · refine E_aload_n dX11_word_44 rfl ?_
      refine E_iload_n dX11_word_45 rfl ?_
      refine E_V1 dX11_word_46 cv_X11_194 (by decide) (hg_39 _) rfl rfl (Nat.le_of_ble_eq_true rfl) (Nat.le_of_ble_eq_true rfl) (c_Mod_isWord ht (show W < 40 by omega) z hT) (by decide) (Nat.zero_le _) (Nat.zero_le _) ?_
      refine E_if_ne 58 dX11_word_49 (by decide) (fun c_49 => ?_) (fun c_49 => ?_)
      · rw [mfn, if_pos (b2i_ne c_49)]
        exact tail W (by omega)
      · refine E_iincL 1 dX11_word_52 rfl rfl (by decide) rfl ?_
        rw [nI_1]
        refine E_goto 36 dX11_word_55 (by decide) ?_
        refine E.pick [1, 2, 0] rfl ?_
        rw [mfn, if_neg (b2i_e0 c_49)]
        exact ih (W + 1) (by omega)
abbrev mwOK (z : Sg) (t : Nat) (c : Int32) : Prop := mAll z t t ∧ t ≤ 12 ∧ inB c 0 10000
theorem c_Mod_word {n t : Nat} (hn : n ≤ 40) (ht : t ≤ 26) (z : Sg) (hT : z.F 39 31 = nI t) (hB : z.F 39 32 = nI n) (c : Int32) : EM mMod_word 2 0 0 [.ref 39, .int c] (hp z) (Det (some (.int (if mwOK z t c then mwR (stF z 39 0 0) n t (mfn (stF z 39 0 0) t n 0) else (-1)))) (hp (if mwOK z t c then mwZ (stF z 39 0 0) n t (mfn (stF z 39 0 0) t n 0) c else stF z 39 0 0))) := by
  have hno : ∀ P : Prop, ¬ mwOK z t c → Det (some (.int (if mwOK z t c then mwR (stF z 39 0 0) n t (mfn (stF z 39 0 0) t n 0) else (-1)))) (hp (if mwOK z t c then mwZ (stF z 39 0 0) n t (mfn (stF z 39 0 0) t n 0) c else stF z 39 0 0)) (some (.int (-1))) (hp (stF z 39 0 0)) := fun _ h => ⟨by rw [if_neg h], by rw [if_neg h]⟩
  have hr := c_Mod_isRow ht (stF z 39 0 0) hT
  refine E_aload_n dX11_word_0 rfl ?_
  refine E_iconst (v := 0) dX11_word_1 rfl ?_
  refine E_put 0 dX11_word_2 fp_X11_98 (fitsV_int _) (by decide) (hg_39 _) (Nat.le_of_ble_eq_true rfl) ?_
  rw [hs_39_0]
  refine E_aload_n dX11_word_5 rfl ?_
  refine E_V0 (r := some (.int (b2i (mAll z t t)))) dX11_word_6 cv_X11_187 (by decide) (hg_39 _) rfl rfl (Nat.le_of_ble_eq_true rfl) (Nat.le_of_ble_eq_true rfl) (hr) (by decide) (Nat.zero_le _) (Nat.zero_le _) ?_
  refine E_if_eq 32 dX11_word_9 (by decide) (fun c_9 => ?_) (fun c_9 => ?_)
  · refine E_iconst (v := (-1)) dX11_word_32 rfl ?_
    exact E_iret dX11_word_33 rfl rfl (by first | exact hno True (fun h => b2i_e0 c_9 h.1) | exact hno True (fun h => by have := nI_le (b := 12) h.2.1 (by omega); rw [i32_le] at this; rw [i32_lt] at c_18; exact absurd c_18 (Int.not_lt.mpr this)) | exact hno True (fun h => b2i_e0 c_29 h.2.2))
  · refine E_aload_n dX11_word_12 rfl ?_
    refine E_getf 31 (v := .int (z.F 39 31)) dX11_word_13 fl_X11_181 (by decide) (hg_39 _) rfl ?_
    rw [hT]
    refine E_bipush (v := 12) dX11_word_16 rfl ?_
    refine E_icmp_gt 32 dX11_word_18 (by decide) (fun c_18 => ?_) (fun c_18 => ?_)
    · refine E_iconst (v := (-1)) dX11_word_32 rfl ?_
      exact E_iret dX11_word_33 rfl rfl (by first | exact hno True (fun h => b2i_e0 c_9 h.1) | exact hno True (fun h => by have := nI_le (b := 12) h.2.1 (by omega); rw [i32_le] at this; rw [i32_lt] at c_18; exact absurd c_18 (Int.not_lt.mpr this)) | exact hno True (fun h => b2i_e0 c_29 h.2.2))
    · refine E_iload_n dX11_word_21 rfl ?_
      refine E_iconst (v := 0) dX11_word_22 rfl ?_
      refine E_sipush (v := 10000) dX11_word_23 rfl ?_
      refine E_S3 dX11_word_26 cs_X11_120 (Nat.le_of_ble_eq_true rfl) (Nat.le_of_ble_eq_true rfl) (c_isIn _ c 0 10000) (by decide) (Nat.zero_le _) (Nat.zero_le _) ?_
      refine E_if_ne 34 dX11_word_29 (by decide) (fun c_29 => ?_) (fun c_29 => ?_)
      · refine E_iconst (v := 0) dX11_word_34 rfl ?_
        refine E_istore_n dX11_word_35 (by decide) rfl ?_
        refine E.pick [1, 2, 0] rfl ?_
        have h12 : t ≤ 12 := (nI_leI (b := 12) (by omega) (by omega)).mp (show nI t ≤ nI 12 by rw [i32_le]; rw [i32_lt] at c_18; exact Int.not_lt.mp c_18)
        rw [if_pos (show mwOK z t c from ⟨b2i_ne c_9, h12, b2i_ne c_29⟩), if_pos (show mwOK z t c from ⟨b2i_ne c_9, h12, b2i_ne c_29⟩)]
        exact l_mfn hn h12 (stF z 39 0 0) hT hB c n 0 (by omega)
      · refine E_iconst (v := (-1)) dX11_word_32 rfl ?_
        exact E_iret dX11_word_33 rfl rfl (by first | exact hno True (fun h => b2i_e0 c_9 h.1) | exact hno True (fun h => by have := nI_le (b := 12) h.2.1 (by omega); rw [i32_le] at this; rw [i32_lt] at c_18; exact absurd c_18 (Int.not_lt.mpr this)) | exact hno True (fun h => b2i_e0 c_29 h.2.2))
