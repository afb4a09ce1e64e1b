/-! THE MODEL: written, ranked, foreseenAt -/
def mwr (f : Nat → Int32) (t : Nat) : Nat → Nat → Nat
  | 0, n => n
  | m + 1, n => if isL (f (t - 1 - n)) then mwr f t m (n + 1) else n
theorem mwr_le (f : Nat → Int32) (t : Nat) : ∀ (m n : Nat), mwr f t m n ≤ n + m
  | 0, n => Nat.le_refl n
  | m + 1, n => by
    rw [mwr]
    split
    · have := mwr_le f t m (n + 1)
      omega
    · omega
def txOK (z : Sg) (t : Nat) : Prop := z.F 39 24 = nI t ∧ t ≤ 200
theorem l_mwr {z : Sg} {t : Nat} (h : txOK z t) : ∀ (m i : Nat), i + m = t → E mMod_written 1 0 0 2 [(0, .ref 39), (1, .int (nI i))] [] (hp z) (Det (some (.int (nI (mwr (z.A 48) t m i)))) (hp z)) := by
  obtain ⟨hF, ht⟩ := h
  intro m
  induction m with
  | zero =>
    intro i hi
    refine E_iload_n dX11_written_2 rfl ?_
    refine E_aload_n dX11_written_3 rfl ?_
    refine E_getf 24 dX11_written_4 fl_X11_159 (by decide) (hg_39 _) rfl ?_
    rw [hF]
    refine E_icmp_ge 35 dX11_written_7 (by decide) (fun c_7 => ?_) (fun c_7 => ?_)
    · refine E_iload_n dX11_written_35 rfl ?_
      exact E_iret dX11_written_36 rfl rfl ⟨rfl, rfl⟩
    · exact absurd (nI_le (by omega) (by omega)) c_7
  | succ m ih =>
    intro i hi
    refine E_iload_n dX11_written_2 rfl ?_
    refine E_aload_n dX11_written_3 rfl ?_
    refine E_getf 24 dX11_written_4 fl_X11_159 (by decide) (hg_39 _) rfl ?_
    rw [hF]
    refine E_icmp_ge 35 dX11_written_7 (by decide) (fun c_7 => ?_) (fun c_7 => ?_)
    · exact absurd c_7 (nI_ge (by omega) (by omega))
    · refine E_aload_n dX11_written_10 rfl ?_
      refine E_getf 18 dX11_written_11 fl_X11_45 (by decide) (hg_39 _) rfl ?_
      refine E_aload_n dX11_written_14 rfl ?_
      refine E_getf 24 dX11_written_15 fl_X11_159 (by decide) (hg_39 _) rfl ?_
      rw [hF]
      refine E_iconst (v := 1) dX11_written_18 rfl ?_
      refine E_isub dX11_written_19 ?_
      rw [show nI t - 1 = nI (t - 1) from pk_sub (b := 1) (by omega)]
      refine E_iload_n dX11_written_20 rfl ?_
      refine E_isub dX11_written_21 ?_
      rw [pk_sub (by omega)]
      refine E_bald dX11_written_22 (by decide) (hg_48 _) (vp_in_nI (by omega) (by omega)) ?_
      rw [nI_clamp (by omega)]
      refine E_S1 dX11_written_23 cs_X11_124 (Nat.le_of_ble_eq_true rfl) (Nat.le_of_ble_eq_true rfl) (c_isSmall _ _) (by decide) (Nat.zero_le _) (Nat.zero_le _) ?_
      refine E_if_eq 35 dX11_written_26 (by decide) (fun c_26 => ?_) (fun c_26 => ?_)
      · refine E_iload_n dX11_written_35 rfl ?_
        exact E_iret dX11_written_36 rfl rfl ⟨by rw [mwr, if_neg (b2i_e0 c_26)], rfl⟩
      · refine E_iincL 1 dX11_written_29 rfl rfl (by decide) rfl ?_
        rw [nI_1]
        refine E_goto 2 dX11_written_32 (by decide) ?_
        refine E.pick [1, 0] rfl ?_
        rw [mwr, if_pos (b2i_ne c_26)]
        exact ih (i + 1) (by omega)
theorem c_Mod_written {z : Sg} {t : Nat} (h : txOK z t) : EM mMod_written 1 0 0 [.ref 39] (hp z) (Det (some (.int (nI (mwr (z.A 48) t t 0)))) (hp z)) := by
  refine E_iconst (v := 0) dX11_written_0 rfl ?_
  refine E_istore_n dX11_written_1 (by decide) rfl ?_
  refine E.pick [1, 0] rfl ?_
  exact l_mwr h t 0 (by omega)
/-- word v stands ahead of word w -/
abbrev ahP (z : Sg) (w v : Nat) : Prop := ¬ z.A 58 v < 0 ∧ ¬ v = w ∧ (z.A 58 v < z.A 58 w ∨ (z.A 58 v = z.A 58 w ∧ (z.A 57 w < z.A 57 v ∨ (z.A 57 v = z.A 57 w ∧ v < w))))
def rnA (z : Sg) (w : Nat) : Nat → Nat → Nat → Nat
  | 0, _, c => c
  | m + 1, v, c => if ahP z w v then rnA z w m (v + 1) (c + 1) else rnA z w m (v + 1) c
theorem rnA_le (z : Sg) (w : Nat) : ∀ (m v c : Nat), rnA z w m v c ≤ c + m
  | 0, _, c => Nat.le_refl c
  | m + 1, v, c => by
    rw [rnA]
    split
    · have := rnA_le z w m (v + 1) (c + 1)
      omega
    · have := rnA_le z w m (v + 1) c
      omega
abbrev rkC (z : Sg) (n : Nat) (k : Int32) (w : Nat) : Prop := ¬ z.A 58 w < 0 ∧ nI (rnA z w n 0 0) = k
def rnk (z : Sg) (n : Nat) (k : Int32) : Nat → Nat → Int32
  | 0, _ => -1
  | m + 1, w => if rkC z n k w then nI w else rnk z n k m (w + 1)
theorem l_rnA {n : Nat} (hn : n ≤ 40) {z : Sg} (hF : z.F 39 32 = nI n) (k : Int32) (w : Nat) (hw : w < n) (Q : Option Value → HP → Prop) (K : E mMod_ranked 0 0 0 134 [(0, .ref 39), (1, .int k), (2, .int (nI w)), (3, .int (nI (rnA z w n 0 0)))] [] (hp z) Q) : ∀ (m v c : Nat), v + m = n → c ≤ v → rnA z w n 0 0 = rnA z w m v c → E mMod_ranked 0 0 0 27 [(0, .ref 39), (1, .int k), (2, .int (nI w)), (3, .int (nI c)), (4, .int (nI v))] [] (hp z) Q := by
  have hcw : (nI w).toNatClampNeg = w := nI_clamp (by omega)
  intro m
  induction m with
  | zero =>
    intro v c hv hc he
    refine E_iload dX11_ranked_27 rfl ?_
    refine E_aload_n dX11_ranked_29 rfl ?_
    refine E_getf 32 dX11_ranked_30 fl_X11_191 (by decide) (hg_39 _) rfl ?_
    rw [hF]
    refine E_icmp_ge 134 dX11_ranked_33 (by decide) (fun c_33 => ?_) (fun c_33 => ?_)
    · refine E.pick [0, 1, 2, 3] rfl ?_
      rw [he, rnA] at K
      exact K
    · exact absurd (nI_le (by omega) (by omega)) c_33
  | succ m ih =>
    intro v c hv hc he
    have hcv : (nI v).toNatClampNeg = v := nI_clamp (by omega)
    have gy : ahP z w v → E mMod_ranked 0 0 0 125 [(0, .ref 39), (1, .int k), (2, .int (nI w)), (3, .int (nI c)), (4, .int (nI v))] [] (hp z) Q := by
      intro ha
      refine E_iincL 1 dX11_ranked_125 rfl rfl (by decide) rfl ?_
      rw [nI_1]
      refine E_iincL 1 dX11_ranked_128 rfl rfl (by decide) rfl ?_
      rw [nI_1]
      refine E_goto 27 dX11_ranked_131 (by decide) ?_
      refine E.pick [2, 3, 4, 1, 0] rfl ?_
      exact ih (v + 1) (c + 1) (by omega) (by omega) (by rw [he, rnA, if_pos ha])
    have gn : ¬ ahP z w v → E mMod_ranked 0 0 0 128 [(0, .ref 39), (1, .int k), (2, .int (nI w)), (3, .int (nI c)), (4, .int (nI v))] [] (hp z) Q := by
      intro ha
      refine E_iincL 1 dX11_ranked_128 rfl rfl (by decide) rfl ?_
      rw [nI_1]
      refine E_goto 27 dX11_ranked_131 (by decide) ?_
      refine E.pick [1, 2, 3, 4, 0] rfl ?_
      exact ih (v + 1) c (by omega) (by omega) (by rw [he, rnA, if_neg ha])
    refine E_iload dX11_ranked_27 rfl ?_
    refine E_aload_n dX11_ranked_29 rfl ?_
    refine E_getf 32 dX11_ranked_30 fl_X11_191 (by decide) (hg_39 _) rfl ?_
    rw [hF]
    refine E_icmp_ge 134 dX11_ranked_33 (by decide) (fun c_33 => ?_) (fun c_33 => ?_)
    · exact absurd c_33 (nI_ge (by omega) (by omega))
    · refine E_aload_n dX11_ranked_36 rfl ?_
      refine E_getf 33 dX11_ranked_37 fl_X11_79 (by decide) (hg_39 _) rfl ?_
      refine E_iload dX11_ranked_40 rfl ?_
      refine E_iald dX11_ranked_42 (by decide) (hg_58 _) (vp_in_nI (by omega) (by omega)) ?_
      rw [hcv]
      refine E_if_lt 128 dX11_ranked_43 (by decide) (fun c_43 => ?_) (fun c_43 => ?_)
      · first | exact gn (fun h9 => h9.1 c_43) | exact gn (fun h9 => h9.2.1 ((nI_eq (by omega) (by omega)).mp c_49)) | exact gn (fun h9 => h9.2.2.elim c_68 (fun h8 => c_84 h8.1)) | exact gn (fun h9 => h9.2.2.elim c_68 (fun h8 => h8.2.elim c_100 (fun h7 => c_116 h7.1))) | exact gn (fun h9 => h9.2.2.elim c_68 (fun h8 => h8.2.elim c_100 (fun h7 => nI_ge h7.2 (by omega) c_122)))
      · refine E_iload dX11_ranked_46 rfl ?_
        refine E_iload_n dX11_ranked_48 rfl ?_
        refine E_icmp_ne 55 dX11_ranked_49 (by decide) (fun c_49 => ?_) (fun c_49 => ?_)
        · refine E_aload_n dX11_ranked_55 rfl ?_
          refine E_getf 33 dX11_ranked_56 fl_X11_79 (by decide) (hg_39 _) rfl ?_
          refine E_iload dX11_ranked_59 rfl ?_
          refine E_iald dX11_ranked_61 (by decide) (hg_58 _) (vp_in_nI (by omega) (by omega)) ?_
          rw [hcv]
          refine E_aload_n dX11_ranked_62 rfl ?_
          refine E_getf 33 dX11_ranked_63 fl_X11_79 (by decide) (hg_39 _) rfl ?_
          refine E_iload_n dX11_ranked_66 rfl ?_
          refine E_iald dX11_ranked_67 (by decide) (hg_58 _) (vp_in_nI (by omega) (by omega)) ?_
          rw [hcw]
          refine E_icmp_lt 125 dX11_ranked_68 (by decide) (fun c_68 => ?_) (fun c_68 => ?_)
          · have hvw : ¬ v = w := fun h9 => c_49 (by rw [h9])
            first | exact gy ⟨c_43, hvw, Or.inl c_68⟩ | exact gy ⟨c_43, hvw, Or.inr ⟨c_84, Or.inl c_100⟩⟩ | exact gy ⟨c_43, hvw, Or.inr ⟨c_84, Or.inr ⟨c_116, by rcases Nat.lt_or_ge v w with h9 | h9; exact h9; exact absurd (nI_le h9 (by omega)) c_122⟩⟩⟩
          · refine E_aload_n dX11_ranked_71 rfl ?_
            refine E_getf 33 dX11_ranked_72 fl_X11_79 (by decide) (hg_39 _) rfl ?_
            refine E_iload dX11_ranked_75 rfl ?_
            refine E_iald dX11_ranked_77 (by decide) (hg_58 _) (vp_in_nI (by omega) (by omega)) ?_
            rw [hcv]
            refine E_aload_n dX11_ranked_78 rfl ?_
            refine E_getf 33 dX11_ranked_79 fl_X11_79 (by decide) (hg_39 _) rfl ?_
            refine E_iload_n dX11_ranked_82 rfl ?_
            refine E_iald dX11_ranked_83 (by decide) (hg_58 _) (vp_in_nI (by omega) (by omega)) ?_
            rw [hcw]
            refine E_icmp_ne 128 dX11_ranked_84 (by decide) (fun c_84 => ?_) (fun c_84 => ?_)
            · first | exact gn (fun h9 => h9.1 c_43) | exact gn (fun h9 => h9.2.1 ((nI_eq (by omega) (by omega)).mp c_49)) | exact gn (fun h9 => h9.2.2.elim c_68 (fun h8 => c_84 h8.1)) | exact gn (fun h9 => h9.2.2.elim c_68 (fun h8 => h8.2.elim c_100 (fun h7 => c_116 h7.1))) | exact gn (fun h9 => h9.2.2.elim c_68 (fun h8 => h8.2.elim c_100 (fun h7 => nI_ge h7.2 (by omega) c_122)))
            · refine E_aload_n dX11_ranked_87 rfl ?_
              refine E_getf 30 dX11_ranked_88 fl_X11_76 (by decide) (hg_39 _) rfl ?_
              refine E_iload dX11_ranked_91 rfl ?_
              refine E_iald dX11_ranked_93 (by decide) (hg_57 _) (vp_in_nI (by omega) (by omega)) ?_
              rw [hcv]
              refine E_aload_n dX11_ranked_94 rfl ?_
              refine E_getf 30 dX11_ranked_95 fl_X11_76 (by decide) (hg_39 _) rfl ?_
              refine E_iload_n dX11_ranked_98 rfl ?_
              refine E_iald dX11_ranked_99 (by decide) (hg_57 _) (vp_in_nI (by omega) (by omega)) ?_
              rw [hcw]
              refine E_icmp_gt 125 dX11_ranked_100 (by decide) (fun c_100 => ?_) (fun c_100 => ?_)
              · have hvw : ¬ v = w := fun h9 => c_49 (by rw [h9])
                first | exact gy ⟨c_43, hvw, Or.inl c_68⟩ | exact gy ⟨c_43, hvw, Or.inr ⟨c_84, Or.inl c_100⟩⟩ | exact gy ⟨c_43, hvw, Or.inr ⟨c_84, Or.inr ⟨c_116, by rcases Nat.lt_or_ge v w with h9 | h9; exact h9; exact absurd (nI_le h9 (by omega)) c_122⟩⟩⟩
              · refine E_aload_n dX11_ranked_103 rfl ?_
                refine E_getf 30 dX11_ranked_104 fl_X11_76 (by decide) (hg_39 _) rfl ?_
                refine E_iload dX11_ranked_107 rfl ?_
                refine E_iald dX11_ranked_109 (by decide) (hg_57 _) (vp_in_nI (by omega) (by omega)) ?_
                rw [hcv]
                refine E_aload_n dX11_ranked_110 rfl ?_
                refine E_getf 30 dX11_ranked_111 fl_X11_76 (by decide) (hg_39 _) rfl ?_
                refine E_iload_n dX11_ranked_114 rfl ?_
                refine E_iald dX11_ranked_115 (by decide) (hg_57 _) (vp_in_nI (by omega) (by omega)) ?_
                rw [hcw]
                refine E_icmp_ne 128 dX11_ranked_116 (by decide) (fun c_116 => ?_) (fun c_116 => ?_)
                · first | exact gn (fun h9 => h9.1 c_43) | exact gn (fun h9 => h9.2.1 ((nI_eq (by omega) (by omega)).mp c_49)) | exact gn (fun h9 => h9.2.2.elim c_68 (fun h8 => c_84 h8.1)) | exact gn (fun h9 => h9.2.2.elim c_68 (fun h8 => h8.2.elim c_100 (fun h7 => c_116 h7.1))) | exact gn (fun h9 => h9.2.2.elim c_68 (fun h8 => h8.2.elim c_100 (fun h7 => nI_ge h7.2 (by omega) c_122)))
                · refine E_iload dX11_ranked_119 rfl ?_
                  refine E_iload_n dX11_ranked_121 rfl ?_
                  refine E_icmp_ge 128 dX11_ranked_122 (by decide) (fun c_122 => ?_) (fun c_122 => ?_)
                  · first | exact gn (fun h9 => h9.1 c_43) | exact gn (fun h9 => h9.2.1 ((nI_eq (by omega) (by omega)).mp c_49)) | exact gn (fun h9 => h9.2.2.elim c_68 (fun h8 => c_84 h8.1)) | exact gn (fun h9 => h9.2.2.elim c_68 (fun h8 => h8.2.elim c_100 (fun h7 => c_116 h7.1))) | exact gn (fun h9 => h9.2.2.elim c_68 (fun h8 => h8.2.elim c_100 (fun h7 => nI_ge h7.2 (by omega) c_122)))
                  · have hvw : ¬ v = w := fun h9 => c_49 (by rw [h9])
                    first | exact gy ⟨c_43, hvw, Or.inl c_68⟩ | exact gy ⟨c_43, hvw, Or.inr ⟨c_84, Or.inl c_100⟩⟩ | exact gy ⟨c_43, hvw, Or.inr ⟨c_84, Or.inr ⟨c_116, by rcases Nat.lt_or_ge v w with h9 | h9; exact h9; exact absurd (nI_le h9 (by omega)) c_122⟩⟩⟩
        · refine E_goto 128 dX11_ranked_52 (by decide) ?_
          first | exact gn (fun h9 => h9.1 c_43) | exact gn (fun h9 => h9.2.1 ((nI_eq (by omega) (by omega)).mp c_49)) | exact gn (fun h9 => h9.2.2.elim c_68 (fun h8 => c_84 h8.1)) | exact gn (fun h9 => h9.2.2.elim c_68 (fun h8 => h8.2.elim c_100 (fun h7 => c_116 h7.1))) | exact gn (fun h9 => h9.2.2.elim c_68 (fun h8 => h8.2.elim c_100 (fun h7 => nI_ge h7.2 (by omega) c_122)))
theorem l_rnk {n : Nat} (hn : n ≤ 40) {z : Sg} (hF : z.F 39 32 = nI n) (k : Int32) : ∀ (m w : Nat), w + m = n → E mMod_ranked 0 0 0 2 [(0, .ref 39), (1, .int k), (2, .int (nI w))] [] (hp z) (Det (some (.int (rnk z n k m w))) (hp z)) := by
  intro m
  induction m with
  | zero =>
    intro w hw
    refine E_iload_n dX11_ranked_2 rfl ?_
    refine E_aload_n dX11_ranked_3 rfl ?_
    refine E_getf 32 dX11_ranked_4 fl_X11_191 (by decide) (hg_39 _) rfl ?_
    rw [hF]
    refine E_icmp_ge 147 dX11_ranked_7 (by decide) (fun c_7 => ?_) (fun c_7 => ?_)
    · refine E_iconst (v := (-1)) dX11_ranked_147 rfl ?_
      exact E_iret dX11_ranked_148 rfl rfl ⟨rfl, rfl⟩
    · exact absurd (nI_le (by omega) (by omega)) c_7
  | succ m ih =>
    intro w hw
    have hcw : (nI w).toNatClampNeg = w := nI_clamp (by omega)
    have step : ∀ (lv : List (Nat × Value)), ¬ rkC z n k w → E mMod_ranked 0 0 0 141 [(0, .ref 39), (1, .int k), (2, .int (nI w))] [] (hp z) (Det (some (.int (rnk z n k (m + 1) w))) (hp z)) := by
      intro _ hc
      refine E_iincL 1 dX11_ranked_141 rfl rfl (by decide) rfl ?_
      rw [nI_1]
      refine E_goto 2 dX11_ranked_144 (by decide) ?_
      refine E.pick [1, 2, 0] rfl ?_
      rw [rnk, if_neg hc]
      exact ih (w + 1) (by omega)
    refine E_iload_n dX11_ranked_2 rfl ?_
    refine E_aload_n dX11_ranked_3 rfl ?_
    refine E_getf 32 dX11_ranked_4 fl_X11_191 (by decide) (hg_39 _) rfl ?_
    rw [hF]
    refine E_icmp_ge 147 dX11_ranked_7 (by decide) (fun c_7 => ?_) (fun c_7 => ?_)
    · exact absurd c_7 (nI_ge (by omega) (by omega))
    · refine E_aload_n dX11_ranked_10 rfl ?_
      refine E_getf 33 dX11_ranked_11 fl_X11_79 (by decide) (hg_39 _) rfl ?_
      refine E_iload_n dX11_ranked_14 rfl ?_
      refine E_iald dX11_ranked_15 (by decide) (hg_58 _) (vp_in_nI (by omega) (by omega)) ?_
      rw [hcw]
      refine E_if_ge 22 dX11_ranked_16 (by decide) (fun c_16 => ?_) (fun c_16 => ?_)
      · refine E_iconst (v := 0) dX11_ranked_22 rfl ?_
        refine E_istore_n dX11_ranked_23 (by decide) rfl ?_
        refine E_iconst (v := 0) dX11_ranked_24 rfl ?_
        refine E_istore dX11_ranked_25 (by decide) rfl ?_
        refine E.pick [2, 3, 4, 1, 0] rfl ?_
        refine l_rnA hn hF k w (by omega) _ ?_ n 0 0 (by omega) (by omega) rfl
        have hm : ¬ z.A 58 w < 0 := by rw [i32_lt]; rw [i32_le] at c_16; simp only [Int32.reduceToInt] at *; omega
        refine E_iload_n dX11_ranked_134 rfl ?_
        refine E_iload_n dX11_ranked_135 rfl ?_
        refine E_icmp_ne 141 dX11_ranked_136 (by decide) (fun c9 => ?_) (fun c9 => ?_)
        · refine E.pick [0, 1, 2] rfl ?_
          exact step [] (fun h9 => c9 h9.2)
        · refine E_iload_n dX11_ranked_139 rfl ?_
          exact E_iret dX11_ranked_140 rfl rfl ⟨by rw [rnk, if_pos (show rkC z n k w from ⟨hm, c9⟩)], rfl⟩
      · refine E_goto 141 dX11_ranked_19 (by decide) ?_
        exact step [] (fun h9 => h9.1 (by rw [i32_lt]; rw [i32_le] at c_16; simp only [Int32.reduceToInt] at *; omega))
theorem c_ranked {n : Nat} (hn : n ≤ 40) {z : Sg} (hF : z.F 39 32 = nI n) (k : Int32) : EM mMod_ranked 0 0 0 [.ref 39, .int k] (hp z) (Det (some (.int (rnk z n k n 0))) (hp z)) := by
  refine E_iconst (v := 0) dX11_ranked_0 rfl ?_
  refine E_istore_n dX11_ranked_1 (by decide) rfl ?_
  refine E.pick [1, 2, 0] rfl ?_
  exact l_rnk hn hF k n 0 (by omega)
/-- the model's book -/
def mdOK (z : Sg) (n : Nat) : Prop := z.F 39 32 = nI n ∧ n ≤ 40 ∧ ∀ W, W < n → ∃ L, 1 ≤ L ∧ L ≤ 12 ∧ z.A 56 W = nI L
abbrev fsM (z : Sg) (t q W i : Nat) : Prop := ¬ z.A 56 W ≤ nI q ∧ ∀ j, j < i → z.A 55 (12 * W + j) = z.A 48 (t - q + j)
def fmV (z : Sg) (t q W : Nat) : Int32 := if fsM z t q W q then 0 else -1
def fmk (t q : Nat) : Nat → Nat → Sg → Sg
  | 0, _, z => z
  | m + 1, W, z => fmk t q m (W + 1) (stA z 58 (upd (z.A 58) W (fmV z t q W)))
theorem F_fmk (t q : Nat) : ∀ (m W : Nat) (z : Sg), (fmk t q m W z).F = z.F
  | 0, _, _ => rfl
  | m + 1, W, z => by rw [fmk, F_fmk]; rfl
theorem l_fsi {n t q W : Nat} {z : Sg} (hx : txOK z t) (hd : mdOK z n) (hq : q ≤ t) (hW : W < n) (k : Int32) (Q : Option Value → HP → Prop) (K : E mMod_foreseenAt 2 0 0 88 [(0, .ref 39), (1, .int k), (2, .int (nI q)), (3, .int (nI W)), (4, .int (b2i (fsM z t q W q)))] [] (hp z) Q) : ∀ (m i : Nat), i + m = q → E mMod_foreseenAt 2 0 0 35 [(0, .ref 39), (1, .int k), (2, .int (nI q)), (3, .int (nI W)), (4, .int (b2i (fsM z t q W i))), (5, .int (nI i))] [] (hp z) Q := by
  obtain ⟨hF, ht⟩ := hx
  have hn := hd.2.1
  obtain ⟨L, hL1, hL2, hL⟩ := hd.2.2 W hW
  intro m
  induction m with
  | zero =>
    intro i hi
    refine E_iload dX11_foreseenAt_35 rfl ?_
    refine E_iload_n dX11_foreseenAt_37 rfl ?_
    refine E_icmp_ge 88 dX11_foreseenAt_38 (by decide) (fun c_38 => ?_) (fun c_38 => ?_)
    · refine E.pick [0, 1, 2, 3, 4] rfl ?_
      rw [show i = q by omega]
      exact K
    · exact absurd (nI_le (by omega) (by omega)) c_38
  | succ m ih =>
    intro i hi
    have h9 := ih (i + 1) (by omega)
    have he : (12 : Int32) * nI W + nI i = nI (12 * W + i) := by rw [show (12 : Int32) = nI 12 from rfl, pk_mul, nI_add]
    refine E_iload dX11_foreseenAt_35 rfl ?_
    refine E_iload_n dX11_foreseenAt_37 rfl ?_
    refine E_icmp_ge 88 dX11_foreseenAt_38 (by decide) (fun c_38 => ?_) (fun c_38 => ?_)
    · exact absurd c_38 (nI_ge (by omega) (by omega))
    · refine E_iload dX11_foreseenAt_41 rfl ?_
      refine E_if_eq 88 dX11_foreseenAt_43 (by decide) (fun c_43 => ?_) (fun c_43 => ?_)
      · refine E.pick [0, 1, 2, 3, 4] rfl ?_
        rw [b2i_f (b2i_e0 c_43)]
        rw [b2i_f (show ¬ fsM z t q W q from fun h8 => b2i_e0 c_43 ⟨h8.1, fun j hj => h8.2 j (by omega)⟩)] at K
        exact K
      · have hqL : q < L := by
          have h8 := (b2i_ne c_43).1
          rw [hL, nI_leI (by omega) (by omega)] at h8
          omega
        refine E_aload_n dX11_foreseenAt_46 rfl ?_
        refine E_getf 28 dX11_foreseenAt_47 fl_X11_70 (by decide) (hg_39 _) rfl ?_
        refine E_bipush (v := 12) dX11_foreseenAt_50 rfl ?_
        refine E_iload_n dX11_foreseenAt_52 rfl ?_
        refine E_imul dX11_foreseenAt_53 ?_
        refine E_iload dX11_foreseenAt_54 rfl ?_
        refine E_iadd dX11_foreseenAt_56 ?_
        rw [he]
        refine E_bald dX11_foreseenAt_57 (by decide) (hg_55 _) (vp_in_nI (by omega) (by omega)) ?_
        rw [nI_clamp (by omega)]
        refine E_aload_n dX11_foreseenAt_58 rfl ?_
        refine E_getf 18 dX11_foreseenAt_59 fl_X11_45 (by decide) (hg_39 _) rfl ?_
        refine E_aload_n dX11_foreseenAt_62 rfl ?_
        refine E_getf 24 dX11_foreseenAt_63 fl_X11_159 (by decide) (hg_39 _) rfl ?_
        rw [hF]
        refine E_iload_n dX11_foreseenAt_66 rfl ?_
        refine E_isub dX11_foreseenAt_67 ?_
        rw [pk_sub hq]
        refine E_iload dX11_foreseenAt_68 rfl ?_
        refine E_iadd dX11_foreseenAt_70 ?_
        rw [nI_add]
        refine E_bald dX11_foreseenAt_71 (by decide) (hg_48 _) (vp_in_nI (by omega) (by omega)) ?_
        rw [nI_clamp (by omega)]
        refine E_icmp_ne 79 dX11_foreseenAt_72 (by decide) (fun c_72 => ?_) (fun c_72 => ?_)
        · refine E_iconst (v := 0) dX11_foreseenAt_79 rfl ?_
          refine E_istore dX11_foreseenAt_80 (by decide) rfl ?_
          refine E_iincL 1 dX11_foreseenAt_82 rfl rfl (by decide) rfl ?_
          rw [nI_1]
          refine E_goto 35 dX11_foreseenAt_85 (by decide) ?_
          refine E.pick [2, 3, 4, 5, 1, 0] rfl ?_
          first | exact (by rw [b2i_f (show ¬ fsM z t q W (i + 1) from fun h8 => c_72 (h8.2 i (by omega)))] at h9; exact h9) | exact (by rw [b2i_t (show fsM z t q W (i + 1) from ⟨(b2i_ne c_43).1, fun j hj => by by_cases e : j = i; exact e ▸ c_72; exact (b2i_ne c_43).2 j (by omega)⟩)] at h9; exact h9)
        · refine E_iconst (v := 1) dX11_foreseenAt_75 rfl ?_
          refine E_goto 80 dX11_foreseenAt_76 (by decide) ?_
          refine E_istore dX11_foreseenAt_80 (by decide) rfl ?_
          refine E_iincL 1 dX11_foreseenAt_82 rfl rfl (by decide) rfl ?_
          rw [nI_1]
          refine E_goto 35 dX11_foreseenAt_85 (by decide) ?_
          refine E.pick [2, 3, 4, 5, 1, 0] rfl ?_
          first | exact (by rw [b2i_f (show ¬ fsM z t q W (i + 1) from fun h8 => c_72 (h8.2 i (by omega)))] at h9; exact h9) | exact (by rw [b2i_t (show fsM z t q W (i + 1) from ⟨(b2i_ne c_43).1, fun j hj => by by_cases e : j = i; exact e ▸ c_72; exact (b2i_ne c_43).2 j (by omega)⟩)] at h9; exact h9)
theorem l_fmk {n t q : Nat} (hq : q ≤ t) (k : Int32) : ∀ (m W : Nat) (z : Sg), W + m = n → txOK z t → mdOK z n → E mMod_foreseenAt 2 0 0 7 [(0, .ref 39), (1, .int k), (2, .int (nI q)), (3, .int (nI W))] [] (hp z) (Det (some (.int (rnk (fmk t q m W z) n k n 0))) (hp (fmk t q m W z))) := by
  intro m
  induction m with
  | zero =>
    intro W z hW hx hd
    have hn := hd.2.1
    refine E_iload_n dX11_foreseenAt_7 rfl ?_
    refine E_aload_n dX11_foreseenAt_8 rfl ?_
    refine E_getf 32 dX11_foreseenAt_9 fl_X11_191 (by decide) (hg_39 _) rfl ?_
    rw [hd.1]
    refine E_icmp_ge 110 dX11_foreseenAt_12 (by decide) (fun c_12 => ?_) (fun c_12 => ?_)
    · refine E_aload_n dX11_foreseenAt_110 rfl ?_
      refine E_iload_n dX11_foreseenAt_111 rfl ?_
      refine E_V1 dX11_foreseenAt_112 cv_X11_197 (by decide) (hg_39 _) rfl rfl (Nat.le_of_ble_eq_true rfl) (Nat.le_of_ble_eq_true rfl) (c_ranked hd.2.1 hd.1 k) (by decide) (Nat.zero_le _) (Nat.zero_le _) ?_
      exact E_iret dX11_foreseenAt_115 rfl rfl ⟨rfl, rfl⟩
    · exact absurd (nI_le (by omega) (by omega)) c_12
  | succ m ih =>
    intro W z hW hx hd
    have hn := hd.2.1
    have hcl : (nI W).toNatClampNeg = W := nI_clamp (by omega)
    have st : E mMod_foreseenAt 2 0 0 88 [(0, .ref 39), (1, .int k), (2, .int (nI q)), (3, .int (nI W)), (4, .int (b2i (fsM z t q W q)))] [] (hp z) (Det (some (.int (rnk (fmk t q (m + 1) W z) n k n 0))) (hp (fmk t q (m + 1) W z))) := by
      rw [fmk, fmV]
      refine E_aload_n dX11_foreseenAt_88 rfl ?_
      refine E_getf 33 dX11_foreseenAt_89 fl_X11_79 (by decide) (hg_39 _) rfl ?_
      refine E_iload_n dX11_foreseenAt_92 rfl ?_
      refine E_iload dX11_foreseenAt_93 rfl ?_
      refine E_if_eq 102 dX11_foreseenAt_95 (by decide) (fun c_95 => ?_) (fun c_95 => ?_)
      · refine E_iconst (v := (-1)) dX11_foreseenAt_102 rfl ?_
        refine E_iast dX11_foreseenAt_103 (by decide) (hg_58 _) (vp_in_nI (by omega) (by omega)) ?_
        rw [hs_58]
        rw [hcl]
        refine E_iincL 1 dX11_foreseenAt_104 rfl rfl (by decide) rfl ?_
        rw [nI_1]
        refine E_goto 7 dX11_foreseenAt_107 (by decide) ?_
        refine E.pick [1, 2, 3, 0] rfl ?_
        first | exact (by rw [if_neg (b2i_e0 c_95)]; exact ih (W + 1) _ (by omega) hx hd) | exact (by rw [if_pos (b2i_ne c_95)]; exact ih (W + 1) _ (by omega) hx hd)
      · refine E_iconst (v := 0) dX11_foreseenAt_98 rfl ?_
        refine E_goto 103 dX11_foreseenAt_99 (by decide) ?_
        refine E_iast dX11_foreseenAt_103 (by decide) (hg_58 _) (vp_in_nI (by omega) (by omega)) ?_
        rw [hs_58]
        rw [hcl]
        refine E_iincL 1 dX11_foreseenAt_104 rfl rfl (by decide) rfl ?_
        rw [nI_1]
        refine E_goto 7 dX11_foreseenAt_107 (by decide) ?_
        refine E.pick [1, 2, 3, 0] rfl ?_
        first | exact (by rw [if_neg (b2i_e0 c_95)]; exact ih (W + 1) _ (by omega) hx hd) | exact (by rw [if_pos (b2i_ne c_95)]; exact ih (W + 1) _ (by omega) hx hd)
    refine E_iload_n dX11_foreseenAt_7 rfl ?_
    refine E_aload_n dX11_foreseenAt_8 rfl ?_
    refine E_getf 32 dX11_foreseenAt_9 fl_X11_191 (by decide) (hg_39 _) rfl ?_
    rw [hd.1]
    refine E_icmp_ge 110 dX11_foreseenAt_12 (by decide) (fun c_12 => ?_) (fun c_12 => ?_)
    · exact absurd c_12 (nI_ge (by omega) (by omega))
    · refine E_aload_n dX11_foreseenAt_15 rfl ?_
      refine E_getf 29 dX11_foreseenAt_16 fl_X11_73 (by decide) (hg_39 _) rfl ?_
      refine E_iload_n dX11_foreseenAt_19 rfl ?_
      refine E_iald dX11_foreseenAt_20 (by decide) (hg_56 _) (vp_in_nI (by omega) (by omega)) ?_
      rw [hcl]
      refine E_iload_n dX11_foreseenAt_21 rfl ?_
      refine E_icmp_le 29 dX11_foreseenAt_22 (by decide) (fun c_22 => ?_) (fun c_22 => ?_)
      · refine E_iconst (v := 0) dX11_foreseenAt_29 rfl ?_
        refine E_istore dX11_foreseenAt_30 (by decide) rfl ?_
        refine E_iconst (v := 0) dX11_foreseenAt_32 rfl ?_
        refine E_istore dX11_foreseenAt_33 (by decide) rfl ?_
        refine E.pick [2, 3, 4, 5, 1, 0] rfl ?_
        have h9 := l_fsi (W := W) hx hd hq (by omega) k _ st q 0 (by omega)
        first | exact (by rw [b2i_f (show ¬ fsM z t q W 0 from fun h8 => h8.1 c_22)] at h9; exact h9) | exact (by rw [b2i_t (show fsM z t q W 0 from ⟨c_22, fun j hj => absurd hj (Nat.not_lt_zero j)⟩)] at h9; exact h9)
      · refine E_iconst (v := 1) dX11_foreseenAt_25 rfl ?_
        refine E_goto 30 dX11_foreseenAt_26 (by decide) ?_
        refine E_istore dX11_foreseenAt_30 (by decide) rfl ?_
        refine E_iconst (v := 0) dX11_foreseenAt_32 rfl ?_
        refine E_istore dX11_foreseenAt_33 (by decide) rfl ?_
        refine E.pick [2, 3, 4, 5, 1, 0] rfl ?_
        have h9 := l_fsi (W := W) hx hd hq (by omega) k _ st q 0 (by omega)
        first | exact (by rw [b2i_f (show ¬ fsM z t q W 0 from fun h8 => h8.1 c_22)] at h9; exact h9) | exact (by rw [b2i_t (show fsM z t q W 0 from ⟨c_22, fun j hj => absurd hj (Nat.not_lt_zero j)⟩)] at h9; exact h9)
def zfm (t n : Nat) (z : Sg) : Sg := fmk t (mwr (z.A 48) t t 0) n 0 z
theorem c_foreseenAt {n t : Nat} {z : Sg} (hx : txOK z t) (hd : mdOK z n) (k : Int32) : EM mMod_foreseenAt 2 0 0 [.ref 39, .int k] (hp z) (Det (some (.int (rnk (zfm t n z) n k n 0))) (hp (zfm t n z))) := by
  have hle := mwr_le (z.A 48) t t 0
  refine E_aload_n dX11_foreseenAt_0 rfl ?_
  refine E_V0 dX11_foreseenAt_1 cv_X11_174 (by decide) (hg_39 _) rfl rfl (Nat.le_of_ble_eq_true rfl) (Nat.le_of_ble_eq_true rfl) (c_Mod_written hx) (by decide) (Nat.zero_le _) (Nat.zero_le _) ?_
  refine E_istore_n dX11_foreseenAt_4 (by decide) rfl ?_
  refine E_iconst (v := 0) dX11_foreseenAt_5 rfl ?_
  refine E_istore_n dX11_foreseenAt_6 (by decide) rfl ?_
  refine E.pick [2, 3, 1, 0] rfl ?_
  exact l_fmk (by omega) k n 0 z (by omega) hx hd
