/-! press: both sides, over any act -/
abbrev mpX (z : Sg) : Prop := litM z = -1 ∨ (¬ z.F 39 17 = -1 ∧ z.F 39 10 - z.F 39 17 < z.A 43 3)
def mpr (z : Sg) : Sg := stF (stF (stF z 39 0 0) 39 17 (z.F 39 10)) 39 16 (z.F 39 16 + 1)
def mtk (z : Sg) : Int32 := if z.F 39 10 - z.F 39 14 < z.A 43 2 ∧ ¬ z.F 39 13 = -1 then z.F 39 13 else litM z
theorem c_Mod_press_no {z : Sg} (hm : mlOK z) (h : mpX z) : EM mMod_press 4 0 0 [.ref 39] (hp z) (Det (some (.int (-1))) (hp (stF z 39 0 0))) := by
  refine E_aload_n dX11_press_0 rfl ?_
  refine E_iconst (v := 0) dX11_press_1 rfl ?_
  refine E_put 0 dX11_press_2 fp_X11_98 (fitsV_int _) (by decide) (hg_39 _) (Nat.le_of_ble_eq_true rfl) ?_
  rw [hs_39_0]
  refine E_aload_n dX11_press_5 rfl ?_
  refine E_aload_n dX11_press_6 rfl ?_
  refine E_getf 11 (v := .int (z.F 39 11)) dX11_press_7 fl_X11_101 (by decide) (hg_39 _) rfl ?_
  refine E_aload_n dX11_press_10 rfl ?_
  refine E_getf 12 (v := .int (z.F 39 12)) dX11_press_11 fl_X11_104 (by decide) (hg_39 _) rfl ?_
  refine E_V2 (r := some (.int (litM z))) dX11_press_14 cv_X11_146 (by decide) (hg_39 _) rfl rfl (Nat.le_of_ble_eq_true rfl) (Nat.le_of_ble_eq_true rfl) (c_light _ _ _ (mlOK_in hm) (fun _ => mlOK_row hm)) (by decide) (Nat.zero_le _) (Nat.zero_le _) ?_
  refine E_istore_n dX11_press_17 (by decide) rfl ?_
  refine E_iload_n dX11_press_18 rfl ?_
  refine E_iconst (v := (-1)) dX11_press_19 rfl ?_
  refine E_icmp_eq 49 dX11_press_20 (by decide) (fun c_20 => ?_) (fun c_20 => ?_)
  · refine E_iconst (v := (-1)) dX11_press_49 rfl ?_
    exact E_iret dX11_press_50 rfl rfl ⟨rfl, rfl⟩
  · refine E_aload_n dX11_press_23 rfl ?_
    refine E_getf 17 (v := .int (z.F 39 17)) dX11_press_24 fl_X11_42 (by decide) (hg_39 _) rfl ?_
    refine E_iconst (v := (-1)) dX11_press_27 rfl ?_
    refine E_icmp_eq 51 dX11_press_28 (by decide) (fun c_28 => ?_) (fun c_28 => ?_)
    · exact absurd h (fun h9 => h9.elim c_20 (fun h8 => by first | exact h8.1 c_28 | exact absurd h8.2 (by rw [i32_lt]; rw [i32_le] at c_46; exact Int.not_lt.mpr c_46)))
    · refine E_aload_n dX11_press_31 rfl ?_
      refine E_getf 10 (v := .int (z.F 39 10)) dX11_press_32 fl_X11_107 (by decide) (hg_39 _) rfl ?_
      refine E_aload_n dX11_press_35 rfl ?_
      refine E_getf 17 (v := .int (z.F 39 17)) dX11_press_36 fl_X11_42 (by decide) (hg_39 _) rfl ?_
      refine E_isub dX11_press_39 ?_
      refine E_aload_n dX11_press_40 rfl ?_
      refine E_getf 4 dX11_press_41 fl_X11_19 (by decide) (hg_39 _) rfl ?_
      refine E_iconst (v := 3) dX11_press_44 rfl ?_
      refine E_iald (f := z.A 43) dX11_press_45 (by decide) (hg_43 _) (vp_in_nI (n := 3) (by decide) (by decide)) ?_
      refine E_icmp_ge 51 dX11_press_46 (by decide) (fun c_46 => ?_) (fun c_46 => ?_)
      · exact absurd h (fun h9 => h9.elim c_20 (fun h8 => by first | exact h8.1 c_28 | exact absurd h8.2 (by rw [i32_lt]; rw [i32_le] at c_46; exact Int.not_lt.mpr c_46)))
      · refine E_iconst (v := (-1)) dX11_press_49 rfl ?_
        exact E_iret dX11_press_50 rfl rfl ⟨rfl, rfl⟩
theorem c_Mod_press_yes {z : Sg} (hm : mlOK z) (h : ¬ mpX z) (z2 : Sg) (x : Nat) (hx : x < 60) (htk : mtk z = nI x) (hg : z.A 40 x = 0 → z2 = zcm (mpr z) (nI x)) (ha : ¬ z.A 40 x = 0 → ∃ z1, EM mMod_acts 3 0 0 [.ref 39, .int (nI x)] (hp (mpr z)) (Det none (hp z1)) ∧ z2 = zcm z1 0) : EM mMod_press 4 0 0 [.ref 39] (hp z) (Det (some (.int (nI x))) (hp z2)) := by
  have hcx : (nI x).toNatClampNeg = x := nI_clamp (by omega)
  have tail : E mMod_press 4 0 0 103 [(0, .ref 39), (1, .int (litM z))] [.int (mtk z)] (hp (mpr z)) (Det (some (.int (nI x))) (hp z2)) := by
    rw [htk]
    by_cases hk : z.A 40 x = 0
    · rw [hg hk]
      refine E_istore_n dX11_press_103 (by decide) rfl ?_
      refine E.pick [1, 2, 0] rfl ?_
      refine E_aload_n dX11_press_104 rfl ?_
      refine E_getf 1 dX11_press_105 fl_X11_9 (by decide) (hg_39 _) rfl ?_
      refine E_iload_n dX11_press_108 rfl ?_
      refine E_iald (f := z.A 40) dX11_press_109 (by decide) (hg_40 _) (vp_in_nI (by omega) (by omega)) ?_
      rw [hcx]
      refine E_if_ne 121 dX11_press_110 (by decide) (fun c_110 => ?_) (fun c_110 => ?_)
      · exact absurd hk c_110
      · refine E_aload_n dX11_press_113 rfl ?_
        refine E_iload_n dX11_press_114 rfl ?_
        refine E_V1 dX11_press_115 cv_X11_131 (by decide) (hg_39 _) rfl rfl (Nat.le_of_ble_eq_true rfl) (Nat.le_of_ble_eq_true rfl) (c_comes (mpr z) (nI x)) (by decide) (Nat.zero_le _) (Nat.zero_le _) ?_
        refine E_goto 131 dX11_press_118 (by decide) ?_
        refine E_iload_n dX11_press_131 rfl ?_
        exact E_iret dX11_press_132 rfl rfl ⟨rfl, rfl⟩
    · obtain ⟨z1, h1, h2⟩ := ha hk
      rw [h2]
      refine E_istore_n dX11_press_103 (by decide) rfl ?_
      refine E.pick [1, 2, 0] rfl ?_
      refine E_aload_n dX11_press_104 rfl ?_
      refine E_getf 1 dX11_press_105 fl_X11_9 (by decide) (hg_39 _) rfl ?_
      refine E_iload_n dX11_press_108 rfl ?_
      refine E_iald (f := z.A 40) dX11_press_109 (by decide) (hg_40 _) (vp_in_nI (by omega) (by omega)) ?_
      rw [hcx]
      refine E_if_ne 121 dX11_press_110 (by decide) (fun c_110 => ?_) (fun c_110 => ?_)
      · refine E_aload_n dX11_press_121 rfl ?_
        refine E_iload_n dX11_press_122 rfl ?_
        refine E_V1 dX11_press_123 cv_X11_153 (by decide) (hg_39 _) rfl rfl (Nat.le_of_ble_eq_true rfl) (Nat.le_of_ble_eq_true rfl) (h1) (by decide) (Nat.zero_le _) (Nat.zero_le _) ?_
        refine E_aload_n dX11_press_126 rfl ?_
        refine E_iconst (v := 0) dX11_press_127 rfl ?_
        refine E_V1 dX11_press_128 cv_X11_131 (by decide) (hg_39 _) rfl rfl (Nat.le_of_ble_eq_true rfl) (Nat.le_of_ble_eq_true rfl) (c_comes z1 0) (by decide) (Nat.zero_le _) (Nat.zero_le _) ?_
        refine E_iload_n dX11_press_131 rfl ?_
        exact E_iret dX11_press_132 rfl rfl ⟨rfl, rfl⟩
      · exact absurd c_110 hk
  refine E_aload_n dX11_press_0 rfl ?_
  refine E_iconst (v := 0) dX11_press_1 rfl ?_
  refine E_put 0 dX11_press_2 fp_X11_98 (fitsV_int _) (by decide) (hg_39 _) (Nat.le_of_ble_eq_true rfl) ?_
  rw [hs_39_0]
  refine E_aload_n dX11_press_5 rfl ?_
  refine E_aload_n dX11_press_6 rfl ?_
  refine E_getf 11 (v := .int (z.F 39 11)) dX11_press_7 fl_X11_101 (by decide) (hg_39 _) rfl ?_
  refine E_aload_n dX11_press_10 rfl ?_
  refine E_getf 12 (v := .int (z.F 39 12)) dX11_press_11 fl_X11_104 (by decide) (hg_39 _) rfl ?_
  refine E_V2 (r := some (.int (litM z))) dX11_press_14 cv_X11_146 (by decide) (hg_39 _) rfl rfl (Nat.le_of_ble_eq_true rfl) (Nat.le_of_ble_eq_true rfl) (c_light _ _ _ (mlOK_in hm) (fun _ => mlOK_row hm)) (by decide) (Nat.zero_le _) (Nat.zero_le _) ?_
  refine E_istore_n dX11_press_17 (by decide) rfl ?_
  refine E_iload_n dX11_press_18 rfl ?_
  refine E_iconst (v := (-1)) dX11_press_19 rfl ?_
  refine E_icmp_eq 49 dX11_press_20 (by decide) (fun c_20 => ?_) (fun c_20 => ?_)
  · exact absurd (by first | exact Or.inl c_20 | exact Or.inr ⟨c_28, by rw [i32_lt]; rw [i32_le] at c_46; exact Int.not_le.mp c_46⟩) h
  · refine E_aload_n dX11_press_23 rfl ?_
    refine E_getf 17 (v := .int (z.F 39 17)) dX11_press_24 fl_X11_42 (by decide) (hg_39 _) rfl ?_
    refine E_iconst (v := (-1)) dX11_press_27 rfl ?_
    refine E_icmp_eq 51 dX11_press_28 (by decide) (fun c_28 => ?_) (fun c_28 => ?_)
    · refine E_aload_n dX11_press_51 rfl ?_
      refine E_aload_n dX11_press_52 rfl ?_
      refine E_getf 10 (v := .int (z.F 39 10)) dX11_press_53 fl_X11_107 (by decide) (hg_39 _) rfl ?_
      refine E_put 17 dX11_press_56 fp_X11_42 (fitsV_int _) (by decide) (hg_39 _) (Nat.le_of_ble_eq_true rfl) ?_
      rw [hs_39_17]
      refine E_aload_n dX11_press_59 rfl ?_
      refine E_dup dX11_press_60 rfl ?_
      refine E_getf 16 (v := .int (z.F 39 16)) dX11_press_61 fl_X11_150 (by decide) (hg_39 _) rfl ?_
      refine E_iconst (v := 1) dX11_press_64 rfl ?_
      refine E_iadd dX11_press_65 ?_
      refine E_put 16 dX11_press_66 fp_X11_150 (fitsV_int _) (by decide) (hg_39 _) (Nat.le_of_ble_eq_true rfl) ?_
      rw [hs_39_16]
      refine E_aload_n dX11_press_69 rfl ?_
      refine E_getf 10 (v := .int (z.F 39 10)) dX11_press_70 fl_X11_107 (by decide) (hg_39 _) rfl ?_
      refine E_aload_n dX11_press_73 rfl ?_
      refine E_getf 14 (v := .int (z.F 39 14)) dX11_press_74 fl_X11_110 (by decide) (hg_39 _) rfl ?_
      refine E_isub dX11_press_77 ?_
      refine E_aload_n dX11_press_78 rfl ?_
      refine E_getf 4 dX11_press_79 fl_X11_19 (by decide) (hg_39 _) rfl ?_
      refine E_iconst (v := 2) dX11_press_82 rfl ?_
      refine E_iald (f := z.A 43) dX11_press_83 (by decide) (hg_43 _) (vp_in_nI (n := 2) (by decide) (by decide)) ?_
      refine E_icmp_ge 102 dX11_press_84 (by decide) (fun c_84 => ?_) (fun c_84 => ?_)
      · refine E_iload_n dX11_press_102 rfl ?_
        refine E.pick [1, 0] rfl ?_
        first | exact (by rw [mtk, if_neg (fun h9 => absurd h9.1 (by rw [i32_lt]; rw [i32_le] at c_84; exact Int.not_lt.mpr c_84))] at tail; exact tail) | exact (by rw [mtk, if_neg (fun h9 => h9.2 c_92)] at tail; exact tail) | exact (by rw [mtk, if_pos ⟨by rw [i32_lt]; rw [i32_le] at c_84; exact Int.not_le.mp c_84, c_92⟩] at tail; exact tail)
      · refine E_aload_n dX11_press_87 rfl ?_
        refine E_getf 13 (v := .int (z.F 39 13)) dX11_press_88 fl_X11_39 (by decide) (hg_39 _) rfl ?_
        refine E_iconst (v := (-1)) dX11_press_91 rfl ?_
        refine E_icmp_eq 102 dX11_press_92 (by decide) (fun c_92 => ?_) (fun c_92 => ?_)
        · refine E_iload_n dX11_press_102 rfl ?_
          refine E.pick [1, 0] rfl ?_
          first | exact (by rw [mtk, if_neg (fun h9 => absurd h9.1 (by rw [i32_lt]; rw [i32_le] at c_84; exact Int.not_lt.mpr c_84))] at tail; exact tail) | exact (by rw [mtk, if_neg (fun h9 => h9.2 c_92)] at tail; exact tail) | exact (by rw [mtk, if_pos ⟨by rw [i32_lt]; rw [i32_le] at c_84; exact Int.not_le.mp c_84, c_92⟩] at tail; exact tail)
        · refine E_aload_n dX11_press_95 rfl ?_
          refine E_getf 13 (v := .int (z.F 39 13)) dX11_press_96 fl_X11_39 (by decide) (hg_39 _) rfl ?_
          refine E_goto 103 dX11_press_99 (by decide) ?_
          refine E.pick [1, 0] rfl ?_
          first | exact (by rw [mtk, if_neg (fun h9 => absurd h9.1 (by rw [i32_lt]; rw [i32_le] at c_84; exact Int.not_lt.mpr c_84))] at tail; exact tail) | exact (by rw [mtk, if_neg (fun h9 => h9.2 c_92)] at tail; exact tail) | exact (by rw [mtk, if_pos ⟨by rw [i32_lt]; rw [i32_le] at c_84; exact Int.not_le.mp c_84, c_92⟩] at tail; exact tail)
    · refine E_aload_n dX11_press_31 rfl ?_
      refine E_getf 10 (v := .int (z.F 39 10)) dX11_press_32 fl_X11_107 (by decide) (hg_39 _) rfl ?_
      refine E_aload_n dX11_press_35 rfl ?_
      refine E_getf 17 (v := .int (z.F 39 17)) dX11_press_36 fl_X11_42 (by decide) (hg_39 _) rfl ?_
      refine E_isub dX11_press_39 ?_
      refine E_aload_n dX11_press_40 rfl ?_
      refine E_getf 4 dX11_press_41 fl_X11_19 (by decide) (hg_39 _) rfl ?_
      refine E_iconst (v := 3) dX11_press_44 rfl ?_
      refine E_iald (f := z.A 43) dX11_press_45 (by decide) (hg_43 _) (vp_in_nI (n := 3) (by decide) (by decide)) ?_
      refine E_icmp_ge 51 dX11_press_46 (by decide) (fun c_46 => ?_) (fun c_46 => ?_)
      · refine E_aload_n dX11_press_51 rfl ?_
        refine E_aload_n dX11_press_52 rfl ?_
        refine E_getf 10 (v := .int (z.F 39 10)) dX11_press_53 fl_X11_107 (by decide) (hg_39 _) rfl ?_
        refine E_put 17 dX11_press_56 fp_X11_42 (fitsV_int _) (by decide) (hg_39 _) (Nat.le_of_ble_eq_true rfl) ?_
        rw [hs_39_17]
        refine E_aload_n dX11_press_59 rfl ?_
        refine E_dup dX11_press_60 rfl ?_
        refine E_getf 16 (v := .int (z.F 39 16)) dX11_press_61 fl_X11_150 (by decide) (hg_39 _) rfl ?_
        refine E_iconst (v := 1) dX11_press_64 rfl ?_
        refine E_iadd dX11_press_65 ?_
        refine E_put 16 dX11_press_66 fp_X11_150 (fitsV_int _) (by decide) (hg_39 _) (Nat.le_of_ble_eq_true rfl) ?_
        rw [hs_39_16]
        refine E_aload_n dX11_press_69 rfl ?_
        refine E_getf 10 (v := .int (z.F 39 10)) dX11_press_70 fl_X11_107 (by decide) (hg_39 _) rfl ?_
        refine E_aload_n dX11_press_73 rfl ?_
        refine E_getf 14 (v := .int (z.F 39 14)) dX11_press_74 fl_X11_110 (by decide) (hg_39 _) rfl ?_
        refine E_isub dX11_press_77 ?_
        refine E_aload_n dX11_press_78 rfl ?_
        refine E_getf 4 dX11_press_79 fl_X11_19 (by decide) (hg_39 _) rfl ?_
        refine E_iconst (v := 2) dX11_press_82 rfl ?_
        refine E_iald (f := z.A 43) dX11_press_83 (by decide) (hg_43 _) (vp_in_nI (n := 2) (by decide) (by decide)) ?_
        refine E_icmp_ge 102 dX11_press_84 (by decide) (fun c_84 => ?_) (fun c_84 => ?_)
        · refine E_iload_n dX11_press_102 rfl ?_
          refine E.pick [1, 0] rfl ?_
          first | exact (by rw [mtk, if_neg (fun h9 => absurd h9.1 (by rw [i32_lt]; rw [i32_le] at c_84; exact Int.not_lt.mpr c_84))] at tail; exact tail) | exact (by rw [mtk, if_neg (fun h9 => h9.2 c_92)] at tail; exact tail) | exact (by rw [mtk, if_pos ⟨by rw [i32_lt]; rw [i32_le] at c_84; exact Int.not_le.mp c_84, c_92⟩] at tail; exact tail)
        · refine E_aload_n dX11_press_87 rfl ?_
          refine E_getf 13 (v := .int (z.F 39 13)) dX11_press_88 fl_X11_39 (by decide) (hg_39 _) rfl ?_
          refine E_iconst (v := (-1)) dX11_press_91 rfl ?_
          refine E_icmp_eq 102 dX11_press_92 (by decide) (fun c_92 => ?_) (fun c_92 => ?_)
          · refine E_iload_n dX11_press_102 rfl ?_
            refine E.pick [1, 0] rfl ?_
            first | exact (by rw [mtk, if_neg (fun h9 => absurd h9.1 (by rw [i32_lt]; rw [i32_le] at c_84; exact Int.not_lt.mpr c_84))] at tail; exact tail) | exact (by rw [mtk, if_neg (fun h9 => h9.2 c_92)] at tail; exact tail) | exact (by rw [mtk, if_pos ⟨by rw [i32_lt]; rw [i32_le] at c_84; exact Int.not_le.mp c_84, c_92⟩] at tail; exact tail)
          · refine E_aload_n dX11_press_95 rfl ?_
            refine E_getf 13 (v := .int (z.F 39 13)) dX11_press_96 fl_X11_39 (by decide) (hg_39 _) rfl ?_
            refine E_goto 103 dX11_press_99 (by decide) ?_
            refine E.pick [1, 0] rfl ?_
            first | exact (by rw [mtk, if_neg (fun h9 => absurd h9.1 (by rw [i32_lt]; rw [i32_le] at c_84; exact Int.not_lt.mpr c_84))] at tail; exact tail) | exact (by rw [mtk, if_neg (fun h9 => h9.2 c_92)] at tail; exact tail) | exact (by rw [mtk, if_pos ⟨by rw [i32_lt]; rw [i32_le] at c_84; exact Int.not_le.mp c_84, c_92⟩] at tail; exact tail)
      · exact absurd (by first | exact Or.inl c_20 | exact Or.inr ⟨c_28, by rw [i32_lt]; rw [i32_le] at c_46; exact Int.not_le.mp c_46⟩) h
theorem c_press_no {z : Sg} (h : tkN z) : EM mDesk_press 7 13 39 [.ref 3] (hp z) (Det (some (.int (-1))) (hp z)) := by
  have ht := c_take z
  rw [if_pos h, if_pos h] at ht
  refine E_aload_n dX10_press_0 rfl ?_
  refine E_getf 2 dX10_press_1 fl_X10_28 (by decide) (hg_3 _) rfl ?_
  refine E_V0 dX10_press_4 cv_X10_115 (by decide) (hg_17 _) rfl rfl (Nat.le_of_ble_eq_true rfl) (Nat.le_of_ble_eq_true rfl) (ht) (by decide) (Nat.zero_le _) (Nat.zero_le _) ?_
  refine E_istore_n dX10_press_7 (by decide) rfl ?_
  refine E_iload_n dX10_press_8 rfl ?_
  refine E_iconst (v := (-1)) dX10_press_9 rfl ?_
  refine E_icmp_ne 15 dX10_press_10 (by decide) (fun c_10 => ?_) (fun c_10 => ?_)
  · exact absurd rfl c_10
  · refine E_iconst (v := (-1)) dX10_press_13 rfl ?_
    exact E_iret dX10_press_14 rfl rfl ⟨rfl, rfl⟩
theorem F6_ztk (z : Sg) : (ztk z).F 6 10 = z.F 6 10 := rfl
theorem c_press_yes {z : Sg} {n : Nat} (hF : z.F 6 10 = nI n) (hn : n ≤ 60) (h : ¬ tkN z) (z2 : Sg) (x : Nat) (hx : x < n) (htk : (if tkL z then z.F 17 5 else z.F 17 4) = nI x) (hg : z.A 7 x = 0 → z2 = zct (ztk z) (nI x)) (ha : ¬ z.A 7 x = 0 → ∃ z1, EM mDesk_act 6 13 39 [.ref 3, .int (nI x)] (hp (ztk z)) (Det none (hp z1)) ∧ z1.F 6 10 = nI n ∧ z2 = zct z1 0) : EM mDesk_press 7 13 39 [.ref 3] (hp z) (Det (some (.int (nI x))) (hp z2)) := by
  have hs : ((ztk z).F 6 10).toInt ≤ 60 := by rw [F6_ztk, hF, nI_toInt (by omega)]; omega
  have ht := c_take z
  rw [if_neg h, if_neg h, htk] at ht
  have hk := c_kindOf (ztk z) hs (nI x)
  rw [tg_at (z := ztk z) hF hn hx] at hk
  by_cases hk0 : z.A 7 x = 0
  · rw [hg hk0]
    refine E_aload_n dX10_press_0 rfl ?_
    refine E_getf 2 dX10_press_1 fl_X10_28 (by decide) (hg_3 _) rfl ?_
    refine E_V0 dX10_press_4 cv_X10_115 (by decide) (hg_17 _) rfl rfl (Nat.le_of_ble_eq_true rfl) (Nat.le_of_ble_eq_true rfl) (ht) (by decide) (Nat.zero_le _) (Nat.zero_le _) ?_
    refine E_istore_n dX10_press_7 (by decide) rfl ?_
    refine E_iload_n dX10_press_8 rfl ?_
    refine E_iconst (v := (-1)) dX10_press_9 rfl ?_
    refine E_icmp_ne 15 dX10_press_10 (by decide) (fun c_10 => ?_) (fun c_10 => ?_)
    · refine E_aload_n dX10_press_15 rfl ?_
      refine E_getf 1 dX10_press_16 fl_X10_19 (by decide) (hg_3 _) rfl ?_
      refine E_iload_n dX10_press_19 rfl ?_
      refine E_V1 (r := some (.int (z.A 7 x))) dX10_press_20 cv_X10_92 (by decide) (hg_6 _) rfl rfl (Nat.le_of_ble_eq_true rfl) (Nat.le_of_ble_eq_true rfl) (hk) (by decide) (Nat.zero_le _) (Nat.zero_le _) ?_
      refine E_if_ne 37 dX10_press_23 (by decide) (fun c_23 => ?_) (fun c_23 => ?_)
      · exact absurd hk0 c_23
      · refine E_aload_n dX10_press_26 rfl ?_
        refine E_getf 2 dX10_press_27 fl_X10_28 (by decide) (hg_3 _) rfl ?_
        refine E_iload_n dX10_press_30 rfl ?_
        refine E_V1 dX10_press_31 cv_X10_119 (by decide) (hg_17 _) rfl rfl (Nat.le_of_ble_eq_true rfl) (Nat.le_of_ble_eq_true rfl) (c_comeTo (ztk z) hs (nI x)) (by decide) (Nat.zero_le _) (Nat.zero_le _) ?_
        refine E_goto 50 dX10_press_34 (by decide) ?_
        refine E_iload_n dX10_press_50 rfl ?_
        exact E_iret dX10_press_51 rfl rfl ⟨rfl, rfl⟩
    · exact absurd c_10 (nI_m1 (by omega))
  · obtain ⟨z1, h1, h3, h2⟩ := ha hk0
    rw [h2]
    refine E_aload_n dX10_press_0 rfl ?_
    refine E_getf 2 dX10_press_1 fl_X10_28 (by decide) (hg_3 _) rfl ?_
    refine E_V0 dX10_press_4 cv_X10_115 (by decide) (hg_17 _) rfl rfl (Nat.le_of_ble_eq_true rfl) (Nat.le_of_ble_eq_true rfl) (ht) (by decide) (Nat.zero_le _) (Nat.zero_le _) ?_
    refine E_istore_n dX10_press_7 (by decide) rfl ?_
    refine E_iload_n dX10_press_8 rfl ?_
    refine E_iconst (v := (-1)) dX10_press_9 rfl ?_
    refine E_icmp_ne 15 dX10_press_10 (by decide) (fun c_10 => ?_) (fun c_10 => ?_)
    · refine E_aload_n dX10_press_15 rfl ?_
      refine E_getf 1 dX10_press_16 fl_X10_19 (by decide) (hg_3 _) rfl ?_
      refine E_iload_n dX10_press_19 rfl ?_
      refine E_V1 (r := some (.int (z.A 7 x))) dX10_press_20 cv_X10_92 (by decide) (hg_6 _) rfl rfl (Nat.le_of_ble_eq_true rfl) (Nat.le_of_ble_eq_true rfl) (hk) (by decide) (Nat.zero_le _) (Nat.zero_le _) ?_
      refine E_if_ne 37 dX10_press_23 (by decide) (fun c_23 => ?_) (fun c_23 => ?_)
      · refine E_aload_n dX10_press_37 rfl ?_
        refine E_iload_n dX10_press_38 rfl ?_
        refine E_V1 dX10_press_39 cv_X10_123 (by decide) (hg_3 _) rfl rfl (Nat.le_of_ble_eq_true rfl) (Nat.le_of_ble_eq_true rfl) (h1) (by decide) (by decide) (by decide) ?_
        refine E_aload_n dX10_press_42 rfl ?_
        refine E_getf 2 dX10_press_43 fl_X10_28 (by decide) (hg_3 _) rfl ?_
        refine E_iconst (v := 0) dX10_press_46 rfl ?_
        refine E_V1 dX10_press_47 cv_X10_119 (by decide) (hg_17 _) rfl rfl (Nat.le_of_ble_eq_true rfl) (Nat.le_of_ble_eq_true rfl) (c_comeTo z1 (by rw [h3, nI_toInt (by omega)]; omega) 0) (by decide) (Nat.zero_le _) (Nat.zero_le _) ?_
        refine E_iload_n dX10_press_50 rfl ?_
        exact E_iret dX10_press_51 rfl rfl ⟨rfl, rfl⟩
      · exact absurd c_23 hk0
    · exact absurd c_10 (nI_m1 (by omega))
section DAct
variable {z : Sg} {n x : Nat}
theorem c_act1 (hF : z.F 6 10 = nI n) (hn : n ≤ 60) (hx : x < n) (hkd : z.A 7 x = 1) {o k : Nat} (hr : ring z o k) {r : List Int32} (ht : ch z.D z.T r) (hl : r.length ≤ 200) (hs2 : ∀ s, z.S = some s → ∃ rs, ch z.D s rs) : EM mDesk_act 6 13 39 [.ref 3, .int (nI x)] (hp z) (Det none (hp (if r.length < 200 then pch (kp z o k) (z.A 8 x) (r.length + 1) else z))) := by
  have hs : (z.F 6 10).toInt ≤ 60 := by rw [hF, nI_toInt (by omega)]; omega
  have hv := c_valueOf z hs (nI x)
  rw [tg_at hF hn hx] at hv
  have hk := c_kindOf z hs (nI x)
  rw [tg_at hF hn hx, hkd] at hk
  refine E_aload_n dX10_act_0 rfl ?_
  refine E_getf 1 dX10_act_1 fl_X10_19 (by decide) (hg_3 _) rfl ?_
  refine E_iload_n dX10_act_4 rfl ?_
  refine E_V1 dX10_act_5 cv_X10_96 (by decide) (hg_6 _) rfl rfl (Nat.le_of_ble_eq_true rfl) (Nat.le_of_ble_eq_true rfl) (hv) (by decide) (Nat.zero_le _) (Nat.zero_le _) ?_
  refine E_istore_n dX10_act_8 (by decide) rfl ?_
  refine E_aload_n dX10_act_9 rfl ?_
  refine E_getf 1 dX10_act_10 fl_X10_19 (by decide) (hg_3 _) rfl ?_
  refine E_iload_n dX10_act_13 rfl ?_
  refine E_V1 dX10_act_14 cv_X10_92 (by decide) (hg_6 _) rfl rfl (Nat.le_of_ble_eq_true rfl) (Nat.le_of_ble_eq_true rfl) (hk) (by decide) (Nat.zero_le _) (Nat.zero_le _) ?_
  refine E_tableIn 56 dX10_act_17 (by decide) (by decide) (by rfl) (by decide) ?_
  skip
  refine E_aload_n dX10_act_56 rfl ?_
  refine E_getf 3 dX10_act_57 fl_X10_35 (by decide) (hg_3 _) rfl ?_
  refine E_iload_n dX10_act_60 rfl ?_
  refine E_V1 dX10_act_61 cv_X10_211 (by decide) (hg_18 _) rfl rfl (Nat.le_of_ble_eq_true rfl) (Nat.le_of_ble_eq_true rfl) (c_write z hr ht hl hs2 _) (by decide) (by decide) (by decide) ?_
  refine E_goto 157 dX10_act_64 (by decide) ?_
  exact E_vret dX10_act_157 rfl ⟨rfl, rfl⟩
theorem c_act2 (hF : z.F 6 10 = nI n) (hn : n ≤ 60) (hx : x < n) (hkd : z.A 7 x = 2) {o k : Nat} (hr : ring z o k) {r : List Int32} (ht : ch z.D z.T r) (hl : r.length ≤ 200) (hs2 : ∀ s, z.S = some s → ∃ rs, ch z.D s rs) : ∃ c', ch z.D c' (r.drop 1) ∧ EM mDesk_act 6 13 39 [.ref 3, .int (nI x)] (hp z) (Det none (hp (if 0 < r.length then stT (kp z o k) c' else z))) := by
  have hs : (z.F 6 10).toInt ≤ 60 := by rw [hF, nI_toInt (by omega)]; omega
  have hv := c_valueOf z hs (nI x)
  rw [tg_at hF hn hx] at hv
  have hk := c_kindOf z hs (nI x)
  rw [tg_at hF hn hx, hkd] at hk
  obtain ⟨c', hc', hdl⟩ := c_dropLast z hr ht hl hs2
  refine ⟨c', hc', ?_⟩
  refine E_aload_n dX10_act_0 rfl ?_
  refine E_getf 1 dX10_act_1 fl_X10_19 (by decide) (hg_3 _) rfl ?_
  refine E_iload_n dX10_act_4 rfl ?_
  refine E_V1 dX10_act_5 cv_X10_96 (by decide) (hg_6 _) rfl rfl (Nat.le_of_ble_eq_true rfl) (Nat.le_of_ble_eq_true rfl) (hv) (by decide) (Nat.zero_le _) (Nat.zero_le _) ?_
  refine E_istore_n dX10_act_8 (by decide) rfl ?_
  refine E_aload_n dX10_act_9 rfl ?_
  refine E_getf 1 dX10_act_10 fl_X10_19 (by decide) (hg_3 _) rfl ?_
  refine E_iload_n dX10_act_13 rfl ?_
  refine E_V1 dX10_act_14 cv_X10_92 (by decide) (hg_6 _) rfl rfl (Nat.le_of_ble_eq_true rfl) (Nat.le_of_ble_eq_true rfl) (hk) (by decide) (Nat.zero_le _) (Nat.zero_le _) ?_
  refine E_tableIn 67 dX10_act_17 (by decide) (by decide) (by rfl) (by decide) ?_
  skip
  refine E_aload_n dX10_act_67 rfl ?_
  refine E_getf 3 dX10_act_68 fl_X10_35 (by decide) (hg_3 _) rfl ?_
  refine E_V0 dX10_act_71 cv_X10_214 (by decide) (hg_18 _) rfl rfl (Nat.le_of_ble_eq_true rfl) (Nat.le_of_ble_eq_true rfl) (hdl) (by decide) (Nat.zero_le _) (Nat.zero_le _) ?_
  refine E_goto 157 dX10_act_74 (by decide) ?_
  exact E_vret dX10_act_157 rfl ⟨rfl, rfl⟩
theorem c_act3 (hF : z.F 6 10 = nI n) (hn : n ≤ 60) (hx : x < n) (hkd : z.A 7 x = 3) {o k : Nat} (hr : ring z o k) : EM mDesk_act 6 13 39 [.ref 3, .int (nI x)] (hp z) (Det none (hp (if 0 < k then tb z o k else z))) := by
  have hs : (z.F 6 10).toInt ≤ 60 := by rw [hF, nI_toInt (by omega)]; omega
  have hv := c_valueOf z hs (nI x)
  rw [tg_at hF hn hx] at hv
  have hk := c_kindOf z hs (nI x)
  rw [tg_at hF hn hx, hkd] at hk
  refine E_aload_n dX10_act_0 rfl ?_
  refine E_getf 1 dX10_act_1 fl_X10_19 (by decide) (hg_3 _) rfl ?_
  refine E_iload_n dX10_act_4 rfl ?_
  refine E_V1 dX10_act_5 cv_X10_96 (by decide) (hg_6 _) rfl rfl (Nat.le_of_ble_eq_true rfl) (Nat.le_of_ble_eq_true rfl) (hv) (by decide) (Nat.zero_le _) (Nat.zero_le _) ?_
  refine E_istore_n dX10_act_8 (by decide) rfl ?_
  refine E_aload_n dX10_act_9 rfl ?_
  refine E_getf 1 dX10_act_10 fl_X10_19 (by decide) (hg_3 _) rfl ?_
  refine E_iload_n dX10_act_13 rfl ?_
  refine E_V1 dX10_act_14 cv_X10_92 (by decide) (hg_6 _) rfl rfl (Nat.le_of_ble_eq_true rfl) (Nat.le_of_ble_eq_true rfl) (hk) (by decide) (Nat.zero_le _) (Nat.zero_le _) ?_
  refine E_tableIn 77 dX10_act_17 (by decide) (by decide) (by rfl) (by decide) ?_
  skip
  refine E_aload_n dX10_act_77 rfl ?_
  refine E_getf 3 dX10_act_78 fl_X10_35 (by decide) (hg_3 _) rfl ?_
  refine E_V0 dX10_act_81 cv_X10_217 (by decide) (hg_18 _) rfl rfl (Nat.le_of_ble_eq_true rfl) (Nat.le_of_ble_eq_true rfl) (c_takeBack z hr) (by decide) (Nat.zero_le _) (Nat.zero_le _) ?_
  refine E_goto 157 dX10_act_84 (by decide) ?_
  exact E_vret dX10_act_157 rfl ⟨rfl, rfl⟩
theorem c_act5 (hF : z.F 6 10 = nI n) (hn : n ≤ 60) (hx : x < n) (hkd : z.A 7 x = 5) {o k : Nat} (hr : ring z o k) {r : List Int32} (ht : ch z.D z.T r) (hl : r.length ≤ 200) (rs : List Int32) (hrs : rs.length ≤ 200) (hs3 : ∀ s, z.S = some s → ch z.D s rs) : EM mDesk_act 6 13 39 [.ref 3, .int (nI x)] (hp z) (Det none (hp (if 0 < r.length ∨ z.S = none ∨ 0 < rs.length then stT (stS (kp z o k) (some z.T)) 19 else z))) := by
  have hs : (z.F 6 10).toInt ≤ 60 := by rw [hF, nI_toInt (by omega)]; omega
  have hv := c_valueOf z hs (nI x)
  rw [tg_at hF hn hx] at hv
  have hk := c_kindOf z hs (nI x)
  rw [tg_at hF hn hx, hkd] at hk
  refine E_aload_n dX10_act_0 rfl ?_
  refine E_getf 1 dX10_act_1 fl_X10_19 (by decide) (hg_3 _) rfl ?_
  refine E_iload_n dX10_act_4 rfl ?_
  refine E_V1 dX10_act_5 cv_X10_96 (by decide) (hg_6 _) rfl rfl (Nat.le_of_ble_eq_true rfl) (Nat.le_of_ble_eq_true rfl) (hv) (by decide) (Nat.zero_le _) (Nat.zero_le _) ?_
  refine E_istore_n dX10_act_8 (by decide) rfl ?_
  refine E_aload_n dX10_act_9 rfl ?_
  refine E_getf 1 dX10_act_10 fl_X10_19 (by decide) (hg_3 _) rfl ?_
  refine E_iload_n dX10_act_13 rfl ?_
  refine E_V1 dX10_act_14 cv_X10_92 (by decide) (hg_6 _) rfl rfl (Nat.le_of_ble_eq_true rfl) (Nat.le_of_ble_eq_true rfl) (hk) (by decide) (Nat.zero_le _) (Nat.zero_le _) ?_
  refine E_tableIn 87 dX10_act_17 (by decide) (by decide) (by rfl) (by decide) ?_
  skip
  refine E_aload_n dX10_act_87 rfl ?_
  refine E_getf 3 dX10_act_88 fl_X10_35 (by decide) (hg_3 _) rfl ?_
  refine E_V0 dX10_act_91 cv_X10_220 (by decide) (hg_18 _) rfl rfl (Nat.le_of_ble_eq_true rfl) (Nat.le_of_ble_eq_true rfl) (c_speak z hr ht hl rs hrs hs3) (by decide) (Nat.zero_le _) (Nat.zero_le _) ?_
  refine E_goto 157 dX10_act_94 (by decide) ?_
  exact E_vret dX10_act_157 rfl ⟨rfl, rfl⟩
end DAct
