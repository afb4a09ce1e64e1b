/-! WHICH NODES ARE LIGHTED -/
theorem vnb1 : vp_nar .boolean 1 = 1 := rfl
theorem vnb0 : vp_nar .boolean 0 = 0 := rfl
def li1 : Nat → Nat → Sg → Sg
  | 0, _, z => z
  | m + 1, i, z => li1 m (i + 1) (stA z 15 (upd (z.A 15) i (b2i (¬ z.A 7 i = 0))))
abbrev liC (z : Sg) (i : Nat) : Prop := ¬ z.A 15 i = 0 ∧ ltN (z.A 9 i) (z.F 6 10)
def li2 : Nat → Sg → Sg
  | 0, z => z
  | i + 1, z => li2 i (if liC z (i + 1) then stA z 15 (upd (z.A 15) (z.A 9 (i + 1)).toNatClampNeg 1) else z)
theorem l_li2 {n : Nat} (hn : n ≤ 60) : ∀ (i : Nat) (z : Sg), i < n → z.F 6 10 = nI n → E mTray_findLighted 1 0 0 43 [(0, .ref 6), (1, .int (nI i))] [] (hp z) (Det none (hp (li2 i z))) := by
  intro i
  induction i with
  | zero =>
    intro z hi hF
    refine E_iload_n dX9_findLighted_43 rfl ?_
    refine E_if_le 87 dX9_findLighted_44 (by decide) (fun c_44 => ?_) (fun c_44 => ?_)
    · exact E_vret dX9_findLighted_87 rfl ⟨rfl, rfl⟩
    · exact absurd (by decide) c_44
  | succ i ih =>
    intro z hi hF
    have hs : (z.F 6 10).toInt ≤ 60 := by rw [hF, nI_toInt (by omega)]; omega
    have hcl : (nI (i + 1)).toNatClampNeg = i + 1 := nI_clamp (by omega)
    refine E_iload_n dX9_findLighted_43 rfl ?_
    refine E_if_le 87 dX9_findLighted_44 (by decide) (fun c_44 => ?_) (fun c_44 => ?_)
    · exact absurd c_44 (nI_nle (by omega) (by omega))
    · refine E_aload_n dX9_findLighted_47 rfl ?_
      refine E_getf 8 dX9_findLighted_48 fl_X9_36 (by decide) (hg_6 _) rfl ?_
      refine E_iload_n dX9_findLighted_51 rfl ?_
      refine E_zald dX9_findLighted_52 (by decide) (hg_15 _) (vp_in_nI (by omega) (by omega)) ?_
      rw [hcl]
      refine E_if_eq 81 dX9_findLighted_53 (by decide) (fun c_53 => ?_) (fun c_53 => ?_)
      · refine E_iincL (-1) dX9_findLighted_81 rfl rfl (by decide) rfl ?_
        rw [pk_m1]
        refine E_goto 43 dX9_findLighted_84 (by decide) ?_
        refine E.pick [1, 0] rfl ?_
        rw [li2]
        first | rw [if_neg (show ¬ liC z (i + 1) from fun h => h.1 c_53)] | rw [if_neg (show ¬ liC z (i + 1) from fun h => b2i_e0 c_66 h.2)] | rw [if_pos (show liC z (i + 1) from ⟨c_53, b2i_ne c_66⟩)]
        exact ih _ (by omega) hF
      · refine E_aload_n dX9_findLighted_56 rfl ?_
        refine E_aload_n dX9_findLighted_57 rfl ?_
        refine E_getf 2 dX9_findLighted_58 fl_X9_18 (by decide) (hg_6 _) rfl ?_
        refine E_iload_n dX9_findLighted_61 rfl ?_
        refine E_iald dX9_findLighted_62 (by decide) (hg_9 _) (vp_in_nI (by omega) (by omega)) ?_
        rw [hcl]
        refine E_V1 dX9_findLighted_63 cv_X9_81 (by decide) (hg_6 _) rfl rfl (Nat.le_of_ble_eq_true rfl) (Nat.le_of_ble_eq_true rfl) (c_has _ _) (by decide) (Nat.zero_le _) (Nat.zero_le _) ?_
        refine E_if_eq 81 dX9_findLighted_66 (by decide) (fun c_66 => ?_) (fun c_66 => ?_)
        · refine E_iincL (-1) dX9_findLighted_81 rfl rfl (by decide) rfl ?_
          rw [pk_m1]
          refine E_goto 43 dX9_findLighted_84 (by decide) ?_
          refine E.pick [1, 0] rfl ?_
          rw [li2]
          first | rw [if_neg (show ¬ liC z (i + 1) from fun h => h.1 c_53)] | rw [if_neg (show ¬ liC z (i + 1) from fun h => b2i_e0 c_66 h.2)] | rw [if_pos (show liC z (i + 1) from ⟨c_53, b2i_ne c_66⟩)]
          exact ih _ (by omega) hF
        · refine E_aload_n dX9_findLighted_69 rfl ?_
          refine E_getf 8 dX9_findLighted_70 fl_X9_36 (by decide) (hg_6 _) rfl ?_
          refine E_aload_n dX9_findLighted_73 rfl ?_
          refine E_getf 2 dX9_findLighted_74 fl_X9_18 (by decide) (hg_6 _) rfl ?_
          refine E_iload_n dX9_findLighted_77 rfl ?_
          refine E_iald dX9_findLighted_78 (by decide) (hg_9 _) (vp_in_nI (by omega) (by omega)) ?_
          rw [hcl]
          refine E_iconst (v := 1) dX9_findLighted_79 rfl ?_
          refine E_zast dX9_findLighted_80 (by decide) (hg_15 _) (tg_in (b2i_ne c_66) hs) ?_
          rw [hs_15, vnb1]
          refine E_iincL (-1) dX9_findLighted_81 rfl rfl (by decide) rfl ?_
          rw [pk_m1]
          refine E_goto 43 dX9_findLighted_84 (by decide) ?_
          refine E.pick [1, 0] rfl ?_
          rw [li2]
          first | rw [if_neg (show ¬ liC z (i + 1) from fun h => h.1 c_53)] | rw [if_neg (show ¬ liC z (i + 1) from fun h => b2i_e0 c_66 h.2)] | rw [if_pos (show liC z (i + 1) from ⟨c_53, b2i_ne c_66⟩)]
          exact ih _ (by omega) hF
theorem l_li1 {n : Nat} (h1 : 1 ≤ n) (hn : n ≤ 60) : ∀ (m i : Nat) (z : Sg), i + m = n → z.F 6 10 = nI n → E mTray_findLighted 1 0 0 2 [(0, .ref 6), (1, .int (nI i))] [] (hp z) (Det none (hp (li2 (n - 1) (li1 m i z)))) := by
  intro m
  induction m with
  | zero =>
    intro i z hi hF
    refine E_iload_n dX9_findLighted_2 rfl ?_
    refine E_aload_n dX9_findLighted_3 rfl ?_
    refine E_getf 10 dX9_findLighted_4 fl_X9_49 (by decide) (hg_6 _) rfl ?_
    rw [hF]
    refine E_icmp_ge 36 dX9_findLighted_7 (by decide) (fun c_7 => ?_) (fun c_7 => ?_)
    · refine E_aload_n dX9_findLighted_36 rfl ?_
      refine E_getf 10 dX9_findLighted_37 fl_X9_49 (by decide) (hg_6 _) rfl ?_
      refine E_iconst (v := 1) dX9_findLighted_40 rfl ?_
      rw [hF]
      refine E_isub dX9_findLighted_41 ?_
      rw [show nI n - 1 = nI (n - 1) from pk_sub (b := 1) h1]
      refine E_istore_n dX9_findLighted_42 (by decide) rfl ?_
      refine E.pick [1, 0] rfl ?_
      exact l_li2 hn (n - 1) z (by omega) hF
    · exact absurd (nI_le (by omega) (by omega)) c_7
  | succ m ih =>
    intro i z hi hF
    have hcl : (nI i).toNatClampNeg = i := nI_clamp (by omega)
    refine E_iload_n dX9_findLighted_2 rfl ?_
    refine E_aload_n dX9_findLighted_3 rfl ?_
    refine E_getf 10 dX9_findLighted_4 fl_X9_49 (by decide) (hg_6 _) rfl ?_
    rw [hF]
    refine E_icmp_ge 36 dX9_findLighted_7 (by decide) (fun c_7 => ?_) (fun c_7 => ?_)
    · exact absurd c_7 (nI_ge (by omega) (by omega))
    · refine E_aload_n dX9_findLighted_10 rfl ?_
      refine E_getf 8 dX9_findLighted_11 fl_X9_36 (by decide) (hg_6 _) rfl ?_
      refine E_iload_n dX9_findLighted_14 rfl ?_
      refine E_aload_n dX9_findLighted_15 rfl ?_
      refine E_getf 0 dX9_findLighted_16 fl_X9_11 (by decide) (hg_6 _) rfl ?_
      refine E_iload_n dX9_findLighted_19 rfl ?_
      refine E_iald dX9_findLighted_20 (by decide) (hg_7 _) (vp_in_nI (by omega) (by omega)) ?_
      rw [hcl]
      refine E_if_eq 28 dX9_findLighted_21 (by decide) (fun c_21 => ?_) (fun c_21 => ?_)
      · refine E_iconst (v := 0) dX9_findLighted_28 rfl ?_
        refine E_zast dX9_findLighted_29 (by decide) (hg_15 _) (vp_in_nI (by omega) (by omega)) ?_
        rw [hs_15, vnb0]
        rw [hcl]
        refine E_iincL 1 dX9_findLighted_30 rfl rfl (by decide) rfl ?_
        rw [nI_1]
        refine E_goto 2 dX9_findLighted_33 (by decide) ?_
        refine E.pick [1, 0] rfl ?_
        rw [li1]
        first | rw [b2i_f (p := ¬ z.A 7 i = 0) (fun h => h c_21)] | rw [b2i_t (p := ¬ z.A 7 i = 0) c_21]
        exact ih (i + 1) _ (by omega) hF
      · refine E_iconst (v := 1) dX9_findLighted_24 rfl ?_
        refine E_goto 29 dX9_findLighted_25 (by decide) ?_
        refine E_zast dX9_findLighted_29 (by decide) (hg_15 _) (vp_in_nI (by omega) (by omega)) ?_
        rw [hs_15, vnb1]
        rw [hcl]
        refine E_iincL 1 dX9_findLighted_30 rfl rfl (by decide) rfl ?_
        rw [nI_1]
        refine E_goto 2 dX9_findLighted_33 (by decide) ?_
        refine E.pick [1, 0] rfl ?_
        rw [li1]
        first | rw [b2i_f (p := ¬ z.A 7 i = 0) (fun h => h c_21)] | rw [b2i_t (p := ¬ z.A 7 i = 0) c_21]
        exact ih (i + 1) _ (by omega) hF
theorem c_findLighted {n : Nat} (h1 : 1 ≤ n) (hn : n ≤ 60) (z : Sg) (hF : z.F 6 10 = nI n) : EM mTray_findLighted 1 0 0 [.ref 6] (hp z) (Det none (hp (li2 (n - 1) (li1 n 0 z)))) := by
  refine E_iconst (v := 0) dX9_findLighted_0 rfl ?_
  refine E_istore_n dX9_findLighted_1 (by decide) rfl ?_
  refine E.pick [1, 0] rfl ?_
  exact l_li1 h1 hn n 0 z (by omega) hF
