/-! SHARES: cost, mean -/
def cst (z : Sg) : Nat → Int32 → Int32 → Int32
  | 0, s, _ => s
  | m + 1, s, p => if p ≤ 0 then s else cst z m (s + (z.A 5 0 * tg z 10 p (-1) + z.A 5 4)) (tg z 9 p (-1))
theorem l_cst {z : Sg} (hs : (z.F 6 10).toInt ≤ 60) (nd : Int32) : ∀ (m i : Nat) (s p : Int32), i + m = 60 → E mShares_costOf 2 0 0 21 [(0, .ref 32), (1, .int nd), (2, .int s), (3, .int p), (4, .int (nI i))] [] (hp z) (Det (some (.int (cst z m s p))) (hp z)) := by
  intro m
  induction m with
  | zero =>
    intro i s p hi
    refine E_iload dX6_costOf_21 rfl ?_
    refine E_bipush (v := 60) dX6_costOf_23 rfl ?_
    refine E_icmp_ge 76 dX6_costOf_25 (by decide) (fun c_25 => ?_) (fun c_25 => ?_)
    · refine E_iload_n dX6_costOf_76 rfl ?_
      exact E_iret dX6_costOf_77 rfl rfl ⟨rfl, rfl⟩
    · exact absurd (nI_le (a := 60) (by omega) (by omega)) c_25
  | succ m ih =>
    intro i s p hi
    refine E_iload dX6_costOf_21 rfl ?_
    refine E_bipush (v := 60) dX6_costOf_23 rfl ?_
    refine E_icmp_ge 76 dX6_costOf_25 (by decide) (fun c_25 => ?_) (fun c_25 => ?_)
    · exact absurd c_25 (nI_ge (b := 60) (by omega) (by omega))
    · refine E_iload_n dX6_costOf_28 rfl ?_
      refine E_if_le 76 dX6_costOf_29 (by decide) (fun c_29 => ?_) (fun c_29 => ?_)
      · refine E_iload_n dX6_costOf_76 rfl ?_
        exact E_iret dX6_costOf_77 rfl rfl ⟨by rw [cst, if_pos c_29], rfl⟩
      · refine E_iload_n dX6_costOf_32 rfl ?_
        refine E_aload_n dX6_costOf_33 rfl ?_
        refine E_getf 1 dX6_costOf_34 fl_X6_22 (by decide) (hg_32 _) rfl ?_
        refine E_iconst (v := 0) dX6_costOf_37 rfl ?_
        refine E_V1 dX6_costOf_38 cv_X6_40 (by decide) (hg_4 _) rfl rfl (Nat.le_of_ble_eq_true rfl) (Nat.le_of_ble_eq_true rfl) (c_get z 0 (by decide)) (by decide) (Nat.zero_le _) (Nat.zero_le _) ?_
        refine E_aload_n dX6_costOf_41 rfl ?_
        refine E_getf 0 dX6_costOf_42 fl_X6_18 (by decide) (hg_32 _) rfl ?_
        refine E_iload_n dX6_costOf_45 rfl ?_
        refine E_V1 dX6_costOf_46 cv_X6_34 (by decide) (hg_6 _) rfl rfl (Nat.le_of_ble_eq_true rfl) (Nat.le_of_ble_eq_true rfl) (c_placeOf z hs p) (by decide) (Nat.zero_le _) (Nat.zero_le _) ?_
        refine E_imul dX6_costOf_49 ?_
        refine E_aload_n dX6_costOf_50 rfl ?_
        refine E_getf 1 dX6_costOf_51 fl_X6_22 (by decide) (hg_32 _) rfl ?_
        refine E_iconst (v := 4) dX6_costOf_54 rfl ?_
        refine E_V1 dX6_costOf_55 cv_X6_40 (by decide) (hg_4 _) rfl rfl (Nat.le_of_ble_eq_true rfl) (Nat.le_of_ble_eq_true rfl) (c_get z 4 (by decide)) (by decide) (Nat.zero_le _) (Nat.zero_le _) ?_
        refine E_iadd dX6_costOf_58 ?_
        refine E_iadd dX6_costOf_59 ?_
        refine E_istore_n dX6_costOf_60 (by decide) rfl ?_
        refine E_aload_n dX6_costOf_61 rfl ?_
        refine E_getf 0 dX6_costOf_62 fl_X6_18 (by decide) (hg_32 _) rfl ?_
        refine E_iload_n dX6_costOf_65 rfl ?_
        refine E_V1 dX6_costOf_66 cv_X6_45 (by decide) (hg_6 _) rfl rfl (Nat.le_of_ble_eq_true rfl) (Nat.le_of_ble_eq_true rfl) (c_groupOf z hs p) (by decide) (Nat.zero_le _) (Nat.zero_le _) ?_
        refine E_istore_n dX6_costOf_69 (by decide) rfl ?_
        refine E_iincL 1 dX6_costOf_70 rfl rfl (by decide) rfl ?_
        rw [nI_1]
        refine E_goto 21 dX6_costOf_73 (by decide) ?_
        refine E.pick [3, 4, 2, 1, 0] rfl ?_
        rw [cst, if_neg c_29]
        exact ih (i + 1) _ _ (by omega)
def cstD (z : Sg) (nd : Int32) : Int32 := if tg z 10 nd (-1) = -1 then -1 else cst z 60 0 nd
theorem c_costOf {z : Sg} (hs : (z.F 6 10).toInt ≤ 60) (nd : Int32) : EM mShares_costOf 2 0 0 [.ref 32, .int nd] (hp z) (Det (some (.int (cstD z nd))) (hp z)) := by
  refine E_aload_n dX6_costOf_0 rfl ?_
  refine E_getf 0 dX6_costOf_1 fl_X6_18 (by decide) (hg_32 _) rfl ?_
  refine E_iload_n dX6_costOf_4 rfl ?_
  refine E_V1 dX6_costOf_5 cv_X6_34 (by decide) (hg_6 _) rfl rfl (Nat.le_of_ble_eq_true rfl) (Nat.le_of_ble_eq_true rfl) (c_placeOf z hs nd) (by decide) (Nat.zero_le _) (Nat.zero_le _) ?_
  refine E_iconst (v := (-1)) dX6_costOf_8 rfl ?_
  refine E_icmp_ne 14 dX6_costOf_9 (by decide) (fun c_9 => ?_) (fun c_9 => ?_)
  · refine E_iconst (v := 0) dX6_costOf_14 rfl ?_
    refine E_istore_n dX6_costOf_15 (by decide) rfl ?_
    refine E_iload_n dX6_costOf_16 rfl ?_
    refine E_istore_n dX6_costOf_17 (by decide) rfl ?_
    refine E_iconst (v := 0) dX6_costOf_18 rfl ?_
    refine E_istore dX6_costOf_19 (by decide) rfl ?_
    refine E.pick [3, 4, 2, 1, 0] rfl ?_
    rw [cstD, if_neg c_9]
    exact l_cst hs nd 60 0 0 nd (by omega)
  · refine E_iconst (v := (-1)) dX6_costOf_12 rfl ?_
    exact E_iret dX6_costOf_13 rfl rfl ⟨by rw [cstD, if_pos c_9], rfl⟩
theorem c_cost {z : Sg} (hs : (z.F 6 10).toInt ≤ 60) (nd : Int32) : EM mDesk_cost 3 0 0 [.ref 3, .int nd] (hp z) (Det (some (.int (cstD z nd))) (hp z)) := by
  refine E_aload_n dX10_cost_0 rfl ?_
  refine E_getf 7 dX10_cost_1 fl_X10_65 (by decide) (hg_3 _) rfl ?_
  refine E_iload_n dX10_cost_4 rfl ?_
  refine E_V1 dX10_cost_5 cv_X10_179 (by decide) (hg_32 _) rfl rfl (Nat.le_of_ble_eq_true rfl) (Nat.le_of_ble_eq_true rfl) (c_costOf hs nd) (by decide) (Nat.zero_le _) (Nat.zero_le _) ?_
  exact E_iret dX10_cost_8 rfl rfl ⟨rfl, rfl⟩
theorem c_share (z : Sg) (x v : Int32) : EM mDesk_share 2 0 0 [.ref 3, .int x, .int v] (hp z) (Det (some (.int (b2i (shareOK x v)))) (hp (if shareOK x v then stA z 33 (upd (z.A 33) (x - 97).toNatClampNeg v) else z))) := by
  refine E_aload_n dX10_share_0 rfl ?_
  refine E_getf 7 dX10_share_1 fl_X10_65 (by decide) (hg_3 _) rfl ?_
  refine E_iload_n dX10_share_4 rfl ?_
  refine E_iload_n dX10_share_5 rfl ?_
  refine E_V2 dX10_share_6 cv_X10_178 (by decide) (hg_32 _) rfl rfl (Nat.le_of_ble_eq_true rfl) (Nat.le_of_ble_eq_true rfl) (c_Shares_change z x v) (by decide) (Nat.zero_le _) (Nat.zero_le _) ?_
  exact E_iret dX10_share_9 rfl b2i_nar ⟨rfl, rfl⟩
abbrev lsC (z : Sg) (i : Nat) : Prop := z.A 7 i = 1 ∧ isL (z.A 8 i)
def lsV (z : Sg) (i : Nat) : Int32 := if z.A 34 (z.A 8 i - 97).toNatClampNeg = -1 then cstD z (nI i) else (if cstD z (nI i) < z.A 34 (z.A 8 i - 97).toNatClampNeg then cstD z (nI i) else z.A 34 (z.A 8 i - 97).toNatClampNeg)
def fls : Nat → Nat → Sg → Sg
  | 0, _, z => z
  | m + 1, i, z => if lsC z i then fls m (i + 1) (stA z 34 (upd (z.A 34) (z.A 8 i - 97).toNatClampNeg (lsV z i))) else fls m (i + 1) z
theorem tg_at {z : Sg} {n i : Nat} (hF : z.F 6 10 = nI n) (hn : n ≤ 60) (hi : i < n) (a : Nat) (d : Int32) : tg z a (nI i) d = z.A a i := by
  unfold tg
  rw [if_pos ⟨by rw [nI_toInt (by omega)]; omega, by rw [hF, nI_toInt (by omega), nI_toInt (by omega)]; omega⟩, nI_clamp (by omega)]
theorem l_fls {n : Nat} (hn : n ≤ 60) : ∀ (m i : Nat) (z : Sg), i + m = n → z.F 6 10 = nI n → E mShares_findLeasts 3 0 0 10 [(0, .ref 32), (1, .int (nI i))] [] (hp z) (Det none (hp (fls m i z))) := by
  intro m
  induction m with
  | zero =>
    intro i z hi hF
    refine E_iload_n dX6_findLeasts_10 rfl ?_
    refine E_aload_n dX6_findLeasts_11 rfl ?_
    refine E_getf 0 dX6_findLeasts_12 fl_X6_18 (by decide) (hg_32 _) rfl ?_
    refine E_V0 dX6_findLeasts_15 cv_X6_63 (by decide) (hg_6 _) rfl rfl (Nat.le_of_ble_eq_true rfl) (Nat.le_of_ble_eq_true rfl) (c_Tray_size z) (by decide) (Nat.zero_le _) (Nat.zero_le _) ?_
    rw [hF]
    refine E_icmp_ge 97 dX6_findLeasts_18 (by decide) (fun c_18 => ?_) (fun c_18 => ?_)
    · exact E_vret dX6_findLeasts_97 rfl ⟨rfl, rfl⟩
    · exact absurd (nI_le (by omega) (by omega)) c_18
  | succ m ih =>
    intro i z hi hF
    have hs : (z.F 6 10).toInt ≤ 60 := by rw [hF, nI_toInt (by omega)]; omega
    have hv := c_valueOf z hs (nI i)
    rw [tg_at hF hn (by omega)] at hv
    have hk := c_kindOf z hs (nI i)
    rw [tg_at hF hn (by omega)] at hk
    refine E_iload_n dX6_findLeasts_10 rfl ?_
    refine E_aload_n dX6_findLeasts_11 rfl ?_
    refine E_getf 0 dX6_findLeasts_12 fl_X6_18 (by decide) (hg_32 _) rfl ?_
    refine E_V0 dX6_findLeasts_15 cv_X6_63 (by decide) (hg_6 _) rfl rfl (Nat.le_of_ble_eq_true rfl) (Nat.le_of_ble_eq_true rfl) (c_Tray_size z) (by decide) (Nat.zero_le _) (Nat.zero_le _) ?_
    rw [hF]
    refine E_icmp_ge 97 dX6_findLeasts_18 (by decide) (fun c_18 => ?_) (fun c_18 => ?_)
    · exact absurd c_18 (nI_ge (by omega) (by omega))
    · refine E_aload_n dX6_findLeasts_21 rfl ?_
      refine E_getf 0 dX6_findLeasts_22 fl_X6_18 (by decide) (hg_32 _) rfl ?_
      refine E_iload_n dX6_findLeasts_25 rfl ?_
      refine E_V1 dX6_findLeasts_26 cv_X6_67 (by decide) (hg_6 _) rfl rfl (Nat.le_of_ble_eq_true rfl) (Nat.le_of_ble_eq_true rfl) (hv) (by decide) (Nat.zero_le _) (Nat.zero_le _) ?_
      refine E_istore_n dX6_findLeasts_29 (by decide) rfl ?_
      refine E_aload_n dX6_findLeasts_30 rfl ?_
      refine E_getf 0 dX6_findLeasts_31 fl_X6_18 (by decide) (hg_32 _) rfl ?_
      refine E_iload_n dX6_findLeasts_34 rfl ?_
      refine E_V1 dX6_findLeasts_35 cv_X6_70 (by decide) (hg_6 _) rfl rfl (Nat.le_of_ble_eq_true rfl) (Nat.le_of_ble_eq_true rfl) (hk) (by decide) (Nat.zero_le _) (Nat.zero_le _) ?_
      refine E_iconst (v := 1) dX6_findLeasts_38 rfl ?_
      refine E_icmp_ne 91 dX6_findLeasts_39 (by decide) (fun c_39 => ?_) (fun c_39 => ?_)
      · refine E_iincL 1 dX6_findLeasts_91 rfl rfl (by decide) rfl ?_
        rw [nI_1]
        refine E_goto 10 dX6_findLeasts_94 (by decide) ?_
        refine E.pick [2, 0] rfl ?_
        rw [fls]
        first | exact (by rw [if_neg (show ¬ lsC z i from fun h9 => c_39 h9.1)]; exact ih (i + 1) z (by omega) hF) | exact (by rw [if_neg (show ¬ lsC z i from fun h9 => b2i_e0 c_46 h9.2)]; exact ih (i + 1) z (by omega) hF) | exact (by rw [if_pos (show lsC z i from ⟨c_39, b2i_ne c_46⟩), lsV, if_pos c_77]; exact ih (i + 1) _ (by omega) hF) | exact (by rw [if_pos (show lsC z i from ⟨c_39, b2i_ne c_46⟩), lsV, if_neg c_77]; exact ih (i + 1) _ (by omega) hF)
      · refine E_iload_n dX6_findLeasts_42 rfl ?_
        refine E_S1 dX6_findLeasts_43 cs_X6_26 (Nat.le_of_ble_eq_true rfl) (Nat.le_of_ble_eq_true rfl) (c_isLetter _ _) (by decide) (Nat.zero_le _) (Nat.zero_le _) ?_
        refine E_if_eq 91 dX6_findLeasts_46 (by decide) (fun c_46 => ?_) (fun c_46 => ?_)
        · refine E_iincL 1 dX6_findLeasts_91 rfl rfl (by decide) rfl ?_
          rw [nI_1]
          refine E_goto 10 dX6_findLeasts_94 (by decide) ?_
          refine E.pick [2, 0] rfl ?_
          rw [fls]
          first | exact (by rw [if_neg (show ¬ lsC z i from fun h9 => c_39 h9.1)]; exact ih (i + 1) z (by omega) hF) | exact (by rw [if_neg (show ¬ lsC z i from fun h9 => b2i_e0 c_46 h9.2)]; exact ih (i + 1) z (by omega) hF) | exact (by rw [if_pos (show lsC z i from ⟨c_39, b2i_ne c_46⟩), lsV, if_pos c_77]; exact ih (i + 1) _ (by omega) hF) | exact (by rw [if_pos (show lsC z i from ⟨c_39, b2i_ne c_46⟩), lsV, if_neg c_77]; exact ih (i + 1) _ (by omega) hF)
        · refine E_aload_n dX6_findLeasts_49 rfl ?_
          refine E_iload_n dX6_findLeasts_50 rfl ?_
          refine E_V1 dX6_findLeasts_51 cv_X6_73 (by decide) (hg_32 _) rfl rfl (Nat.le_of_ble_eq_true rfl) (Nat.le_of_ble_eq_true rfl) (c_costOf hs (nI i)) (by decide) (Nat.zero_le _) (Nat.zero_le _) ?_
          refine E_istore_n dX6_findLeasts_54 (by decide) rfl ?_
          refine E_aload_n dX6_findLeasts_55 rfl ?_
          refine E_getf 3 dX6_findLeasts_56 fl_X6_15 (by decide) (hg_32 _) rfl ?_
          refine E_iload_n dX6_findLeasts_59 rfl ?_
          refine E_bipush (v := 97) dX6_findLeasts_60 rfl ?_
          refine E_isub dX6_findLeasts_62 ?_
          refine E_iald dX6_findLeasts_63 (by decide) (hg_34 _) (letter_in (b2i_ne c_46)) ?_
          refine E_istore dX6_findLeasts_64 (by decide) rfl ?_
          refine E_aload_n dX6_findLeasts_66 rfl ?_
          refine E_getf 3 dX6_findLeasts_67 fl_X6_15 (by decide) (hg_32 _) rfl ?_
          refine E_iload_n dX6_findLeasts_70 rfl ?_
          refine E_bipush (v := 97) dX6_findLeasts_71 rfl ?_
          refine E_isub dX6_findLeasts_73 ?_
          refine E_iload dX6_findLeasts_74 rfl ?_
          refine E_iconst (v := (-1)) dX6_findLeasts_76 rfl ?_
          refine E_icmp_ne 84 dX6_findLeasts_77 (by decide) (fun c_77 => ?_) (fun c_77 => ?_)
          · refine E_iload dX6_findLeasts_84 rfl ?_
            refine E_iload_n dX6_findLeasts_86 rfl ?_
            refine E_mmin dX6_findLeasts_87 mt_X6_76 (by decide) (Nat.le_of_ble_eq_true rfl) ?_
            refine E_iast dX6_findLeasts_90 (by decide) (hg_34 _) (letter_in (b2i_ne c_46)) ?_
            rw [hs_34]
            refine E_iincL 1 dX6_findLeasts_91 rfl rfl (by decide) rfl ?_
            rw [nI_1]
            refine E_goto 10 dX6_findLeasts_94 (by decide) ?_
            refine E.pick [4, 0] rfl ?_
            rw [fls]
            first | exact (by rw [if_neg (show ¬ lsC z i from fun h9 => c_39 h9.1)]; exact ih (i + 1) z (by omega) hF) | exact (by rw [if_neg (show ¬ lsC z i from fun h9 => b2i_e0 c_46 h9.2)]; exact ih (i + 1) z (by omega) hF) | exact (by rw [if_pos (show lsC z i from ⟨c_39, b2i_ne c_46⟩), lsV, if_pos c_77]; exact ih (i + 1) _ (by omega) hF) | exact (by rw [if_pos (show lsC z i from ⟨c_39, b2i_ne c_46⟩), lsV, if_neg c_77]; exact ih (i + 1) _ (by omega) hF)
          · refine E_iload_n dX6_findLeasts_80 rfl ?_
            refine E_goto 90 dX6_findLeasts_81 (by decide) ?_
            refine E_iast dX6_findLeasts_90 (by decide) (hg_34 _) (letter_in (b2i_ne c_46)) ?_
            rw [hs_34]
            refine E_iincL 1 dX6_findLeasts_91 rfl rfl (by decide) rfl ?_
            rw [nI_1]
            refine E_goto 10 dX6_findLeasts_94 (by decide) ?_
            refine E.pick [4, 0] rfl ?_
            rw [fls]
            first | exact (by rw [if_neg (show ¬ lsC z i from fun h9 => c_39 h9.1)]; exact ih (i + 1) z (by omega) hF) | exact (by rw [if_neg (show ¬ lsC z i from fun h9 => b2i_e0 c_46 h9.2)]; exact ih (i + 1) z (by omega) hF) | exact (by rw [if_pos (show lsC z i from ⟨c_39, b2i_ne c_46⟩), lsV, if_pos c_77]; exact ih (i + 1) _ (by omega) hF) | exact (by rw [if_pos (show lsC z i from ⟨c_39, b2i_ne c_46⟩), lsV, if_neg c_77]; exact ih (i + 1) _ (by omega) hF)
def zfs (n : Nat) (z : Sg) : Sg := fls (n - 1) 1 (flz 26 z 34 (-1))
theorem c_findLeasts {n : Nat} (h1 : 1 ≤ n) (hn : n ≤ 60) (z : Sg) (hF : z.F 6 10 = nI n) : EM mShares_findLeasts 3 0 0 [.ref 32] (hp z) (Det none (hp (zfs n z))) := by
  refine E_aload_n dX6_findLeasts_0 rfl ?_
  refine E_getf 3 dX6_findLeasts_1 fl_X6_15 (by decide) (hg_32 _) rfl ?_
  refine E_iconst (v := (-1)) dX6_findLeasts_4 rfl ?_
  refine E_S2 dX6_findLeasts_5 cs_X6_57 (Nat.le_of_ble_eq_true rfl) (Nat.le_of_ble_eq_true rfl) (c_fillz (by decide) (by decide) hg_34 hs_34 _ _) (by decide) (Nat.zero_le _) (Nat.zero_le _) ?_
  refine E_iconst (v := 1) dX6_findLeasts_8 rfl ?_
  refine E_istore_n dX6_findLeasts_9 (by decide) rfl ?_
  refine E.pick [1, 0] rfl ?_
  exact l_fls hn (n - 1) 1 (flz 26 z 34 (-1)) (by omega) hF
theorem lgc {a b : Int64} : lg_cmp a b = 0 ↔ a = b := by
  unfold lg_cmp
  by_cases h : b < a
  · rw [if_pos h]
    refine ⟨fun h9 => absurd h9 (by decide), fun h9 => ?_⟩
    rw [h9] at h
    exact absurd h Int64.lt_irrefl
  · rw [if_neg h]
    by_cases h2 : a = b
    · rw [if_pos h2]
      exact ⟨fun _ => h2, fun _ => rfl⟩
    · rw [if_neg h2]
      exact ⟨fun h9 => absurd h9 (by decide), fun h9 => absurd h9 h2⟩
def cdv : Nat → Int64 → Int64 → Int64
  | 0, a, _ => a
  | m + 1, a, b => if b = 0 then a else cdv m b (a - a / b * b)
theorem l_cdv (z : HP) (p q : Int64) : ∀ (m i : Nat) (a b : Int64), i + m = 100 → E mShares_commonDivisor 0 0 0 9 [(0, .long p), (2, .long q), (4, .long a), (6, .long b), (8, .int (nI i))] [] z (Det (some (.long (cdv m a b))) z) := by
  intro m
  induction m with
  | zero =>
    intro i a b hi
    refine E_iload dX6_commonDivisor_9 rfl ?_
    refine E_bipush (v := 100) dX6_commonDivisor_11 rfl ?_
    refine E_icmp_ge 44 dX6_commonDivisor_13 (by decide) (fun c_13 => ?_) (fun c_13 => ?_)
    · refine E_lload dX6_commonDivisor_44 rfl ?_
      exact E_lret dX6_commonDivisor_46 rfl ⟨rfl, rfl⟩
    · exact absurd (nI_le (a := 100) (by omega) (by omega)) c_13
  | succ m ih =>
    intro i a b hi
    refine E_iload dX6_commonDivisor_9 rfl ?_
    refine E_bipush (v := 100) dX6_commonDivisor_11 rfl ?_
    refine E_icmp_ge 44 dX6_commonDivisor_13 (by decide) (fun c_13 => ?_) (fun c_13 => ?_)
    · exact absurd c_13 (nI_ge (b := 100) (by omega) (by omega))
    · refine E_lload dX6_commonDivisor_16 rfl ?_
      refine E_lconst (v := 0) dX6_commonDivisor_18 rfl ?_
      refine E_lcmp dX6_commonDivisor_19 ?_
      refine E_if_eq 44 dX6_commonDivisor_20 (by decide) (fun c_20 => ?_) (fun c_20 => ?_)
      · refine E_lload dX6_commonDivisor_44 rfl ?_
        exact E_lret dX6_commonDivisor_46 rfl ⟨by rw [cdv, if_pos (lgc.mp c_20)], rfl⟩
      · refine E_lload dX6_commonDivisor_23 rfl ?_
        refine E_lload dX6_commonDivisor_25 rfl ?_
        refine E_lrem dX6_commonDivisor_27 (fun h9 => c_20 (lgc.mpr h9)) ?_
        refine E_lstore dX6_commonDivisor_28 (by decide) rfl ?_
        refine E_lload dX6_commonDivisor_30 rfl ?_
        refine E_lstore dX6_commonDivisor_32 (by decide) rfl ?_
        refine E_lload dX6_commonDivisor_34 rfl ?_
        refine E_lstore dX6_commonDivisor_36 (by decide) rfl ?_
        refine E_iincL 1 dX6_commonDivisor_38 rfl rfl (by decide) rfl ?_
        rw [nI_1]
        refine E_goto 9 dX6_commonDivisor_41 (by decide) ?_
        refine E.pick [4, 5, 2, 1, 0] rfl ?_
        rw [cdv, if_neg (fun h9 => c_20 (lgc.mpr h9))]
        exact ih (i + 1) _ _ (by omega)
theorem c_commonDivisor (z : HP) (p q : Int64) : EM mShares_commonDivisor 0 0 0 [.long p, .long q] z (Det (some (.long (cdv 100 p q))) z) := by
  refine E_lload_n dX6_commonDivisor_0 rfl ?_
  refine E_lstore dX6_commonDivisor_1 (by decide) rfl ?_
  refine E_lload_n dX6_commonDivisor_3 rfl ?_
  refine E_lstore dX6_commonDivisor_4 (by decide) rfl ?_
  refine E_iconst (v := 0) dX6_commonDivisor_6 rfl ?_
  refine E_istore dX6_commonDivisor_7 (by decide) rfl ?_
  refine E.pick [3, 4, 2, 1, 0] rfl ?_
  exact l_cdv z p q 100 0 p q (by omega)
abbrev mpN (z : Sg) (i : Nat) : Prop := ¬ z.A 33 i ≤ 0 ∧ z.A 34 i = -1
def mpq (z : Sg) : Nat → Nat → Int64 → Int64 → Option (Int64 × Int64)
  | 0, _, t, a => some (t, a)
  | m + 1, i, t, a => if mpN z i then none else mpq z m (i + 1) (t + (z.A 33 i).toInt64 * (z.A 34 i).toInt64) (a + (z.A 33 i).toInt64)
def mpR (w : Int32) : Option (Int64 × Int64) → Int64
  | none => -1
  | some (t, a) => if a = 0 ∨ cdv 100 t a = 0 then -1 else (if w = 0 then t else a) / cdv 100 t a
theorem l_mpq {z : Sg} (w : Int32) : ∀ (m i : Nat) (t a : Int64), i + m = 26 → E mShares_meanPart 4 0 0 25 [(0, .ref 32), (1, .int w), (2, .long t), (4, .long a), (6, .int (nI i))] [] (hp z) (Det (some (.long (mpR w (mpq z m i t a)))) (hp z)) := by
  intro m
  induction m with
  | zero =>
    intro i t a hi
    refine E_iload dX6_meanPart_25 rfl ?_
    refine E_bipush (v := 26) dX6_meanPart_27 rfl ?_
    refine E_icmp_ge 96 dX6_meanPart_29 (by decide) (fun c_29 => ?_) (fun c_29 => ?_)
    · refine E_lload_n dX6_meanPart_96 rfl ?_
      refine E_lload dX6_meanPart_97 rfl ?_
      refine E_S2 dX6_meanPart_99 cs_X6_53 (Nat.le_of_ble_eq_true rfl) (Nat.le_of_ble_eq_true rfl) (c_commonDivisor _ t a) (by decide) (Nat.zero_le _) (Nat.zero_le _) ?_
      refine E_lstore dX6_meanPart_102 (by decide) rfl ?_
      refine E_lload dX6_meanPart_104 rfl ?_
      refine E_lconst (v := 0) dX6_meanPart_106 rfl ?_
      refine E_lcmp dX6_meanPart_107 ?_
      refine E_if_eq 118 dX6_meanPart_108 (by decide) (fun c_108 => ?_) (fun c_108 => ?_)
      · refine E_ldc2 dX6_meanPart_118 k_48 ?_
        exact E_lret dX6_meanPart_121 rfl ⟨by first | (rw [mpq, mpR, if_pos (Or.inl (lgc.mp c_108))]) | (rw [mpq, mpR, if_pos (Or.inr (lgc.mp c_115))]), rfl⟩
      · refine E_lload dX6_meanPart_111 rfl ?_
        refine E_lconst (v := 0) dX6_meanPart_113 rfl ?_
        refine E_lcmp dX6_meanPart_114 ?_
        refine E_if_ne 122 dX6_meanPart_115 (by decide) (fun c_115 => ?_) (fun c_115 => ?_)
        · refine E_iload_n dX6_meanPart_122 rfl ?_
          refine E_if_ne 130 dX6_meanPart_123 (by decide) (fun c_123 => ?_) (fun c_123 => ?_)
          · refine E_lload dX6_meanPart_130 rfl ?_
            refine E_lload dX6_meanPart_132 rfl ?_
            refine E_ldiv dX6_meanPart_134 (fun h9 => c_115 (lgc.mpr h9)) ?_
            exact E_lret dX6_meanPart_135 rfl ⟨by rw [mpq, mpR, if_neg (fun h9 => h9.elim (fun h8 => c_108 (lgc.mpr h8)) (fun h8 => c_115 (lgc.mpr h8)))]; first | rw [if_pos c_123] | rw [if_neg c_123], rfl⟩
          · refine E_lload_n dX6_meanPart_126 rfl ?_
            refine E_goto 132 dX6_meanPart_127 (by decide) ?_
            refine E_lload dX6_meanPart_132 rfl ?_
            refine E_ldiv dX6_meanPart_134 (fun h9 => c_115 (lgc.mpr h9)) ?_
            exact E_lret dX6_meanPart_135 rfl ⟨by rw [mpq, mpR, if_neg (fun h9 => h9.elim (fun h8 => c_108 (lgc.mpr h8)) (fun h8 => c_115 (lgc.mpr h8)))]; first | rw [if_pos c_123] | rw [if_neg c_123], rfl⟩
        · refine E_ldc2 dX6_meanPart_118 k_48 ?_
          exact E_lret dX6_meanPart_121 rfl ⟨by first | (rw [mpq, mpR, if_pos (Or.inl (lgc.mp c_108))]) | (rw [mpq, mpR, if_pos (Or.inr (lgc.mp c_115))]), rfl⟩
    · exact absurd (nI_le (a := 26) (by omega) (by omega)) c_29
  | succ m ih =>
    intro i t a hi
    have hcl : (nI i).toNatClampNeg = i := nI_clamp (by omega)
    refine E_iload dX6_meanPart_25 rfl ?_
    refine E_bipush (v := 26) dX6_meanPart_27 rfl ?_
    refine E_icmp_ge 96 dX6_meanPart_29 (by decide) (fun c_29 => ?_) (fun c_29 => ?_)
    · exact absurd c_29 (nI_ge (b := 26) (by omega) (by omega))
    · refine E_aload_n dX6_meanPart_32 rfl ?_
      refine E_getf 2 dX6_meanPart_33 fl_X6_9 (by decide) (hg_32 _) rfl ?_
      refine E_iload dX6_meanPart_36 rfl ?_
      refine E_iald dX6_meanPart_38 (by decide) (hg_33 _) (vp_in_nI (by omega) (by omega)) ?_
      rw [hcl]
      refine E_if_le 57 dX6_meanPart_39 (by decide) (fun c_39 => ?_) (fun c_39 => ?_)
      · refine E_lload_n dX6_meanPart_57 rfl ?_
        refine E_aload_n dX6_meanPart_58 rfl ?_
        refine E_getf 2 dX6_meanPart_59 fl_X6_9 (by decide) (hg_32 _) rfl ?_
        refine E_iload dX6_meanPart_62 rfl ?_
        refine E_iald dX6_meanPart_64 (by decide) (hg_33 _) (vp_in_nI (by omega) (by omega)) ?_
        rw [hcl]
        refine E_i2l dX6_meanPart_65 ?_
        refine E_aload_n dX6_meanPart_66 rfl ?_
        refine E_getf 3 dX6_meanPart_67 fl_X6_15 (by decide) (hg_32 _) rfl ?_
        refine E_iload dX6_meanPart_70 rfl ?_
        refine E_iald dX6_meanPart_72 (by decide) (hg_34 _) (vp_in_nI (by omega) (by omega)) ?_
        rw [hcl]
        refine E_i2l dX6_meanPart_73 ?_
        refine E_lmul dX6_meanPart_74 ?_
        refine E_ladd dX6_meanPart_75 ?_
        refine E_lstore_n dX6_meanPart_76 (by decide) rfl ?_
        refine E_lload dX6_meanPart_77 rfl ?_
        refine E_aload_n dX6_meanPart_79 rfl ?_
        refine E_getf 2 dX6_meanPart_80 fl_X6_9 (by decide) (hg_32 _) rfl ?_
        refine E_iload dX6_meanPart_83 rfl ?_
        refine E_iald dX6_meanPart_85 (by decide) (hg_33 _) (vp_in_nI (by omega) (by omega)) ?_
        rw [hcl]
        refine E_i2l dX6_meanPart_86 ?_
        refine E_ladd dX6_meanPart_87 ?_
        refine E_lstore dX6_meanPart_88 (by decide) rfl ?_
        refine E_iincL 1 dX6_meanPart_90 rfl rfl (by decide) rfl ?_
        rw [nI_1]
        refine E_goto 25 dX6_meanPart_93 (by decide) ?_
        refine E.pick [3, 4, 2, 1, 0] rfl ?_
        rw [mpq]
        first | exact (by rw [if_neg (show ¬ mpN z i from fun h9 => h9.1 c_39)]; exact ih (i + 1) _ _ (by omega)) | exact (by rw [if_neg (show ¬ mpN z i from fun h9 => c_50 h9.2)]; exact ih (i + 1) _ _ (by omega))
      · refine E_aload_n dX6_meanPart_42 rfl ?_
        refine E_getf 3 dX6_meanPart_43 fl_X6_15 (by decide) (hg_32 _) rfl ?_
        refine E_iload dX6_meanPart_46 rfl ?_
        refine E_iald dX6_meanPart_48 (by decide) (hg_34 _) (vp_in_nI (by omega) (by omega)) ?_
        refine E_iconst (v := (-1)) dX6_meanPart_49 rfl ?_
        rw [hcl]
        refine E_icmp_ne 57 dX6_meanPart_50 (by decide) (fun c_50 => ?_) (fun c_50 => ?_)
        · refine E_lload_n dX6_meanPart_57 rfl ?_
          refine E_aload_n dX6_meanPart_58 rfl ?_
          refine E_getf 2 dX6_meanPart_59 fl_X6_9 (by decide) (hg_32 _) rfl ?_
          refine E_iload dX6_meanPart_62 rfl ?_
          refine E_iald dX6_meanPart_64 (by decide) (hg_33 _) (vp_in_nI (by omega) (by omega)) ?_
          rw [hcl]
          refine E_i2l dX6_meanPart_65 ?_
          refine E_aload_n dX6_meanPart_66 rfl ?_
          refine E_getf 3 dX6_meanPart_67 fl_X6_15 (by decide) (hg_32 _) rfl ?_
          refine E_iload dX6_meanPart_70 rfl ?_
          refine E_iald dX6_meanPart_72 (by decide) (hg_34 _) (vp_in_nI (by omega) (by omega)) ?_
          rw [hcl]
          refine E_i2l dX6_meanPart_73 ?_
          refine E_lmul dX6_meanPart_74 ?_
          refine E_ladd dX6_meanPart_75 ?_
          refine E_lstore_n dX6_meanPart_76 (by decide) rfl ?_
          refine E_lload dX6_meanPart_77 rfl ?_
          refine E_aload_n dX6_meanPart_79 rfl ?_
          refine E_getf 2 dX6_meanPart_80 fl_X6_9 (by decide) (hg_32 _) rfl ?_
          refine E_iload dX6_meanPart_83 rfl ?_
          refine E_iald dX6_meanPart_85 (by decide) (hg_33 _) (vp_in_nI (by omega) (by omega)) ?_
          rw [hcl]
          refine E_i2l dX6_meanPart_86 ?_
          refine E_ladd dX6_meanPart_87 ?_
          refine E_lstore dX6_meanPart_88 (by decide) rfl ?_
          refine E_iincL 1 dX6_meanPart_90 rfl rfl (by decide) rfl ?_
          rw [nI_1]
          refine E_goto 25 dX6_meanPart_93 (by decide) ?_
          refine E.pick [3, 4, 2, 1, 0] rfl ?_
          rw [mpq]
          first | exact (by rw [if_neg (show ¬ mpN z i from fun h9 => h9.1 c_39)]; exact ih (i + 1) _ _ (by omega)) | exact (by rw [if_neg (show ¬ mpN z i from fun h9 => c_50 h9.2)]; exact ih (i + 1) _ _ (by omega))
        · refine E_ldc2 dX6_meanPart_53 k_48 ?_
          exact E_lret dX6_meanPart_56 rfl ⟨by rw [mpq, if_pos (show mpN z i from ⟨c_39, c_50⟩)]; rfl, rfl⟩
theorem c_meanPart {n : Nat} (h1 : 1 ≤ n) (hn : n ≤ 60) (z : Sg) (hF : z.F 6 10 = nI n) (w : Int32) : EM mShares_meanPart 4 0 0 [.ref 32, .int w] (hp z) (Det (some (.long (if inB w 0 1 then mpR w (mpq (zfs n z) 26 0 0 0) else (-1)))) (hp (if inB w 0 1 then zfs n z else z))) := by
  refine E_iload_n dX6_meanPart_0 rfl ?_
  refine E_iconst (v := 0) dX6_meanPart_1 rfl ?_
  refine E_iconst (v := 1) dX6_meanPart_2 rfl ?_
  refine E_S3 dX6_meanPart_3 cs_X6_30 (Nat.le_of_ble_eq_true rfl) (Nat.le_of_ble_eq_true rfl) (c_within _ w 0 1) (by decide) (Nat.zero_le _) (Nat.zero_le _) ?_
  refine E_if_ne 13 dX6_meanPart_6 (by decide) (fun c_6 => ?_) (fun c_6 => ?_)
  · refine E_aload_n dX6_meanPart_13 rfl ?_
    refine E_V0 dX6_meanPart_14 cv_X6_50 (by decide) (hg_32 _) rfl rfl (Nat.le_of_ble_eq_true rfl) (Nat.le_of_ble_eq_true rfl) (c_findLeasts h1 hn z hF) (by decide) (Nat.zero_le _) (Nat.zero_le _) ?_
    refine E_lconst (v := 0) dX6_meanPart_17 rfl ?_
    refine E_lstore_n dX6_meanPart_18 (by decide) rfl ?_
    refine E_lconst (v := 0) dX6_meanPart_19 rfl ?_
    refine E_lstore dX6_meanPart_20 (by decide) rfl ?_
    refine E_iconst (v := 0) dX6_meanPart_22 rfl ?_
    refine E_istore dX6_meanPart_23 (by decide) rfl ?_
    refine E.pick [3, 4, 2, 1, 0] rfl ?_
    rw [if_pos (b2i_ne c_6), if_pos (b2i_ne c_6)]
    exact l_mpq w 26 0 0 0 (by omega)
  · refine E_ldc2 dX6_meanPart_9 k_48 ?_
    exact E_lret dX6_meanPart_12 rfl ⟨by rw [if_neg (b2i_e0 c_6)], by rw [if_neg (b2i_e0 c_6)]⟩
theorem c_mean {n : Nat} (h1 : 1 ≤ n) (hn : n ≤ 60) (z : Sg) (hF : z.F 6 10 = nI n) (w : Int32) : EM mDesk_mean 5 0 0 [.ref 3, .int w] (hp z) (Det (some (.long (if inB w 0 1 then mpR w (mpq (zfs n z) 26 0 0 0) else (-1)))) (hp (if inB w 0 1 then zfs n z else z))) := by
  refine E_aload_n dX10_mean_0 rfl ?_
  refine E_getf 7 dX10_mean_1 fl_X10_65 (by decide) (hg_3 _) rfl ?_
  refine E_iload_n dX10_mean_4 rfl ?_
  refine E_V1 dX10_mean_5 cv_X10_182 (by decide) (hg_32 _) rfl rfl (Nat.le_of_ble_eq_true rfl) (Nat.le_of_ble_eq_true rfl) (c_meanPart h1 hn z hF w) (by decide) (Nat.zero_le _) (Nat.zero_le _) ?_
  exact E_lret dX10_mean_8 rfl ⟨rfl, rfl⟩
