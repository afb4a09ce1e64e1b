/-! THE MODEL: areNear, offeredAt; foreseen, offered, near, share, cost -/
/-- the model's tray: groups, rows of lights -/
def mtOK (z : Sg) (n : Nat) : Prop := z.F 39 5 = nI n ∧ 1 ≤ n ∧ n ≤ 60 ∧ (∀ a, 0 < a → a < n → ∃ g, g < a ∧ z.A 42 a = nI g) ∧ (∀ g, g < 60 → ∃ c, c < 60 ∧ z.A 46 g = nI c) ∧ (∀ a, a < n → z.A 40 a = 1 → 0 < a ∧ ∃ p, p < 60 ∧ z.A 47 a = nI p) ∧ (∀ g k c, g < n → z.A 46 g = nI c → c < 60 → k < c → ∃ b, b < n ∧ z.A 45 (60 * g + k) = nI b)
def nxt (z : Sg) (a : Nat) : Int32 := lgt z (z.A 42 a) (z.A 47 a)
theorem nxt_ok {z : Sg} {n a : Nat} (h : mtOK z n) (ha : a < n) (hk : z.A 40 a = 1) : vp_in (z.A 42 a) 60 ∧ (¬ z.A 46 (z.A 42 a).toNatClampNeg ≤ z.A 47 a → vp_in (60 * z.A 42 a + z.A 47 a) 3600) ∧ (nxt z a = -1 ∨ ∃ b, b < n ∧ nxt z a = nI b) := by
  obtain ⟨h1, h2, h3, h4, h5, h6, h7⟩ := h
  obtain ⟨ha0, p, hp1, hp2⟩ := h6 a ha hk
  obtain ⟨g, hg1, hg2⟩ := h4 a ha0 ha
  obtain ⟨c, hc1, hc2⟩ := h5 g (by omega)
  have hgc : (nI g).toNatClampNeg = g := nI_clamp (by omega)
  have he : (60 : Int32) * nI g + nI p = nI (60 * g + p) := by rw [show (60 : Int32) = nI 60 from rfl, pk_mul, nI_add]
  refine ⟨by rw [hg2]; exact vp_in_nI (by omega) (by omega), fun _ => by rw [hg2, hp2, he]; exact vp_in_nI (by omega) (by omega), ?_⟩
  unfold nxt lgt
  rw [hg2, hp2, hgc, hc2, he, nI_clamp (by omega)]
  by_cases h9 : nI c ≤ nI p
  · exact Or.inl (if_pos h9)
  · rw [if_neg h9]
    have hlt : p < c := by
      rcases Nat.lt_or_ge p c with h8 | h8
      · exact h8
      · exact absurd (nI_le h8 (by omega)) h9
    obtain ⟨b, hb1, hb2⟩ := h7 g p c (by omega) hc2 hc1 hlt
    exact Or.inr ⟨b, hb1, hb2⟩
abbrev arC (z : Sg) (one other : Int32) (a : Nat) : Prop := z.A 40 a = 1 ∧ (z.A 41 a = one ∨ z.A 41 a = other) ∧ ¬ nxt z a = -1 ∧ z.A 40 (nxt z a).toNatClampNeg = 1 ∧ z.A 41 (nxt z a).toNatClampNeg = (if z.A 41 a = one then other else one)
def arn (z : Sg) (one other : Int32) : Nat → Nat → Bool
  | 0, _ => false
  | m + 1, a => if arC z one other a then true else arn z one other m (a + 1)
theorem l_arn {z : Sg} {n : Nat} (h : mtOK z n) (one other : Int32) : ∀ (m a : Nat), a + m = n → E mMod_areNear 1 0 0 2 [(0, .ref 39), (1, .int one), (2, .int other), (3, .int (nI a))] [] (hp z) (Det (some (.int (b2i (arn z one other m a = true)))) (hp z)) := by
  have hn := h.2.2.1
  intro m
  induction m with
  | zero =>
    intro a ha
    refine E_iload_n dX11_areNear_2 rfl ?_
    refine E_aload_n dX11_areNear_3 rfl ?_
    refine E_getf 5 dX11_areNear_4 fl_X11_22 (by decide) (hg_39 _) rfl ?_
    rw [h.1]
    refine E_icmp_ge 110 dX11_areNear_7 (by decide) (fun c_7 => ?_) (fun c_7 => ?_)
    · refine E_iconst (v := 0) dX11_areNear_110 rfl ?_
      exact E_iret dX11_areNear_111 rfl rfl ⟨si_f (by rw [arn]; decide), rfl⟩
    · exact absurd (nI_le (by omega) (by omega)) c_7
  | succ m ih =>
    intro a ha
    have hca : (nI a).toNatClampNeg = a := nI_clamp (by omega)
    have step : ¬ arC z one other a → E mMod_areNear 1 0 0 104 [(0, .ref 39), (1, .int one), (2, .int other), (3, .int (nI a))] [] (hp z) (Det (some (.int (b2i (arn z one other (m + 1) a = true)))) (hp z)) := by
      intro hc
      refine E_iincL 1 dX11_areNear_104 rfl rfl (by decide) rfl ?_
      rw [nI_1]
      refine E_goto 2 dX11_areNear_107 (by decide) ?_
      refine E.pick [1, 2, 3, 0] rfl ?_
      rw [arn, if_neg hc]
      exact ih (a + 1) (by omega)
    have mid : z.A 40 a = 1 → (z.A 41 a = one ∨ z.A 41 a = other) → E mMod_areNear 1 0 0 43 [(0, .ref 39), (1, .int one), (2, .int other), (3, .int (nI a))] [] (hp z) (Det (some (.int (b2i (arn z one other (m + 1) a = true)))) (hp z)) := by
      intro hk hv
      obtain ⟨hi1, hi2, hi3⟩ := nxt_ok h (by omega) hk
      have hpl := c_Mod_placeOf z (nI a) (vp_in_nI (by omega) (by omega))
      rw [hca] at hpl
      have hlg := c_light z (z.A 42 a) (z.A 47 a) hi1 hi2
      rw [show lgt z (z.A 42 a) (z.A 47 a) = nxt z a from rfl] at hlg
      refine E_aload_n dX11_areNear_43 rfl ?_
      refine E_aload_n dX11_areNear_44 rfl ?_
      refine E_getf 3 dX11_areNear_45 fl_X11_16 (by decide) (hg_39 _) rfl ?_
      refine E_iload_n dX11_areNear_48 rfl ?_
      refine E_iald dX11_areNear_49 (by decide) (hg_42 _) (vp_in_nI (by omega) (by omega)) ?_
      rw [hca]
      refine E_aload_n dX11_areNear_50 rfl ?_
      refine E_iload_n dX11_areNear_51 rfl ?_
      refine E_V1 dX11_areNear_52 cv_X11_135 (by decide) (hg_39 _) rfl rfl (Nat.le_of_ble_eq_true rfl) (Nat.le_of_ble_eq_true rfl) (hpl) (by decide) (Nat.zero_le _) (Nat.zero_le _) ?_
      refine E_V2 dX11_areNear_55 cv_X11_146 (by decide) (hg_39 _) rfl rfl (Nat.le_of_ble_eq_true rfl) (Nat.le_of_ble_eq_true rfl) (hlg) (by decide) (Nat.zero_le _) (Nat.zero_le _) ?_
      refine E_istore dX11_areNear_58 (by decide) rfl ?_
      refine E_iload dX11_areNear_60 rfl ?_
      refine E_iconst (v := (-1)) dX11_areNear_62 rfl ?_
      refine E_icmp_eq 104 dX11_areNear_63 (by decide) (fun c_63 => ?_) (fun c_63 => ?_)
      · refine E.pick [1, 2, 3, 4] rfl ?_
        first | exact step (fun h9 => h9.2.2.1 c_63) | exact step (fun h9 => c_74 h9.2.2.2.1) | exact step (fun h9 => c_99 (by have h8 := h9.2.2.2.2; rw [if_pos c_91] at h8; exact h8)) | exact step (fun h9 => c_99 (by have h8 := h9.2.2.2.2; rw [if_neg c_91] at h8; exact h8))
      · obtain ⟨b, hb1, hb2⟩ : ∃ b, b < n ∧ nxt z a = nI b := hi3.elim (fun h9 => absurd h9 c_63) id
        refine E_aload_n dX11_areNear_66 rfl ?_
        refine E_getf 1 dX11_areNear_67 fl_X11_9 (by decide) (hg_39 _) rfl ?_
        refine E_iload dX11_areNear_70 rfl ?_
        refine E_iald dX11_areNear_72 (by decide) (hg_40 _) (by rw [hb2]; exact vp_in_nI (by omega) (by omega)) ?_
        refine E_iconst (v := 1) dX11_areNear_73 rfl ?_
        refine E_icmp_ne 104 dX11_areNear_74 (by decide) (fun c_74 => ?_) (fun c_74 => ?_)
        · refine E.pick [1, 2, 3, 4] rfl ?_
          first | exact step (fun h9 => h9.2.2.1 c_63) | exact step (fun h9 => c_74 h9.2.2.2.1) | exact step (fun h9 => c_99 (by have h8 := h9.2.2.2.2; rw [if_pos c_91] at h8; exact h8)) | exact step (fun h9 => c_99 (by have h8 := h9.2.2.2.2; rw [if_neg c_91] at h8; exact h8))
        · refine E_aload_n dX11_areNear_77 rfl ?_
          refine E_getf 2 dX11_areNear_78 fl_X11_13 (by decide) (hg_39 _) rfl ?_
          refine E_iload dX11_areNear_81 rfl ?_
          refine E_iald dX11_areNear_83 (by decide) (hg_41 _) (by rw [hb2]; exact vp_in_nI (by omega) (by omega)) ?_
          refine E_aload_n dX11_areNear_84 rfl ?_
          refine E_getf 2 dX11_areNear_85 fl_X11_13 (by decide) (hg_39 _) rfl ?_
          refine E_iload_n dX11_areNear_88 rfl ?_
          refine E_iald dX11_areNear_89 (by decide) (hg_41 _) (vp_in_nI (by omega) (by omega)) ?_
          rw [hca]
          refine E_iload_n dX11_areNear_90 rfl ?_
          refine E_icmp_ne 98 dX11_areNear_91 (by decide) (fun c_91 => ?_) (fun c_91 => ?_)
          · refine E_iload_n dX11_areNear_98 rfl ?_
            refine E_icmp_ne 104 dX11_areNear_99 (by decide) (fun c_99 => ?_) (fun c_99 => ?_)
            · refine E.pick [1, 2, 3, 4] rfl ?_
              first | exact step (fun h9 => h9.2.2.1 c_63) | exact step (fun h9 => c_74 h9.2.2.2.1) | exact step (fun h9 => c_99 (by have h8 := h9.2.2.2.2; rw [if_pos c_91] at h8; exact h8)) | exact step (fun h9 => c_99 (by have h8 := h9.2.2.2.2; rw [if_neg c_91] at h8; exact h8))
            · refine E_iconst (v := 1) dX11_areNear_102 rfl ?_
              exact E_iret dX11_areNear_103 rfl rfl ⟨si_t (by first | rw [arn, if_pos (show arC z one other a from ⟨hk, hv, c_63, c_74, by rw [if_pos c_91]; exact c_99⟩)] | rw [arn, if_pos (show arC z one other a from ⟨hk, hv, c_63, c_74, by rw [if_neg c_91]; exact c_99⟩)]), rfl⟩
          · refine E_iload_n dX11_areNear_94 rfl ?_
            refine E_goto 99 dX11_areNear_95 (by decide) ?_
            refine E_icmp_ne 104 dX11_areNear_99 (by decide) (fun c_99 => ?_) (fun c_99 => ?_)
            · refine E.pick [1, 2, 3, 4] rfl ?_
              first | exact step (fun h9 => h9.2.2.1 c_63) | exact step (fun h9 => c_74 h9.2.2.2.1) | exact step (fun h9 => c_99 (by have h8 := h9.2.2.2.2; rw [if_pos c_91] at h8; exact h8)) | exact step (fun h9 => c_99 (by have h8 := h9.2.2.2.2; rw [if_neg c_91] at h8; exact h8))
            · refine E_iconst (v := 1) dX11_areNear_102 rfl ?_
              exact E_iret dX11_areNear_103 rfl rfl ⟨si_t (by first | rw [arn, if_pos (show arC z one other a from ⟨hk, hv, c_63, c_74, by rw [if_pos c_91]; exact c_99⟩)] | rw [arn, if_pos (show arC z one other a from ⟨hk, hv, c_63, c_74, by rw [if_neg c_91]; exact c_99⟩)]), rfl⟩
    refine E_iload_n dX11_areNear_2 rfl ?_
    refine E_aload_n dX11_areNear_3 rfl ?_
    refine E_getf 5 dX11_areNear_4 fl_X11_22 (by decide) (hg_39 _) rfl ?_
    rw [h.1]
    refine E_icmp_ge 110 dX11_areNear_7 (by decide) (fun c_7 => ?_) (fun c_7 => ?_)
    · exact absurd c_7 (nI_ge (by omega) (by omega))
    · refine E_aload_n dX11_areNear_10 rfl ?_
      refine E_getf 1 dX11_areNear_11 fl_X11_9 (by decide) (hg_39 _) rfl ?_
      refine E_iload_n dX11_areNear_14 rfl ?_
      refine E_iald dX11_areNear_15 (by decide) (hg_40 _) (vp_in_nI (by omega) (by omega)) ?_
      rw [hca]
      refine E_iconst (v := 1) dX11_areNear_16 rfl ?_
      refine E_icmp_ne 104 dX11_areNear_17 (by decide) (fun c_17 => ?_) (fun c_17 => ?_)
      · first | exact step (fun h9 => c_17 h9.1) | exact step (fun h9 => h9.2.1.elim c_27 c_37)
      · refine E_aload_n dX11_areNear_20 rfl ?_
        refine E_getf 2 dX11_areNear_21 fl_X11_13 (by decide) (hg_39 _) rfl ?_
        refine E_iload_n dX11_areNear_24 rfl ?_
        refine E_iald dX11_areNear_25 (by decide) (hg_41 _) (vp_in_nI (by omega) (by omega)) ?_
        rw [hca]
        refine E_iload_n dX11_areNear_26 rfl ?_
        refine E_icmp_eq 43 dX11_areNear_27 (by decide) (fun c_27 => ?_) (fun c_27 => ?_)
        · first | exact mid c_17 (Or.inl c_27) | exact mid c_17 (Or.inr c_37)
        · refine E_aload_n dX11_areNear_30 rfl ?_
          refine E_getf 2 dX11_areNear_31 fl_X11_13 (by decide) (hg_39 _) rfl ?_
          refine E_iload_n dX11_areNear_34 rfl ?_
          refine E_iald dX11_areNear_35 (by decide) (hg_41 _) (vp_in_nI (by omega) (by omega)) ?_
          rw [hca]
          refine E_iload_n dX11_areNear_36 rfl ?_
          refine E_icmp_eq 43 dX11_areNear_37 (by decide) (fun c_37 => ?_) (fun c_37 => ?_)
          · first | exact mid c_17 (Or.inl c_27) | exact mid c_17 (Or.inr c_37)
          · refine E_goto 104 dX11_areNear_40 (by decide) ?_
            first | exact step (fun h9 => c_17 h9.1) | exact step (fun h9 => h9.2.1.elim c_27 c_37)
theorem c_areNear {z : Sg} {n : Nat} (h : mtOK z n) (one other : Int32) : EM mMod_areNear 1 0 0 [.ref 39, .int one, .int other] (hp z) (Det (some (.int (b2i (arn z one other n 0 = true)))) (hp z)) := by
  refine E_iconst (v := 0) dX11_areNear_0 rfl ?_
  refine E_istore_n dX11_areNear_1 (by decide) rfl ?_
  refine E.pick [1, 2, 3, 0] rfl ?_
  exact l_arn h one other n 0 (by omega)
theorem arn_F (z : Sg) (i j : Nat) (w : Int32) (one other : Int32) : ∀ (m a : Nat), arn (stF z i j w) one other m a = arn z one other m a
  | 0, _ => rfl
  | m + 1, a => by
    rw [arn, arn, arn_F z i j w one other m (a + 1)]
    rfl
theorem c_Mod_near {z : Sg} {n : Nat} (h : mtOK z n) (x v : Int32) : EM mMod_near 2 0 0 [.ref 39, .int x, .int v] (hp z) (Det (some (.int (if isL x ∧ isL v then b2i (arn z x v n 0 = true) else (-1)))) (hp (stF z 39 0 0))) := by
  have hn := c_areNear (z := stF z 39 0 0) h x v
  rw [arn_F] at hn
  refine E_aload_n dX11_near_0 rfl ?_
  refine E_iconst (v := 0) dX11_near_1 rfl ?_
  refine E_put 0 dX11_near_2 fp_X11_98 (fitsV_int _) (by decide) (hg_39 _) (Nat.le_of_ble_eq_true rfl) ?_
  rw [hs_39_0]
  refine E_iload_n dX11_near_5 rfl ?_
  refine E_S1 dX11_near_6 cs_X11_124 (Nat.le_of_ble_eq_true rfl) (Nat.le_of_ble_eq_true rfl) (c_isSmall _ x) (by decide) (Nat.zero_le _) (Nat.zero_le _) ?_
  refine E_if_eq 36 dX11_near_9 (by decide) (fun c_9 => ?_) (fun c_9 => ?_)
  · refine E_iconst (v := (-1)) dX11_near_36 rfl ?_
    exact E_iret dX11_near_37 rfl rfl (by first | exact ⟨by rw [if_neg (fun h => b2i_e0 c_9 h.1)], rfl⟩ | exact ⟨by rw [if_neg (fun h => b2i_e0 c_16 h.2)], rfl⟩ | exact ⟨by rw [if_pos ⟨b2i_ne c_9, b2i_ne c_16⟩]; exact si_f (b2i_e0 c_25), rfl⟩ | exact ⟨by rw [if_pos ⟨b2i_ne c_9, b2i_ne c_16⟩]; exact si_t (b2i_ne c_25), rfl⟩)
  · refine E_iload_n dX11_near_12 rfl ?_
    refine E_S1 dX11_near_13 cs_X11_124 (Nat.le_of_ble_eq_true rfl) (Nat.le_of_ble_eq_true rfl) (c_isSmall _ v) (by decide) (Nat.zero_le _) (Nat.zero_le _) ?_
    refine E_if_eq 36 dX11_near_16 (by decide) (fun c_16 => ?_) (fun c_16 => ?_)
    · refine E_iconst (v := (-1)) dX11_near_36 rfl ?_
      exact E_iret dX11_near_37 rfl rfl (by first | exact ⟨by rw [if_neg (fun h => b2i_e0 c_9 h.1)], rfl⟩ | exact ⟨by rw [if_neg (fun h => b2i_e0 c_16 h.2)], rfl⟩ | exact ⟨by rw [if_pos ⟨b2i_ne c_9, b2i_ne c_16⟩]; exact si_f (b2i_e0 c_25), rfl⟩ | exact ⟨by rw [if_pos ⟨b2i_ne c_9, b2i_ne c_16⟩]; exact si_t (b2i_ne c_25), rfl⟩)
    · refine E_aload_n dX11_near_19 rfl ?_
      refine E_iload_n dX11_near_20 rfl ?_
      refine E_iload_n dX11_near_21 rfl ?_
      refine E_V2 dX11_near_22 cv_X11_200 (by decide) (hg_39 _) rfl rfl (Nat.le_of_ble_eq_true rfl) (Nat.le_of_ble_eq_true rfl) (hn) (by decide) (Nat.zero_le _) (Nat.zero_le _) ?_
      refine E_if_eq 32 dX11_near_25 (by decide) (fun c_25 => ?_) (fun c_25 => ?_)
      · refine E_iconst (v := 0) dX11_near_32 rfl ?_
        refine E_goto 37 dX11_near_33 (by decide) ?_
        exact E_iret dX11_near_37 rfl rfl (by first | exact ⟨by rw [if_neg (fun h => b2i_e0 c_9 h.1)], rfl⟩ | exact ⟨by rw [if_neg (fun h => b2i_e0 c_16 h.2)], rfl⟩ | exact ⟨by rw [if_pos ⟨b2i_ne c_9, b2i_ne c_16⟩]; exact si_f (b2i_e0 c_25), rfl⟩ | exact ⟨by rw [if_pos ⟨b2i_ne c_9, b2i_ne c_16⟩]; exact si_t (b2i_ne c_25), rfl⟩)
      · refine E_iconst (v := 1) dX11_near_28 rfl ?_
        refine E_goto 37 dX11_near_29 (by decide) ?_
        exact E_iret dX11_near_37 rfl rfl (by first | exact ⟨by rw [if_neg (fun h => b2i_e0 c_9 h.1)], rfl⟩ | exact ⟨by rw [if_neg (fun h => b2i_e0 c_16 h.2)], rfl⟩ | exact ⟨by rw [if_pos ⟨b2i_ne c_9, b2i_ne c_16⟩]; exact si_f (b2i_e0 c_25), rfl⟩ | exact ⟨by rw [if_pos ⟨b2i_ne c_9, b2i_ne c_16⟩]; exact si_t (b2i_ne c_25), rfl⟩)
theorem c_Mod_share (z : Sg) (x v : Int32) : EM mMod_share 1 0 0 [.ref 39, .int x, .int v] (hp z) (Det (some (.int (b2i (shareOK x v)))) (hp (if shareOK x v then stA (stF z 39 0 0) 59 (upd (z.A 59) (x - 97).toNatClampNeg v) else stF z 39 0 0))) := by
  refine E_aload_n dX11_share_0 rfl ?_
  refine E_iconst (v := 0) dX11_share_1 rfl ?_
  refine E_put 0 dX11_share_2 fp_X11_98 (fitsV_int _) (by decide) (hg_39 _) (Nat.le_of_ble_eq_true rfl) ?_
  rw [hs_39_0]
  refine E_iload_n dX11_share_5 rfl ?_
  refine E_S1 dX11_share_6 cs_X11_124 (Nat.le_of_ble_eq_true rfl) (Nat.le_of_ble_eq_true rfl) (c_isSmall _ x) (by decide) (Nat.zero_le _) (Nat.zero_le _) ?_
  refine E_if_eq 23 dX11_share_9 (by decide) (fun c_9 => ?_) (fun c_9 => ?_)
  · refine E_iconst (v := 0) dX11_share_23 rfl ?_
    exact E_iret dX11_share_24 rfl rfl (by first | exact det_f (fun h => b2i_e0 c_9 h.1) | exact det_f (fun h => b2i_e0 c_20 h.2))
  · refine E_iload_n dX11_share_12 rfl ?_
    refine E_iconst (v := 0) dX11_share_13 rfl ?_
    refine E_sipush (v := 1000) dX11_share_14 rfl ?_
    refine E_S3 dX11_share_17 cs_X11_120 (Nat.le_of_ble_eq_true rfl) (Nat.le_of_ble_eq_true rfl) (c_isIn _ v 0 1000) (by decide) (Nat.zero_le _) (Nat.zero_le _) ?_
    refine E_if_ne 25 dX11_share_20 (by decide) (fun c_20 => ?_) (fun c_20 => ?_)
    · refine E_aload_n dX11_share_25 rfl ?_
      refine E_getf 34 dX11_share_26 fl_X11_82 (by decide) (hg_39 _) rfl ?_
      refine E_iload_n dX11_share_29 rfl ?_
      refine E_bipush (v := 97) dX11_share_30 rfl ?_
      refine E_isub dX11_share_32 ?_
      refine E_iload_n dX11_share_33 rfl ?_
      refine E_iast (f := z.A 59) dX11_share_34 (by decide) (hg_59 _) (letter_in (b2i_ne c_9)) ?_
      rw [hs_59]
      refine E_iconst (v := 1) dX11_share_35 rfl ?_
      exact E_iret dX11_share_36 rfl rfl (det_t ⟨b2i_ne c_9, b2i_ne c_20⟩)
    · refine E_iconst (v := 0) dX11_share_23 rfl ?_
      exact E_iret dX11_share_24 rfl rfl (by first | exact det_f (fun h => b2i_e0 c_9 h.1) | exact det_f (fun h => b2i_e0 c_20 h.2))
def mct (z : Sg) : Nat → Int32 → Nat → Int32
  | 0, s, _ => s
  | m + 1, s, x => if x = 0 then s else mct z m (s + (z.A 43 0 * z.A 47 x + z.A 43 4)) (z.A 42 x).toNatClampNeg
/-- groups alone -/
def grOK (z : Sg) (n : Nat) : Prop := n ≤ 60 ∧ ∀ a, 0 < a → a < n → ∃ g, g < a ∧ z.A 42 a = nI g
theorem l_mct {z : Sg} {n : Nat} (h : grOK z n) (nd : Int32) : ∀ (m x : Nat) (s : Int32), x < n → x < m → E mMod_costOf 1 0 0 4 [(0, .ref 39), (1, .int nd), (2, .int s), (3, .int (nI x))] [] (hp z) (Det (some (.int (mct z m s x))) (hp z)) := by
  have hn := h.1
  intro m
  induction m with
  | zero => intro x s hx hm; exact absurd hm (by omega)
  | succ m ih =>
    intro x s hx hm
    have hcx : (nI x).toNatClampNeg = x := nI_clamp (by omega)
    have hpl := c_Mod_placeOf z (nI x) (vp_in_nI (by omega) (by omega))
    rw [hcx] at hpl
    refine E_iload_n dX11_costOf_4 rfl ?_
    refine E_if_eq 40 dX11_costOf_5 (by decide) (fun c_5 => ?_) (fun c_5 => ?_)
    · refine E_iload_n dX11_costOf_40 rfl ?_
      exact E_iret dX11_costOf_41 rfl rfl ⟨by rw [mct, if_pos (show x = 0 by rcases Nat.eq_zero_or_pos x with h9 | h9; exact h9; exact absurd c_5 (nI_ne0 h9 (by omega)))], rfl⟩
    · refine E_iload_n dX11_costOf_8 rfl ?_
      refine E_aload_n dX11_costOf_9 rfl ?_
      refine E_getf 4 dX11_costOf_10 fl_X11_19 (by decide) (hg_39 _) rfl ?_
      refine E_iconst (v := 0) dX11_costOf_13 rfl ?_
      refine E_iald dX11_costOf_14 (by decide) (hg_43 _) (vp_in_nI (n := 0) (by decide) (by decide)) ?_
      refine E_aload_n dX11_costOf_15 rfl ?_
      refine E_iload_n dX11_costOf_16 rfl ?_
      refine E_V1 dX11_costOf_17 cv_X11_135 (by decide) (hg_39 _) rfl rfl (Nat.le_of_ble_eq_true rfl) (Nat.le_of_ble_eq_true rfl) (hpl) (by decide) (Nat.zero_le _) (Nat.zero_le _) ?_
      refine E_imul dX11_costOf_20 ?_
      refine E_aload_n dX11_costOf_21 rfl ?_
      refine E_getf 4 dX11_costOf_22 fl_X11_19 (by decide) (hg_39 _) rfl ?_
      refine E_iconst (v := 4) dX11_costOf_25 rfl ?_
      refine E_iald dX11_costOf_26 (by decide) (hg_43 _) (vp_in_nI (n := 4) (by decide) (by decide)) ?_
      refine E_iadd dX11_costOf_27 ?_
      refine E_iadd dX11_costOf_28 ?_
      refine E_istore_n dX11_costOf_29 (by decide) rfl ?_
      refine E_aload_n dX11_costOf_30 rfl ?_
      refine E_getf 3 dX11_costOf_31 fl_X11_16 (by decide) (hg_39 _) rfl ?_
      refine E_iload_n dX11_costOf_34 rfl ?_
      refine E_iald dX11_costOf_35 (by decide) (hg_42 _) (vp_in_nI (by omega) (by omega)) ?_
      have hx0 : 0 < x := by
        rcases Nat.eq_zero_or_pos x with h9 | h9
        · exact absurd (by rw [h9]; rfl) c_5
        · exact h9
      obtain ⟨g, hg1, hg2⟩ := h.2 x hx0 hx
      rw [hcx, hg2]
      refine E_istore_n dX11_costOf_36 (by decide) rfl ?_
      refine E_goto 4 dX11_costOf_37 (by decide) ?_
      refine E.pick [2, 3, 1, 0] rfl ?_
      rw [mct, if_neg (by omega), hg2, nI_clamp (by omega)]
      exact ih g _ (by omega) (by omega)
theorem c_Mod_costOf {z : Sg} {n : Nat} (h : grOK z n) (x : Nat) (hx : x < n) : EM mMod_costOf 1 0 0 [.ref 39, .int (nI x)] (hp z) (Det (some (.int (mct z 60 0 x))) (hp z)) := by
  have hn := h.1
  refine E_iconst (v := 0) dX11_costOf_0 rfl ?_
  refine E_istore_n dX11_costOf_1 (by decide) rfl ?_
  refine E_iload_n dX11_costOf_2 rfl ?_
  refine E_istore_n dX11_costOf_3 (by decide) rfl ?_
  refine E.pick [2, 3, 1, 0] rfl ?_
  exact l_mct h (nI x) 60 x 0 hx (by omega)
theorem mct_F (z : Sg) (i j : Nat) (w : Int32) : ∀ (m : Nat) (s : Int32) (x : Nat), mct (stF z i j w) m s x = mct z m s x
  | 0, _, _ => rfl
  | m + 1, s, x => by
    rw [mct, mct, mct_F z i j w m]
    rfl
theorem c_hasKey (z : Sg) (x : Int32) (hx : vp_in x 60) (hb : z.A 44 x.toNatClampNeg = 0 ∨ z.A 44 x.toNatClampNeg = 1) : EM mMod_hasKey 0 0 0 [.ref 39, .int x] (hp z) (Det (some (.int (z.A 44 x.toNatClampNeg))) (hp z)) := by
  refine E_aload_n dX11_hasKey_0 rfl ?_
  refine E_getf 6 dX11_hasKey_1 fl_X11_26 (by decide) (hg_39 _) rfl ?_
  refine E_iload_n dX11_hasKey_4 rfl ?_
  refine E_zald dX11_hasKey_5 (by decide) (hg_44 _) (hx) ?_
  exact E_iret dX11_hasKey_6 rfl (by rcases hb with h9 | h9 <;> rw [h9] <;> rfl) ⟨rfl, rfl⟩
abbrev coOK (z : Sg) (x : Int32) : Prop := ltN x (z.F 39 5) ∧ ¬ x = 0 ∧ ¬ z.A 44 x.toNatClampNeg = 0
theorem c_Mod_cost {z : Sg} {n : Nat} (h : grOK z n) (hF : z.F 39 5 = nI n) (hb : ∀ a, a < n → z.A 44 a = 0 ∨ z.A 44 a = 1) (x : Int32) : EM mMod_cost 2 0 0 [.ref 39, .int x] (hp z) (Det (some (.int (if coOK z x then mct z 60 0 x.toNatClampNeg else (-1)))) (hp (stF z 39 0 0))) := by
  have hn := h.1
  have hs : (z.F 39 5).toInt ≤ 60 := by rw [hF, nI_toInt (by omega)]; omega
  have gx : ltN x (z.F 39 5) → ∃ a, a < n ∧ x = nI a := by
    intro hx
    have h2 := hx.2
    rw [hF, nI_toInt (by omega)] at h2
    have h1 := hx.1
    exact ⟨x.toInt.toNat, by omega, by apply Int32.toInt_inj.mp; rw [nI_toInt (by omega)]; omega⟩
  refine E_aload_n dX11_cost_0 rfl ?_
  refine E_iconst (v := 0) dX11_cost_1 rfl ?_
  refine E_put 0 dX11_cost_2 fp_X11_98 (fitsV_int _) (by decide) (hg_39 _) (Nat.le_of_ble_eq_true rfl) ?_
  rw [hs_39_0]
  refine E_aload_n dX11_cost_5 rfl ?_
  refine E_iload_n dX11_cost_6 rfl ?_
  refine E_V1 (r := some (.int (b2i (ltN x (z.F 39 5))))) dX11_cost_7 cv_X11_116 (by decide) (hg_39 _) rfl rfl (Nat.le_of_ble_eq_true rfl) (Nat.le_of_ble_eq_true rfl) (c_isNode _ x) (by decide) (Nat.zero_le _) (Nat.zero_le _) ?_
  refine E_if_eq 33 dX11_cost_10 (by decide) (fun c_10 => ?_) (fun c_10 => ?_)
  · refine E_iconst (v := (-1)) dX11_cost_33 rfl ?_
    exact E_iret dX11_cost_34 rfl rfl (by first | exact ⟨by rw [if_neg (fun h : coOK z x => b2i_e0 c_10 h.1)], rfl⟩ | exact ⟨by rw [if_neg (fun h : coOK z (nI a) => h.2.1 c_14)], rfl⟩ | exact ⟨by rw [if_neg (fun h : coOK z (nI a) => h.2.2 c_22)], rfl⟩ | exact ⟨by rw [if_pos (show coOK z (nI a) from ⟨b2i_ne c_10, c_14, c_22⟩), hca], rfl⟩)
  · obtain ⟨a, ha, rfl⟩ := gx (b2i_ne c_10)
    have hca : (nI a).toNatClampNeg = a := nI_clamp (by omega)
    have hk := c_hasKey (stF z 39 0 0) (nI a) (vp_in_nI (by omega) (by omega)) (by rw [hca]; exact hb a ha)
    have hco := c_Mod_costOf (z := stF z 39 0 0) h a ha
    rw [mct_F] at hco
    refine E_iload_n dX11_cost_13 rfl ?_
    refine E_if_eq 33 dX11_cost_14 (by decide) (fun c_14 => ?_) (fun c_14 => ?_)
    · refine E_iconst (v := (-1)) dX11_cost_33 rfl ?_
      exact E_iret dX11_cost_34 rfl rfl (by first | exact ⟨by rw [if_neg (fun h : coOK z x => b2i_e0 c_10 h.1)], rfl⟩ | exact ⟨by rw [if_neg (fun h : coOK z (nI a) => h.2.1 c_14)], rfl⟩ | exact ⟨by rw [if_neg (fun h : coOK z (nI a) => h.2.2 c_22)], rfl⟩ | exact ⟨by rw [if_pos (show coOK z (nI a) from ⟨b2i_ne c_10, c_14, c_22⟩), hca], rfl⟩)
    · refine E_aload_n dX11_cost_17 rfl ?_
      refine E_iload_n dX11_cost_18 rfl ?_
      refine E_V1 (r := some (.int (z.A 44 (nI a).toNatClampNeg))) dX11_cost_19 cv_X11_204 (by decide) (hg_39 _) rfl rfl (Nat.le_of_ble_eq_true rfl) (Nat.le_of_ble_eq_true rfl) (hk) (by decide) (Nat.zero_le _) (Nat.zero_le _) ?_
      refine E_if_eq 33 dX11_cost_22 (by decide) (fun c_22 => ?_) (fun c_22 => ?_)
      · refine E_iconst (v := (-1)) dX11_cost_33 rfl ?_
        exact E_iret dX11_cost_34 rfl rfl (by first | exact ⟨by rw [if_neg (fun h : coOK z x => b2i_e0 c_10 h.1)], rfl⟩ | exact ⟨by rw [if_neg (fun h : coOK z (nI a) => h.2.1 c_14)], rfl⟩ | exact ⟨by rw [if_neg (fun h : coOK z (nI a) => h.2.2 c_22)], rfl⟩ | exact ⟨by rw [if_pos (show coOK z (nI a) from ⟨b2i_ne c_10, c_14, c_22⟩), hca], rfl⟩)
      · refine E_aload_n dX11_cost_25 rfl ?_
        refine E_iload_n dX11_cost_26 rfl ?_
        refine E_V1 dX11_cost_27 cv_X11_207 (by decide) (hg_39 _) rfl rfl (Nat.le_of_ble_eq_true rfl) (Nat.le_of_ble_eq_true rfl) (hco) (by decide) (Nat.zero_le _) (Nat.zero_le _) ?_
        refine E_goto 34 dX11_cost_30 (by decide) ?_
        exact E_iret dX11_cost_34 rfl rfl (by first | exact ⟨by rw [if_neg (fun h : coOK z x => b2i_e0 c_10 h.1)], rfl⟩ | exact ⟨by rw [if_neg (fun h : coOK z (nI a) => h.2.1 c_14)], rfl⟩ | exact ⟨by rw [if_neg (fun h : coOK z (nI a) => h.2.2 c_22)], rfl⟩ | exact ⟨by rw [if_pos (show coOK z (nI a) from ⟨b2i_ne c_10, c_14, c_22⟩), hca], rfl⟩)
