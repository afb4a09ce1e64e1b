/-! THE MODEL: offeredAt, foreseen, offered, count -/
def oin (z : Sg) (t q W nn : Nat) : Nat → Nat → Nat → Bool → Nat × Bool
  | 0, _, u, b => (u, b)
  | m + 1, i, u, b => if z.A 55 (12 * W + i) = z.A 48 (t - q + i) then oin z t q W nn m (i + 1) u b else oin z t q W nn m (i + 1) (u + 1) (b && arn z (z.A 55 (12 * W + i)) (z.A 48 (t - q + i)) nn 0)
theorem oin_le (z : Sg) (t q W nn : Nat) : ∀ (m i u : Nat) (b : Bool), (oin z t q W nn m i u b).1 ≤ u + m
  | 0, _, u, _ => Nat.le_refl u
  | m + 1, i, u, b => by
    rw [oin]
    split
    · have := oin_le z t q W nn m (i + 1) u b
      omega
    · have := oin_le z t q W nn m (i + 1) (u + 1) (b && arn z (z.A 55 (12 * W + i)) (z.A 48 (t - q + i)) nn 0)
      omega
theorem l_oin {z : Sg} {t q W nn : Nat} (hx : txOK z t) (hT : mtOK z nn) (hq : q ≤ t) (hW : W < 40) (hq12 : q ≤ 12) (k th : Int32) (Q : Option Value → HP → Prop) (r : Nat × Bool) (K : E mMod_offeredAt 2 0 0 137 [(0, .ref 39), (1, .int k), (2, .int (nI q)), (3, .int th), (4, .int (nI W)), (5, .int (nI r.1)), (6, .int (b2i (r.2 = true)))] [] (hp z) Q) : ∀ (m i u : Nat) (b : Bool), i + m = q → u ≤ i → oin z t q W nn m i u b = r → E mMod_offeredAt 2 0 0 58 [(0, .ref 39), (1, .int k), (2, .int (nI q)), (3, .int th), (4, .int (nI W)), (5, .int (nI u)), (6, .int (b2i (b = true))), (7, .int (nI i))] [] (hp z) Q := by
  obtain ⟨hF, ht⟩ := hx
  intro m
  induction m with
  | zero =>
    intro i u b hi hu hr
    rw [oin] at hr
    subst hr
    refine E_iload dX11_offeredAt_58 rfl ?_
    refine E_iload_n dX11_offeredAt_60 rfl ?_
    refine E_icmp_ge 137 dX11_offeredAt_61 (by decide) (fun c_61 => ?_) (fun c_61 => ?_)
    · refine E.pick [0, 1, 2, 3, 4, 5, 6] rfl ?_
      exact K
    · exact absurd (nI_le (by omega) (by omega)) c_61
  | succ m ih =>
    intro i u b hi hu hr
    rw [oin] at hr
    have he : (12 : Int32) * nI W + nI i = nI (12 * W + i) := by rw [show (12 : Int32) = nI 12 from rfl, pk_mul, nI_add]
    refine E_iload dX11_offeredAt_58 rfl ?_
    refine E_iload_n dX11_offeredAt_60 rfl ?_
    refine E_icmp_ge 137 dX11_offeredAt_61 (by decide) (fun c_61 => ?_) (fun c_61 => ?_)
    · exact absurd c_61 (nI_ge (by omega) (by omega))
    · refine E_aload_n dX11_offeredAt_64 rfl ?_
      refine E_getf 28 dX11_offeredAt_65 fl_X11_70 (by decide) (hg_39 _) rfl ?_
      refine E_bipush (v := 12) dX11_offeredAt_68 rfl ?_
      refine E_iload dX11_offeredAt_70 rfl ?_
      refine E_imul dX11_offeredAt_72 ?_
      refine E_iload dX11_offeredAt_73 rfl ?_
      refine E_iadd dX11_offeredAt_75 ?_
      rw [he]
      refine E_bald dX11_offeredAt_76 (by decide) (hg_55 _) (vp_in_nI (by omega) (by omega)) ?_
      rw [nI_clamp (by omega)]
      refine E_istore dX11_offeredAt_77 (by decide) rfl ?_
      refine E_aload_n dX11_offeredAt_79 rfl ?_
      refine E_getf 18 dX11_offeredAt_80 fl_X11_45 (by decide) (hg_39 _) rfl ?_
      refine E_aload_n dX11_offeredAt_83 rfl ?_
      refine E_getf 24 dX11_offeredAt_84 fl_X11_159 (by decide) (hg_39 _) rfl ?_
      rw [hF]
      refine E_iload_n dX11_offeredAt_87 rfl ?_
      refine E_isub dX11_offeredAt_88 ?_
      rw [pk_sub hq]
      refine E_iload dX11_offeredAt_89 rfl ?_
      refine E_iadd dX11_offeredAt_91 ?_
      rw [nI_add]
      refine E_bald dX11_offeredAt_92 (by decide) (hg_48 _) (vp_in_nI (by omega) (by omega)) ?_
      rw [nI_clamp (by omega)]
      refine E_istore dX11_offeredAt_93 (by decide) rfl ?_
      refine E_iload dX11_offeredAt_95 rfl ?_
      refine E_iload dX11_offeredAt_97 rfl ?_
      refine E_icmp_ne 105 dX11_offeredAt_99 (by decide) (fun c_99 => ?_) (fun c_99 => ?_)
      · refine E_iincL 1 dX11_offeredAt_105 rfl rfl (by decide) rfl ?_
        rw [nI_1]
        refine E_iload dX11_offeredAt_108 rfl ?_
        refine E_if_eq 128 dX11_offeredAt_110 (by decide) (fun c_110 => ?_) (fun c_110 => ?_)
        · refine E_iconst (v := 0) dX11_offeredAt_128 rfl ?_
          refine E_istore dX11_offeredAt_129 (by decide) rfl ?_
          refine E_iincL 1 dX11_offeredAt_131 rfl rfl (by decide) rfl ?_
          rw [nI_1]
          refine E_goto 58 dX11_offeredAt_134 (by decide) ?_
          refine E.pick [5, 6, 7, 8, 9, 2, 1, 0] rfl ?_
          first | exact (by rw [if_pos c_99] at hr; exact ih (i + 1) u b (by omega) (by omega) hr) | exact (by rw [if_neg c_99] at hr; have h9 := ih (i + 1) (u + 1) _ (by omega) (by omega) hr; rw [b2i_f (show ¬ (b && arn z (z.A 55 (12 * W + i)) (z.A 48 (t - q + i)) nn 0) = true from fun h8 => b2i_e0 c_110 (Bool.and_eq_true_iff.mp h8).1)] at h9; exact h9) | exact (by rw [if_neg c_99] at hr; have h9 := ih (i + 1) (u + 1) _ (by omega) (by omega) hr; rw [b2i_f (show ¬ (b && arn z (z.A 55 (12 * W + i)) (z.A 48 (t - q + i)) nn 0) = true from fun h8 => b2i_e0 c_121 (Bool.and_eq_true_iff.mp h8).2)] at h9; exact h9) | exact (by rw [if_neg c_99] at hr; have h9 := ih (i + 1) (u + 1) _ (by omega) (by omega) hr; rw [b2i_t (show (b && arn z (z.A 55 (12 * W + i)) (z.A 48 (t - q + i)) nn 0) = true from Bool.and_eq_true_iff.mpr ⟨b2i_ne c_110, b2i_ne c_121⟩)] at h9; exact h9)
        · refine E_aload_n dX11_offeredAt_113 rfl ?_
          refine E_iload dX11_offeredAt_114 rfl ?_
          refine E_iload dX11_offeredAt_116 rfl ?_
          refine E_V2 dX11_offeredAt_118 cv_X11_200 (by decide) (hg_39 _) rfl rfl (Nat.le_of_ble_eq_true rfl) (Nat.le_of_ble_eq_true rfl) (c_areNear hT _ _) (by decide) (Nat.zero_le _) (Nat.zero_le _) ?_
          refine E_if_eq 128 dX11_offeredAt_121 (by decide) (fun c_121 => ?_) (fun c_121 => ?_)
          · refine E_iconst (v := 0) dX11_offeredAt_128 rfl ?_
            refine E_istore dX11_offeredAt_129 (by decide) rfl ?_
            refine E_iincL 1 dX11_offeredAt_131 rfl rfl (by decide) rfl ?_
            rw [nI_1]
            refine E_goto 58 dX11_offeredAt_134 (by decide) ?_
            refine E.pick [5, 6, 7, 8, 9, 2, 1, 0] rfl ?_
            first | exact (by rw [if_pos c_99] at hr; exact ih (i + 1) u b (by omega) (by omega) hr) | exact (by rw [if_neg c_99] at hr; have h9 := ih (i + 1) (u + 1) _ (by omega) (by omega) hr; rw [b2i_f (show ¬ (b && arn z (z.A 55 (12 * W + i)) (z.A 48 (t - q + i)) nn 0) = true from fun h8 => b2i_e0 c_110 (Bool.and_eq_true_iff.mp h8).1)] at h9; exact h9) | exact (by rw [if_neg c_99] at hr; have h9 := ih (i + 1) (u + 1) _ (by omega) (by omega) hr; rw [b2i_f (show ¬ (b && arn z (z.A 55 (12 * W + i)) (z.A 48 (t - q + i)) nn 0) = true from fun h8 => b2i_e0 c_121 (Bool.and_eq_true_iff.mp h8).2)] at h9; exact h9) | exact (by rw [if_neg c_99] at hr; have h9 := ih (i + 1) (u + 1) _ (by omega) (by omega) hr; rw [b2i_t (show (b && arn z (z.A 55 (12 * W + i)) (z.A 48 (t - q + i)) nn 0) = true from Bool.and_eq_true_iff.mpr ⟨b2i_ne c_110, b2i_ne c_121⟩)] at h9; exact h9)
          · refine E_iconst (v := 1) dX11_offeredAt_124 rfl ?_
            refine E_goto 129 dX11_offeredAt_125 (by decide) ?_
            refine E_istore dX11_offeredAt_129 (by decide) rfl ?_
            refine E_iincL 1 dX11_offeredAt_131 rfl rfl (by decide) rfl ?_
            rw [nI_1]
            refine E_goto 58 dX11_offeredAt_134 (by decide) ?_
            refine E.pick [5, 6, 7, 8, 9, 2, 1, 0] rfl ?_
            first | exact (by rw [if_pos c_99] at hr; exact ih (i + 1) u b (by omega) (by omega) hr) | exact (by rw [if_neg c_99] at hr; have h9 := ih (i + 1) (u + 1) _ (by omega) (by omega) hr; rw [b2i_f (show ¬ (b && arn z (z.A 55 (12 * W + i)) (z.A 48 (t - q + i)) nn 0) = true from fun h8 => b2i_e0 c_110 (Bool.and_eq_true_iff.mp h8).1)] at h9; exact h9) | exact (by rw [if_neg c_99] at hr; have h9 := ih (i + 1) (u + 1) _ (by omega) (by omega) hr; rw [b2i_f (show ¬ (b && arn z (z.A 55 (12 * W + i)) (z.A 48 (t - q + i)) nn 0) = true from fun h8 => b2i_e0 c_121 (Bool.and_eq_true_iff.mp h8).2)] at h9; exact h9) | exact (by rw [if_neg c_99] at hr; have h9 := ih (i + 1) (u + 1) _ (by omega) (by omega) hr; rw [b2i_t (show (b && arn z (z.A 55 (12 * W + i)) (z.A 48 (t - q + i)) nn 0) = true from Bool.and_eq_true_iff.mpr ⟨b2i_ne c_110, b2i_ne c_121⟩)] at h9; exact h9)
      · refine E_goto 131 dX11_offeredAt_102 (by decide) ?_
        refine E_iincL 1 dX11_offeredAt_131 rfl rfl (by decide) rfl ?_
        rw [nI_1]
        refine E_goto 58 dX11_offeredAt_134 (by decide) ?_
        refine E.pick [3, 4, 5, 6, 7, 8, 9, 0] rfl ?_
        first | exact (by rw [if_pos c_99] at hr; exact ih (i + 1) u b (by omega) (by omega) hr) | exact (by rw [if_neg c_99] at hr; have h9 := ih (i + 1) (u + 1) _ (by omega) (by omega) hr; rw [b2i_f (show ¬ (b && arn z (z.A 55 (12 * W + i)) (z.A 48 (t - q + i)) nn 0) = true from fun h8 => b2i_e0 c_110 (Bool.and_eq_true_iff.mp h8).1)] at h9; exact h9) | exact (by rw [if_neg c_99] at hr; have h9 := ih (i + 1) (u + 1) _ (by omega) (by omega) hr; rw [b2i_f (show ¬ (b && arn z (z.A 55 (12 * W + i)) (z.A 48 (t - q + i)) nn 0) = true from fun h8 => b2i_e0 c_121 (Bool.and_eq_true_iff.mp h8).2)] at h9; exact h9) | exact (by rw [if_neg c_99] at hr; have h9 := ih (i + 1) (u + 1) _ (by omega) (by omega) hr; rw [b2i_t (show (b && arn z (z.A 55 (12 * W + i)) (z.A 48 (t - q + i)) nn 0) = true from Bool.and_eq_true_iff.mpr ⟨b2i_ne c_110, b2i_ne c_121⟩)] at h9; exact h9)
def om1 (z : Sg) (W : Nat) : Sg := stA z 58 (upd (z.A 58) W (-1))
def omr (z : Sg) (t q nn W : Nat) : Nat × Bool := oin (om1 z W) t q W nn q 0 0 true
def omz (z : Sg) (t q nn W : Nat) : Sg := if (omr z t q nn W).2 = true ∧ (omr z t q nn W).1 ≤ 2 then stA (om1 z W) 58 (upd ((om1 z W).A 58) W (nI (omr z t q nn W).1)) else om1 z W
def omk (t q nn : Nat) : Nat → Nat → Bool → Sg → Bool × Sg
  | 0, _, p, z => (p, z)
  | m + 1, W, p, z => if z.A 56 W = nI q then omk t q nn m (W + 1) (p || decide ((omr z t q nn W).1 = 0)) (omz z t q nn W) else omk t q nn m (W + 1) p (om1 z W)
theorem mt_omz {z : Sg} {t q nn W : Nat} (h : mtOK z nn) : mtOK (omz z t q nn W) nn := by
  unfold omz
  split
  · exact h
  · exact h
theorem md_omz {z : Sg} {t q nn W n : Nat} (h : mdOK z n) : mdOK (omz z t q nn W) n := by
  unfold omz
  split
  · exact h
  · exact h
theorem tx_omz {z : Sg} {t q nn W : Nat} (h : txOK z t) : txOK (omz z t q nn W) t := by
  unfold omz
  split
  · exact h
  · exact h
theorem l_omk {n t q nn : Nat} (hq : q ≤ t) (k : Int32) : ∀ (m W : Nat) (p : Bool) (z : Sg), W + m = n → txOK z t → mdOK z n → mtOK z nn → E mMod_offeredAt 2 0 0 18 [(0, .ref 39), (1, .int k), (2, .int (nI q)), (3, .int (b2i (p = true))), (4, .int (nI W))] [] (hp z) (Det (some (.int (if (omk t q nn m W p z).1 = true then -1 else rnk (omk t q nn m W p z).2 n k n 0))) (hp (omk t q nn m W p z).2)) := by
  intro m
  induction m with
  | zero =>
    intro W p z hW hx hd hT
    have hn := hd.2.1
    refine E_iload dX11_offeredAt_18 rfl ?_
    refine E_aload_n dX11_offeredAt_20 rfl ?_
    refine E_getf 32 dX11_offeredAt_21 fl_X11_191 (by decide) (hg_39 _) rfl ?_
    rw [hd.1]
    refine E_icmp_ge 178 dX11_offeredAt_24 (by decide) (fun c_24 => ?_) (fun c_24 => ?_)
    · refine E_iload_n dX11_offeredAt_178 rfl ?_
      refine E_if_eq 186 dX11_offeredAt_179 (by decide) (fun c_179 => ?_) (fun c_179 => ?_)
      · refine E_aload_n dX11_offeredAt_186 rfl ?_
        refine E_iload_n dX11_offeredAt_187 rfl ?_
        refine E_V1 dX11_offeredAt_188 cv_X11_197 (by decide) (hg_39 _) rfl rfl (Nat.le_of_ble_eq_true rfl) (Nat.le_of_ble_eq_true rfl) (c_ranked hd.2.1 hd.1 k) (by decide) (Nat.zero_le _) (Nat.zero_le _) ?_
        exact E_iret dX11_offeredAt_191 rfl rfl ⟨by first | (rw [omk, if_pos (b2i_ne c_179)]) | (rw [omk, if_neg (b2i_e0 c_179)]), rfl⟩
      · refine E_iconst (v := (-1)) dX11_offeredAt_182 rfl ?_
        refine E_goto 191 dX11_offeredAt_183 (by decide) ?_
        exact E_iret dX11_offeredAt_191 rfl rfl ⟨by first | (rw [omk, if_pos (b2i_ne c_179)]) | (rw [omk, if_neg (b2i_e0 c_179)]), rfl⟩
    · exact absurd (nI_le (by omega) (by omega)) c_24
  | succ m ih =>
    intro W p z hW hx hd hT
    have hn := hd.2.1
    have ht := hx.2
    have hcl : (nI W).toNatClampNeg = W := nI_clamp (by omega)
    obtain ⟨L, hL1, hL2, hL⟩ := hd.2.2 W (by omega)
    have tl : z.A 56 W = nI q → E mMod_offeredAt 2 0 0 137 [(0, .ref 39), (1, .int k), (2, .int (nI q)), (3, .int (b2i (p = true))), (4, .int (nI W)), (5, .int (nI (omr z t q nn W).1)), (6, .int (b2i ((omr z t q nn W).2 = true)))] [] (hp (om1 z W)) (Det (some (.int (if (omk t q nn (m + 1) W p z).1 = true then -1 else rnk (omk t q nn (m + 1) W p z).2 n k n 0))) (hp (omk t q nn (m + 1) W p z).2)) := by
      intro hWq
      rw [omk, if_pos hWq]
      have hule : (omr z t q nn W).1 ≤ q := by have := oin_le (om1 z W) t q W nn q 0 0 true; unfold omr; omega
      have hq12 : q ≤ 12 := by rw [hL, nI_eq (by omega) (by omega)] at hWq; omega
      have go : ∀ (b : Int32), b = b2i ((p || decide ((omr z t q nn W).1 = 0)) = true) → E mMod_offeredAt 2 0 0 152 [(0, .ref 39), (1, .int k), (2, .int (nI q)), (3, .int b), (4, .int (nI W)), (5, .int (nI (omr z t q nn W).1)), (6, .int (b2i ((omr z t q nn W).2 = true)))] [] (hp (om1 z W)) (Det (some (.int (if (omk t q nn m (W + 1) (p || decide ((omr z t q nn W).1 = 0)) (omz z t q nn W)).1 = true then -1 else rnk (omk t q nn m (W + 1) (p || decide ((omr z t q nn W).1 = 0)) (omz z t q nn W)).2 n k n 0))) (hp (omk t q nn m (W + 1) (p || decide ((omr z t q nn W).1 = 0)) (omz z t q nn W)).2)) := by
        intro b hb
        have h9 := ih (W + 1) (p || decide ((omr z t q nn W).1 = 0)) (omz z t q nn W) (by omega) (tx_omz hx) (md_omz hd) (mt_omz hT)
        rw [← hb] at h9
        refine E_iload dX11_offeredAt_152 rfl ?_
        refine E_if_eq 172 dX11_offeredAt_154 (by decide) (fun c_154 => ?_) (fun c_154 => ?_)
        · try rw [hcl]
          refine E_iincL 1 dX11_offeredAt_172 rfl rfl (by decide) rfl ?_
          rw [nI_1]
          refine E_goto 18 dX11_offeredAt_175 (by decide) ?_
          refine E.pick [1, 2, 3, 4, 0] rfl ?_
          refine E.heq (hp (omz z t q nn W)) ?_ h9
          first | rw [omz, if_neg (show ¬ ((omr z t q nn W).2 = true ∧ (omr z t q nn W).1 ≤ 2) from fun h8 => b2i_e0 c_154 h8.1)] | rw [omz, if_neg (show ¬ ((omr z t q nn W).2 = true ∧ (omr z t q nn W).1 ≤ 2) from fun h8 => absurd (nI_le (b := 2) h8.2 (by omega)) (by rw [i32_le]; rw [i32_lt] at c_160; exact Int.not_le.mpr c_160))] | rw [omz, if_pos (show (omr z t q nn W).2 = true ∧ (omr z t q nn W).1 ≤ 2 from ⟨b2i_ne c_154, (nI_leI (b := 2) (by omega) (by omega)).mp (show nI (omr z t q nn W).1 ≤ nI 2 by rw [i32_le]; rw [i32_lt] at c_160; exact Int.not_lt.mp c_160)⟩)]
        · refine E_iload dX11_offeredAt_157 rfl ?_
          refine E_iconst (v := 2) dX11_offeredAt_159 rfl ?_
          refine E_icmp_gt 172 dX11_offeredAt_160 (by decide) (fun c_160 => ?_) (fun c_160 => ?_)
          · try rw [hcl]
            refine E_iincL 1 dX11_offeredAt_172 rfl rfl (by decide) rfl ?_
            rw [nI_1]
            refine E_goto 18 dX11_offeredAt_175 (by decide) ?_
            refine E.pick [1, 2, 3, 4, 0] rfl ?_
            refine E.heq (hp (omz z t q nn W)) ?_ h9
            first | rw [omz, if_neg (show ¬ ((omr z t q nn W).2 = true ∧ (omr z t q nn W).1 ≤ 2) from fun h8 => b2i_e0 c_154 h8.1)] | rw [omz, if_neg (show ¬ ((omr z t q nn W).2 = true ∧ (omr z t q nn W).1 ≤ 2) from fun h8 => absurd (nI_le (b := 2) h8.2 (by omega)) (by rw [i32_le]; rw [i32_lt] at c_160; exact Int.not_le.mpr c_160))] | rw [omz, if_pos (show (omr z t q nn W).2 = true ∧ (omr z t q nn W).1 ≤ 2 from ⟨b2i_ne c_154, (nI_leI (b := 2) (by omega) (by omega)).mp (show nI (omr z t q nn W).1 ≤ nI 2 by rw [i32_le]; rw [i32_lt] at c_160; exact Int.not_lt.mp c_160)⟩)]
          · refine E_aload_n dX11_offeredAt_163 rfl ?_
            refine E_getf 33 dX11_offeredAt_164 fl_X11_79 (by decide) (hg_39 _) rfl ?_
            refine E_iload dX11_offeredAt_167 rfl ?_
            refine E_iload dX11_offeredAt_169 rfl ?_
            refine E_iast (f := (om1 z W).A 58) dX11_offeredAt_171 (by decide) (hg_58 _) (vp_in_nI (by omega) (by omega)) ?_
            rw [hs_58]
            try rw [hcl]
            refine E_iincL 1 dX11_offeredAt_172 rfl rfl (by decide) rfl ?_
            rw [nI_1]
            refine E_goto 18 dX11_offeredAt_175 (by decide) ?_
            refine E.pick [1, 2, 3, 4, 0] rfl ?_
            refine E.heq (hp (omz z t q nn W)) ?_ h9
            first | rw [omz, if_neg (show ¬ ((omr z t q nn W).2 = true ∧ (omr z t q nn W).1 ≤ 2) from fun h8 => b2i_e0 c_154 h8.1)] | rw [omz, if_neg (show ¬ ((omr z t q nn W).2 = true ∧ (omr z t q nn W).1 ≤ 2) from fun h8 => absurd (nI_le (b := 2) h8.2 (by omega)) (by rw [i32_le]; rw [i32_lt] at c_160; exact Int.not_le.mpr c_160))] | rw [omz, if_pos (show (omr z t q nn W).2 = true ∧ (omr z t q nn W).1 ≤ 2 from ⟨b2i_ne c_154, (nI_leI (b := 2) (by omega) (by omega)).mp (show nI (omr z t q nn W).1 ≤ nI 2 by rw [i32_le]; rw [i32_lt] at c_160; exact Int.not_lt.mp c_160)⟩)]
      refine E_iload_n dX11_offeredAt_137 rfl ?_
      refine E_if_ne 146 dX11_offeredAt_138 (by decide) (fun c_138 => ?_) (fun c_138 => ?_)
      · refine E_iconst (v := 1) dX11_offeredAt_146 rfl ?_
        refine E_goto 151 dX11_offeredAt_147 (by decide) ?_
        refine E_istore_n dX11_offeredAt_151 (by decide) rfl ?_
        refine E.pick [1, 2, 3, 0, 4, 5, 6] rfl ?_
        first | exact go 1 (b2i_t (by rw [b2i_ne c_138]; rfl)).symm | exact go 1 (b2i_t (by rw [show (omr z t q nn W).1 = 0 by rcases Nat.eq_zero_or_pos (omr z t q nn W).1 with h9 | h9; exact h9; exact absurd c_143 (nI_ne0 h9 (by omega))]; simp)).symm | exact go 0 (b2i_f (fun h9 => by rcases Bool.or_eq_true_iff.mp h9 with h8 | h8; exact b2i_e0 c_138 h8; exact c_143 (by rw [of_decide_eq_true h8]; rfl))).symm
      · refine E_iload dX11_offeredAt_141 rfl ?_
        refine E_if_ne 150 dX11_offeredAt_143 (by decide) (fun c_143 => ?_) (fun c_143 => ?_)
        · refine E_iconst (v := 0) dX11_offeredAt_150 rfl ?_
          refine E_istore_n dX11_offeredAt_151 (by decide) rfl ?_
          refine E.pick [1, 2, 3, 0, 4, 5, 6] rfl ?_
          first | exact go 1 (b2i_t (by rw [b2i_ne c_138]; rfl)).symm | exact go 1 (b2i_t (by rw [show (omr z t q nn W).1 = 0 by rcases Nat.eq_zero_or_pos (omr z t q nn W).1 with h9 | h9; exact h9; exact absurd c_143 (nI_ne0 h9 (by omega))]; simp)).symm | exact go 0 (b2i_f (fun h9 => by rcases Bool.or_eq_true_iff.mp h9 with h8 | h8; exact b2i_e0 c_138 h8; exact c_143 (by rw [of_decide_eq_true h8]; rfl))).symm
        · refine E_iconst (v := 1) dX11_offeredAt_146 rfl ?_
          refine E_goto 151 dX11_offeredAt_147 (by decide) ?_
          refine E_istore_n dX11_offeredAt_151 (by decide) rfl ?_
          refine E.pick [1, 2, 3, 0, 4, 5, 6] rfl ?_
          first | exact go 1 (b2i_t (by rw [b2i_ne c_138]; rfl)).symm | exact go 1 (b2i_t (by rw [show (omr z t q nn W).1 = 0 by rcases Nat.eq_zero_or_pos (omr z t q nn W).1 with h9 | h9; exact h9; exact absurd c_143 (nI_ne0 h9 (by omega))]; simp)).symm | exact go 0 (b2i_f (fun h9 => by rcases Bool.or_eq_true_iff.mp h9 with h8 | h8; exact b2i_e0 c_138 h8; exact c_143 (by rw [of_decide_eq_true h8]; rfl))).symm
    refine E_iload dX11_offeredAt_18 rfl ?_
    refine E_aload_n dX11_offeredAt_20 rfl ?_
    refine E_getf 32 dX11_offeredAt_21 fl_X11_191 (by decide) (hg_39 _) rfl ?_
    rw [hd.1]
    refine E_icmp_ge 178 dX11_offeredAt_24 (by decide) (fun c_24 => ?_) (fun c_24 => ?_)
    · exact absurd c_24 (nI_ge (by omega) (by omega))
    · refine E_aload_n dX11_offeredAt_27 rfl ?_
      refine E_getf 33 dX11_offeredAt_28 fl_X11_79 (by decide) (hg_39 _) rfl ?_
      refine E_iload dX11_offeredAt_31 rfl ?_
      refine E_iconst (v := (-1)) dX11_offeredAt_33 rfl ?_
      refine E_iast dX11_offeredAt_34 (by decide) (hg_58 _) (vp_in_nI (by omega) (by omega)) ?_
      rw [hs_58]
      rw [hcl]
      refine E_aload_n dX11_offeredAt_35 rfl ?_
      refine E_getf 29 dX11_offeredAt_36 fl_X11_73 (by decide) (hg_39 _) rfl ?_
      refine E_iload dX11_offeredAt_39 rfl ?_
      refine E_iald (f := z.A 56) dX11_offeredAt_41 (by decide) (hg_56 _) (vp_in_nI (by omega) (by omega)) ?_
      rw [hcl]
      refine E_iload_n dX11_offeredAt_42 rfl ?_
      refine E_icmp_eq 49 dX11_offeredAt_43 (by decide) (fun c_43 => ?_) (fun c_43 => ?_)
      · refine E_iconst (v := 0) dX11_offeredAt_49 rfl ?_
        refine E_istore dX11_offeredAt_50 (by decide) rfl ?_
        refine E_iconst (v := 1) dX11_offeredAt_52 rfl ?_
        refine E_istore dX11_offeredAt_53 (by decide) rfl ?_
        refine E_iconst (v := 0) dX11_offeredAt_55 rfl ?_
        refine E_istore dX11_offeredAt_56 (by decide) rfl ?_
        refine E.pick [3, 4, 5, 6, 7, 2, 1, 0] rfl ?_
        have hq12 : q ≤ 12 := by have h8 := c_43; rw [hL, nI_eq (by omega) (by omega)] at h8; omega
        have h9 := l_oin (z := om1 z W) (W := W) hx hT hq (by omega) hq12 k (b2i (p = true)) _ (omr z t q nn W) (tl c_43) q 0 0 true (by omega) (by omega) rfl
        exact h9
      · refine E_goto 172 dX11_offeredAt_46 (by decide) ?_
        refine E_iincL 1 dX11_offeredAt_172 rfl rfl (by decide) rfl ?_
        rw [nI_1]
        refine E_goto 18 dX11_offeredAt_175 (by decide) ?_
        refine E.pick [1, 2, 3, 4, 0] rfl ?_
        rw [omk, if_neg c_43]
        exact ih (W + 1) p (om1 z W) (by omega) hx hd hT
def zom (t n nn : Nat) (z : Sg) : Bool × Sg := omk t (mwr (z.A 48) t t 0) nn n 0 (decide (mwr (z.A 48) t t 0 = 0)) z
def ofR (t n nn : Nat) (z : Sg) (k : Int32) : Int32 := if (zom t n nn z).1 = true then -1 else rnk (zom t n nn z).2 n k n 0
theorem c_offeredAt {n t nn : Nat} {z : Sg} (hx : txOK z t) (hd : mdOK z n) (hT : mtOK z nn) (k : Int32) : EM mMod_offeredAt 2 0 0 [.ref 39, .int k] (hp z) (Det (some (.int (ofR t n nn z k))) (hp (zom t n nn z).2)) := by
  have hle := mwr_le (z.A 48) t t 0
  have ht := hx.2
  have h9 := l_omk (q := mwr (z.A 48) t t 0) (nn := nn) (by omega) k n 0 (decide (mwr (z.A 48) t t 0 = 0)) z (by omega) hx hd hT
  refine E_aload_n dX11_offeredAt_0 rfl ?_
  refine E_V0 dX11_offeredAt_1 cv_X11_174 (by decide) (hg_39 _) rfl rfl (Nat.le_of_ble_eq_true rfl) (Nat.le_of_ble_eq_true rfl) (c_Mod_written hx) (by decide) (Nat.zero_le _) (Nat.zero_le _) ?_
  refine E_istore_n dX11_offeredAt_4 (by decide) rfl ?_
  refine E_iload_n dX11_offeredAt_5 rfl ?_
  refine E_if_ne 13 dX11_offeredAt_6 (by decide) (fun c_6 => ?_) (fun c_6 => ?_)
  · refine E_iconst (v := 0) dX11_offeredAt_13 rfl ?_
    refine E_istore_n dX11_offeredAt_14 (by decide) rfl ?_
    refine E_iconst (v := 0) dX11_offeredAt_15 rfl ?_
    refine E_istore dX11_offeredAt_16 (by decide) rfl ?_
    refine E.pick [3, 4, 2, 1, 0] rfl ?_
    first | exact (by rw [b2i_f (p := decide (mwr (z.A 48) t t 0 = 0) = true) (fun h8 => c_6 (by rw [of_decide_eq_true h8]; rfl))] at h9; exact h9) | exact (by rw [b2i_t (p := decide (mwr (z.A 48) t t 0 = 0) = true) (decide_eq_true (by rcases Nat.eq_zero_or_pos (mwr (z.A 48) t t 0) with h8 | h8; exact h8; exact absurd c_6 (nI_ne0 h8 (by omega))))] at h9; exact h9)
  · refine E_iconst (v := 1) dX11_offeredAt_9 rfl ?_
    refine E_goto 14 dX11_offeredAt_10 (by decide) ?_
    refine E_istore_n dX11_offeredAt_14 (by decide) rfl ?_
    refine E_iconst (v := 0) dX11_offeredAt_15 rfl ?_
    refine E_istore dX11_offeredAt_16 (by decide) rfl ?_
    refine E.pick [3, 4, 2, 1, 0] rfl ?_
    first | exact (by rw [b2i_f (p := decide (mwr (z.A 48) t t 0 = 0) = true) (fun h8 => c_6 (by rw [of_decide_eq_true h8]; rfl))] at h9; exact h9) | exact (by rw [b2i_t (p := decide (mwr (z.A 48) t t 0 = 0) = true) (decide_eq_true (by rcases Nat.eq_zero_or_pos (mwr (z.A 48) t t 0) with h8 | h8; exact h8; exact absurd c_6 (nI_ne0 h8 (by omega))))] at h9; exact h9)
