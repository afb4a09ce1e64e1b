/-! THE BOOK's reading; complete -/
def bkOK (z : Sg) (n : Nat) : Prop := z.F 24 3 = nI n ∧ n ≤ 40 ∧ ∀ W, W < n → ∃ L, 1 ≤ L ∧ L ≤ 12 ∧ z.A 26 W = nI L
theorem bk_le {z : Sg} {n : Nat} (h : bkOK z n) : (z.F 24 3).toInt ≤ 40 := by
  obtain ⟨h1, h2, -⟩ := h
  rw [h1, nI_toInt (by omega)]
  omega
theorem bg_at {z : Sg} {n W : Nat} (h : bkOK z n) (hW : W < n) (a : Nat) : bg z a (nI W) = z.A a W := by
  obtain ⟨h1, h2, -⟩ := h
  unfold bg
  rw [if_pos ⟨by rw [nI_toInt (by omega)]; omega, by rw [h1, nI_toInt (by omega), nI_toInt (by omega)]; omega⟩, nI_clamp (by omega)]
theorem c_sizeOfN {z : Sg} {n W : Nat} (h : bkOK z n) (hW : W < n) : EM mBook_sizeOf 1 0 0 [.ref 24, .int (nI W)] (hp z) (Det (some (.int (z.A 26 W))) (hp z)) := by
  have h9 := c_sizeOf z (bk_le h) (nI W)
  rw [bg_at h hW] at h9
  exact h9
theorem c_timesOfN {z : Sg} {n W : Nat} (h : bkOK z n) (hW : W < n) : EM mBook_timesOf 1 0 0 [.ref 24, .int (nI W)] (hp z) (Det (some (.int (z.A 27 W))) (hp z)) := by
  have h9 := c_timesOf z (bk_le h) (nI W)
  rw [bg_at h hW] at h9
  exact h9
theorem c_signOf {z : Sg} {n W i L : Nat} (h : bkOK z n) (hW : W < n) (hL : z.A 26 W = nI L) (hL2 : L ≤ 12) (hi : i < L) : EM mBook_signOf 2 0 0 [.ref 24, .int (nI W), .int (nI i)] (hp z) (Det (some (.int (z.A 25 (12 * W + i)))) (hp z)) := by
  have hn := h.2.1
  have he : nI W * 12 + nI i = nI (12 * W + i) := by rw [show (12 : Int32) = nI 12 from rfl, pk_mul, nI_add, Nat.mul_comm]
  refine E_iload_n dX0_signOf_0 rfl ?_
  refine E_if_lt 27 dX0_signOf_1 (by decide) (fun c_1 => ?_) (fun c_1 => ?_)
  · exact absurd c_1 (nI_pos (by omega))
  · refine E_iload_n dX0_signOf_4 rfl ?_
    refine E_aload_n dX0_signOf_5 rfl ?_
    refine E_iload_n dX0_signOf_6 rfl ?_
    refine E_V1 dX0_signOf_7 cv_X0_65 (by decide) (hg_24 _) rfl rfl (Nat.le_of_ble_eq_true rfl) (Nat.le_of_ble_eq_true rfl) (c_sizeOfN h hW) (by decide) (Nat.zero_le _) (Nat.zero_le _) ?_
    rw [hL]
    refine E_icmp_ge 27 dX0_signOf_10 (by decide) (fun c_10 => ?_) (fun c_10 => ?_)
    · exact absurd c_10 (nI_ge (by omega) (by omega))
    · refine E_aload_n dX0_signOf_13 rfl ?_
      refine E_getf 0 dX0_signOf_14 fl_X0_11 (by decide) (hg_24 _) rfl ?_
      refine E_iload_n dX0_signOf_17 rfl ?_
      refine E_bipush (v := 12) dX0_signOf_18 rfl ?_
      refine E_imul dX0_signOf_20 ?_
      refine E_iload_n dX0_signOf_21 rfl ?_
      refine E_iadd dX0_signOf_22 ?_
      rw [he]
      refine E_iald dX0_signOf_23 (by decide) (hg_25 _) (vp_in_nI (by omega) (by omega)) ?_
      refine E_goto 28 dX0_signOf_24 (by decide) ?_
      exact E_iret dX0_signOf_28 rfl rfl ⟨by rw [nI_clamp (by omega)], rfl⟩
def pcw : Nat → Nat → Nat → Nat → Sg → Sg
  | 0, _, _, _, z => z
  | m + 1, i, b, W, z => pcw m (i + 1) b W (pch z (z.A 25 (12 * W + i)) (b + i + 1))
theorem bkOK_pch {z : Sg} {n : Nat} (h : bkOK z n) (x : Int32) (m : Nat) : bkOK (pch z x m) n := h
abbrev cpE (sp : Bool) (z : Sg) (n : Nat) : Sg := if sp = true then pch z 32 (n + 1) else z
theorem l_complete {n W L : Nat} (hW : W < n) (hL2 : L ≤ 12) (sp : Bool) (w5 : Int32) (b : Nat) (hb : b + L ≤ 200) : ∀ (m i : Nat) (z : Sg) (r : List Int32), i + m = L → bkOK z n → z.A 26 W = nI L → r.length = b + i → ch z.D z.T r → E mSheet_complete 3 (m + 1) (3 * m + 3) 68 [(0, .ref 18), (1, .ref 24), (2, .int (nI W)), (3, .int (if sp = true then 1 else 0)), (4, .int (nI L)), (5, .int w5), (6, .int (nI i))] [] (hp z) (Det none (hp (cpE sp (pcw m i b W z) (b + L)))) := by
  intro m
  induction m with
  | zero =>
    intro i z r hi hk hL hlen hc
    obtain ⟨v1, x1, hcD⟩ := ch_cellD hc
    cases sp with
    | true =>
      refine E_iload dX7_complete_68 rfl ?_
      refine E_iload dX7_complete_70 rfl ?_
      refine E_icmp_ge 103 dX7_complete_72 (by decide) (fun c_72 => ?_) (fun c_72 => ?_)
      · refine E_iload_n dX7_complete_103 rfl ?_
        refine E_if_eq 124 dX7_complete_104 (by decide) (fun c_104 => ?_) (fun c_104 => ?_)
        · exact absurd c_104 (by decide)
        · refine E_aload_n dX7_complete_107 rfl ?_
          refine E_new dX7_complete_108 nw_X7_9 (fs := [.null, .int 0, .int 0]) fs_chain (by decide) (by decide) ?_
          rw [hp_push, hp_len]
          refine E_dup dX7_complete_111 rfl ?_
          refine E_aload_n dX7_complete_112 rfl ?_
          refine E_getf 5 dX7_complete_113 fl_X7_27 (by decide) (hg_18 _) rfl ?_
          refine E_bipush (v := 32) dX7_complete_116 rfl ?_
          refine E_I2 dX7_complete_118 ci_X7_11 (Nat.le_of_ble_eq_true rfl) (Nat.le_of_ble_eq_true rfl) (c_Chain_init z z.D z.T 32 (nI r.length) v1 (.int x1) (ch_ge hc) (fun c => hcD z c)) (by decide) (Nat.zero_le _) (Nat.zero_le _) ?_
          rw [nI_1, hlen, show b + i + 1 = b + L + 1 by omega]
          refine E_put 5 dX7_complete_121 fp_X7_27 (fitsV_obj _ _) (by decide) (hg_18 _) (Nat.le_of_ble_eq_true rfl) ?_
          rw [hs_18_5]
          exact E_vret dX7_complete_124 rfl ⟨rfl, rfl⟩
      · exact absurd (nI_le (by omega) (by omega)) c_72
    | false =>
      refine E_iload dX7_complete_68 rfl ?_
      refine E_iload dX7_complete_70 rfl ?_
      refine E_icmp_ge 103 dX7_complete_72 (by decide) (fun c_72 => ?_) (fun c_72 => ?_)
      · refine E_iload_n dX7_complete_103 rfl ?_
        refine E_if_eq 124 dX7_complete_104 (by decide) (fun c_104 => ?_) (fun c_104 => ?_)
        · exact E_vret dX7_complete_124 rfl ⟨rfl, rfl⟩
        · exact absurd (by decide) c_104
      · exact absurd (nI_le (by omega) (by omega)) c_72
  | succ m ih =>
    intro i z r hi hk hL hlen hc
    obtain ⟨v1, x1, hcD⟩ := ch_cellD hc
    have hk' : bkOK (stD z (z.D ++ [.inr (1, [.null, .int 0, .int 0])])) n := hk
    have hL' : (stD z (z.D ++ [.inr (1, [.null, .int 0, .int 0])])).A 26 W = nI L := hL
    have hsg := c_signOf (i := i) hk' hW hL' hL2 (by omega)
    rw [show (stD z (z.D ++ [.inr (1, [.null, .int 0, .int 0])])).A 25 (12 * W + i) = z.A 25 (12 * W + i) from rfl] at hsg
    refine E_iload dX7_complete_68 rfl ?_
    refine E_iload dX7_complete_70 rfl ?_
    refine E_icmp_ge 103 dX7_complete_72 (by decide) (fun c_72 => ?_) (fun c_72 => ?_)
    · exact absurd c_72 (nI_ge (by omega) (by omega))
    · refine E_aload_n dX7_complete_75 rfl ?_
      refine E_new dX7_complete_76 nw_X7_9 (fs := [.null, .int 0, .int 0]) fs_chain (by omega) (by omega) ?_
      rw [hp_push, hp_len]
      refine E_dup dX7_complete_79 rfl ?_
      refine E_aload_n dX7_complete_80 rfl ?_
      refine E_getf 5 dX7_complete_81 fl_X7_27 (by decide) (hg_18 _) rfl ?_
      refine E_aload_n dX7_complete_84 rfl ?_
      refine E_iload_n dX7_complete_85 rfl ?_
      refine E_iload dX7_complete_86 rfl ?_
      refine E_V2 dX7_complete_88 cv_X7_67 (by decide) (hg_24 _) rfl rfl (Nat.le_of_ble_eq_true rfl) (Nat.le_of_ble_eq_true rfl) (hsg) (by decide) (Nat.zero_le _) (Nat.zero_le _) ?_
      refine E_I2 dX7_complete_91 ci_X7_11 (Nat.le_of_ble_eq_true rfl) (Nat.le_of_ble_eq_true rfl) (c_Chain_init z z.D z.T _ (nI r.length) v1 (.int x1) (ch_ge hc) (fun c => hcD z c)) (by decide) (Nat.zero_le _) (Nat.zero_le _) ?_
      rw [nI_1, hlen]
      refine E_put 5 dX7_complete_94 fp_X7_27 (fitsV_obj _ _) (by decide) (hg_18 _) (Nat.le_of_ble_eq_true rfl) ?_
      rw [hs_18_5]
      refine E_iincL 1 dX7_complete_97 rfl rfl (by decide) rfl ?_
      rw [nI_1]
      refine E_goto 68 dX7_complete_100 (by decide) ?_
      refine E.pick [1, 2, 3, 4, 5, 6, 0] rfl ?_
      rw [pcw]
      have h9 := ih (i + 1) (pch z (z.A 25 (12 * W + i)) (b + i + 1)) (z.A 25 (12 * W + i) :: r) (by omega) hk hL (by rw [List.length_cons, hlen]; omega) (by rw [← hlen]; exact ch_pch _ hc)
      exact h9
abbrev cmOK (sp : Bool) (L n w : Nat) : Prop := ¬ L = 0 ∧ n - w + L + (if sp = true then 1 else 0) ≤ 200
theorem c_complete {z : Sg} {o k : Nat} (hr : ring z o k) {r : List Int32} (ht : ch z.D z.T r) (hl : r.length ≤ 200) (hs : ∀ s, z.S = some s → ∃ rs, ch z.D s rs) {n W L : Nat} (hk : bkOK z n) (hW : W < n) (hL : z.A 26 W = nI L) (hL2 : L ≤ 12) (sp : Bool) : ∃ c', ch z.D c' (r.drop (wr r)) ∧ EM mSheet_complete 3 13 39 [.ref 18, .ref 24, .int (nI W), .int (if sp = true then 1 else 0)] (hp z) (Det none (hp (if cmOK sp L r.length (wr r) then cpE sp (pcw L 0 (r.length - wr r) W (stT (kp z o k) c')) (r.length - wr r + L) else z))) := by
  obtain ⟨v0, x0, hcell⟩ := ch_cell ht
  have hD := D_kp z o k
  have hT := T_kp z o k
  have hwl := wr_le r
  obtain ⟨c', h1, h2⟩ := c_without (kp z o k) (wr r) (by omega) z.T r (by rw [hD]; exact ht)
  obtain ⟨v1, x1, hcell1⟩ := ch_cell (z := kp z o k) (show ch (kp z o k).D z.T r by rw [hD]; exact ht)
  refine ⟨c', by rw [← hD]; exact h1, ?_⟩
  have hbk : bkOK (stT (kp z o k) c') n := by
    refine ⟨?_, hk.2.1, fun W' h' => ?_⟩
    · show (kp z o k).F 24 3 = nI n
      rw [F_kp _ _ _ (by decide)]
      exact hk.1
    · show ∃ L, 1 ≤ L ∧ L ≤ 12 ∧ (kp z o k).A 26 W' = nI L
      rw [A_kp]
      exact hk.2.2 W' h'
  have hL3 : (stT (kp z o k) c').A 26 W = nI L := by
    show (kp z o k).A 26 W = nI L
    rw [A_kp]
    exact hL
  have go : L + (r.length - wr r) ≤ 200 → E mSheet_complete 3 13 39 48 [(0, .ref 18), (1, .ref 24), (2, .int (nI W)), (3, .int (if sp = true then 1 else 0)), (4, .int (nI L)), (5, .int (nI (wr r)))] [] (hp z) (Det none (hp (cpE sp (pcw L 0 (r.length - wr r) W (stT (kp z o k) c')) (r.length - wr r + L)))) := by
    intro hle
    refine E_aload_n dX7_complete_48 rfl ?_
    refine E_V0 dX7_complete_49 cv_X7_50 (by decide) (hg_18 _) rfl rfl (Nat.le_of_ble_eq_true rfl) (Nat.le_of_ble_eq_true rfl) (c_keep z hr ht hs) (by decide) (Nat.zero_le _) (Nat.zero_le _) ?_
    refine E_aload_n dX7_complete_52 rfl ?_
    refine E_aload_n dX7_complete_53 rfl ?_
    refine E_getf 5 dX7_complete_54 fl_X7_27 (by decide) (hg_18 _) rfl ?_
    rw [hT]
    refine E_iload dX7_complete_57 rfl ?_
    refine E_V1 dX7_complete_59 cv_X7_53 (ch_ge ht) hcell1 rfl rfl (Nat.le_of_ble_eq_true rfl) (Nat.le_of_ble_eq_true rfl) (h2) (by decide) (Nat.zero_le _) (Nat.zero_le _) ?_
    refine E_put 5 dX7_complete_62 fp_X7_27 (fitsV_obj _ _) (by decide) (hg_18 _) (Nat.le_of_ble_eq_true rfl) ?_
    rw [hs_18_5]
    refine E_iconst (v := 0) dX7_complete_65 rfl ?_
    refine E_istore dX7_complete_66 (by decide) rfl ?_
    refine E.pick [1, 2, 3, 4, 5, 6, 0] rfl ?_
    exact (l_complete hW hL2 sp (nI (wr r)) (r.length - wr r) (by omega) L 0 (stT (kp z o k) c') (r.drop (wr r)) (by omega) hbk hL3 (by rw [List.length_drop]; omega) h1).mono (Nat.le_refl _) (by omega) (by omega)
  by_cases hL0 : L = 0
  · rw [if_neg (fun h : cmOK sp L r.length (wr r) => h.1 hL0)]
    refine E_aload_n dX7_complete_0 rfl ?_
    refine E_iload_n dX7_complete_1 rfl ?_
    refine E_V1 dX7_complete_2 cv_X7_57 (by decide) (hg_24 _) rfl rfl (Nat.le_of_ble_eq_true rfl) (Nat.le_of_ble_eq_true rfl) (c_sizeOfN hk hW) (by decide) (Nat.zero_le _) (Nat.zero_le _) ?_
    refine E_istore dX7_complete_5 (by decide) rfl ?_
    refine E_aload_n dX7_complete_7 rfl ?_
    refine E_V0 dX7_complete_8 cv_X7_63 (by decide) (hg_18 _) rfl rfl (Nat.le_of_ble_eq_true rfl) (Nat.le_of_ble_eq_true rfl) (c_written z r hl ht) (by decide) (Nat.zero_le _) (Nat.zero_le _) ?_
    refine E_istore dX7_complete_11 (by decide) rfl ?_
    refine E_iload dX7_complete_13 rfl ?_
    rw [hL, hL0]
    refine E_if_eq 47 dX7_complete_15 (by decide) (fun c_15 => ?_) (fun c_15 => ?_)
    · exact E_vret dX7_complete_47 rfl ⟨rfl, rfl⟩
    · exact absurd rfl c_15
  · cases sp with
    | true =>
      refine E_aload_n dX7_complete_0 rfl ?_
      refine E_iload_n dX7_complete_1 rfl ?_
      refine E_V1 dX7_complete_2 cv_X7_57 (by decide) (hg_24 _) rfl rfl (Nat.le_of_ble_eq_true rfl) (Nat.le_of_ble_eq_true rfl) (c_sizeOfN hk hW) (by decide) (Nat.zero_le _) (Nat.zero_le _) ?_
      refine E_istore dX7_complete_5 (by decide) rfl ?_
      refine E_aload_n dX7_complete_7 rfl ?_
      refine E_V0 dX7_complete_8 cv_X7_63 (by decide) (hg_18 _) rfl rfl (Nat.le_of_ble_eq_true rfl) (Nat.le_of_ble_eq_true rfl) (c_written z r hl ht) (by decide) (Nat.zero_le _) (Nat.zero_le _) ?_
      refine E_istore dX7_complete_11 (by decide) rfl ?_
      refine E_iload dX7_complete_13 rfl ?_
      rw [hL]
      refine E_if_eq 47 dX7_complete_15 (by decide) (fun c_15 => ?_) (fun c_15 => ?_)
      · exact absurd c_15 (nI_ne0 (by omega) (by omega))
      · refine E_aload_n dX7_complete_18 rfl ?_
        refine E_getf 5 dX7_complete_19 fl_X7_27 (by decide) (hg_18 _) rfl ?_
        refine E_getf 2 dX7_complete_22 fl_X7_47 (ch_ge ht) hcell rfl ?_
        refine E_iload dX7_complete_25 rfl ?_
        refine E_isub dX7_complete_27 ?_
        rw [pk_sub hwl]
        refine E_iload dX7_complete_28 rfl ?_
        refine E_iadd dX7_complete_30 ?_
        rw [nI_add]
        refine E_iload_n dX7_complete_31 rfl ?_
        refine E_if_eq 39 dX7_complete_32 (by decide) (fun c_32 => ?_) (fun c_32 => ?_)
        · exact absurd c_32 (by decide)
        · refine E_iconst (v := 1) dX7_complete_35 rfl ?_
          refine E_goto 40 dX7_complete_36 (by decide) ?_
          refine E_iadd dX7_complete_40 ?_
          rw [nI_1]
          refine E_sipush (v := 200) dX7_complete_41 rfl ?_
          refine E_icmp_le 48 dX7_complete_44 (by decide) (fun c_44 => ?_) (fun c_44 => ?_)
          · refine E.pick [2, 3, 4, 5, 1, 0] rfl ?_
            have hle : r.length - wr r + L + 1 ≤ 200 := (nI_leI (b := 200) (by omega) (by omega)).mp c_44
            rw [if_pos (show cmOK true L r.length (wr r) from ⟨hL0, by rw [if_pos rfl]; omega⟩)]
            exact go (by omega)
          · exact E_vret dX7_complete_47 rfl ⟨rfl, by rw [if_neg (fun h : cmOK true L r.length (wr r) => c_44 (nI_le (b := 200) (by have := h.2; rw [if_pos rfl] at this; omega) (by omega)))]⟩
    | false =>
      refine E_aload_n dX7_complete_0 rfl ?_
      refine E_iload_n dX7_complete_1 rfl ?_
      refine E_V1 dX7_complete_2 cv_X7_57 (by decide) (hg_24 _) rfl rfl (Nat.le_of_ble_eq_true rfl) (Nat.le_of_ble_eq_true rfl) (c_sizeOfN hk hW) (by decide) (Nat.zero_le _) (Nat.zero_le _) ?_
      refine E_istore dX7_complete_5 (by decide) rfl ?_
      refine E_aload_n dX7_complete_7 rfl ?_
      refine E_V0 dX7_complete_8 cv_X7_63 (by decide) (hg_18 _) rfl rfl (Nat.le_of_ble_eq_true rfl) (Nat.le_of_ble_eq_true rfl) (c_written z r hl ht) (by decide) (Nat.zero_le _) (Nat.zero_le _) ?_
      refine E_istore dX7_complete_11 (by decide) rfl ?_
      refine E_iload dX7_complete_13 rfl ?_
      rw [hL]
      refine E_if_eq 47 dX7_complete_15 (by decide) (fun c_15 => ?_) (fun c_15 => ?_)
      · exact absurd c_15 (nI_ne0 (by omega) (by omega))
      · refine E_aload_n dX7_complete_18 rfl ?_
        refine E_getf 5 dX7_complete_19 fl_X7_27 (by decide) (hg_18 _) rfl ?_
        refine E_getf 2 dX7_complete_22 fl_X7_47 (ch_ge ht) hcell rfl ?_
        refine E_iload dX7_complete_25 rfl ?_
        refine E_isub dX7_complete_27 ?_
        rw [pk_sub hwl]
        refine E_iload dX7_complete_28 rfl ?_
        refine E_iadd dX7_complete_30 ?_
        rw [nI_add]
        refine E_iload_n dX7_complete_31 rfl ?_
        refine E_if_eq 39 dX7_complete_32 (by decide) (fun c_32 => ?_) (fun c_32 => ?_)
        · refine E_iconst (v := 0) dX7_complete_39 rfl ?_
          refine E_iadd dX7_complete_40 ?_
          rw [show nI (r.length - wr r + L) + 0 = nI (r.length - wr r + L) from nI_add _ 0]
          refine E_sipush (v := 200) dX7_complete_41 rfl ?_
          refine E_icmp_le 48 dX7_complete_44 (by decide) (fun c_44 => ?_) (fun c_44 => ?_)
          · refine E.pick [2, 3, 4, 5, 1, 0] rfl ?_
            have hle : r.length - wr r + L ≤ 200 := (nI_leI (b := 200) (by omega) (by omega)).mp c_44
            rw [if_pos (show cmOK false L r.length (wr r) from ⟨hL0, by rw [if_neg (by decide)]; omega⟩)]
            exact go (by omega)
          · exact E_vret dX7_complete_47 rfl ⟨rfl, by rw [if_neg (fun h : cmOK false L r.length (wr r) => c_44 (nI_le (b := 200) (by have := h.2; rw [if_neg (by decide)] at this; omega) (by omega)))]⟩
        · exact absurd (by decide) c_32
