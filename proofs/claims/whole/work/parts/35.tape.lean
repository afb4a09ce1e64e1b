/-! THE TAPE: feed, end; a word, a row of letters -/
theorem c_complete_none {z : Sg} {n : Nat} (hk : bkOK z n) {r : List Int32} (ht : ch z.D z.T r) (hl : r.length ≤ 200) (w s : Int32) (hw : ¬ ltN w (z.F 24 3)) : EM mSheet_complete 3 13 39 [.ref 18, .ref 24, .int w, .int s] (hp z) (Det none (hp z)) := by
  have hsz : EM mBook_sizeOf 1 0 0 [.ref 24, .int w] (hp z) (Det (some (.int 0)) (hp z)) := by
    have h9 := c_sizeOf z (bk_le hk) w
    unfold bg at h9
    rw [if_neg hw] at h9
    exact h9
  refine E_aload_n dX7_complete_0 rfl ?_
  refine E_iload_n dX7_complete_1 rfl ?_
  refine E_V1 dX7_complete_2 cv_X7_57 (by decide) (hg_24 _) rfl rfl (Nat.le_of_ble_eq_true rfl) (Nat.le_of_ble_eq_true rfl) (hsz) (by decide) (Nat.zero_le _) (Nat.zero_le _) ?_
  refine E_istore dX7_complete_5 (by decide) rfl ?_
  refine E_aload_n dX7_complete_7 rfl ?_
  refine E_V0 dX7_complete_8 cv_X7_63 (by decide) (hg_18 _) rfl rfl (Nat.le_of_ble_eq_true rfl) (Nat.le_of_ble_eq_true rfl) (c_written z r hl ht) (by decide) (Nat.zero_le _) (Nat.zero_le _) ?_
  refine E_istore dX7_complete_11 (by decide) rfl ?_
  refine E_iload dX7_complete_13 rfl ?_
  refine E_if_eq 47 dX7_complete_15 (by decide) (fun c_15 => ?_) (fun c_15 => ?_)
  · exact E_vret dX7_complete_47 rfl ⟨rfl, rfl⟩
  · exact absurd rfl c_15
def fbx (one other : Int32) (i : Nat) : Int32 := ((if i < 4 then one else other).toUInt32 >>> ((24 - 8 * (nI i &&& 3)).toUInt32 &&& Int32.toUInt32 31)).toInt32 &&& 255
theorem c_fedByte (z : HP) (one other : Int32) (i : Nat) (hi : i < 8) : EM mTape_fedByte 0 0 0 [.int one, .int other, .int (nI i)] z (Det (some (.int (fbx one other i))) z) := by
  refine E_iload_n dX8_fedByte_0 rfl ?_
  refine E_iconst (v := 4) dX8_fedByte_1 rfl ?_
  refine E_icmp_ge 9 dX8_fedByte_2 (by decide) (fun c_2 => ?_) (fun c_2 => ?_)
  · refine E_iload_n dX8_fedByte_9 rfl ?_
    refine E_istore_n dX8_fedByte_10 (by decide) rfl ?_
    refine E_iload_n dX8_fedByte_11 rfl ?_
    refine E_bipush (v := 24) dX8_fedByte_12 rfl ?_
    refine E_bipush (v := 8) dX8_fedByte_14 rfl ?_
    refine E_iload_n dX8_fedByte_16 rfl ?_
    refine E_iconst (v := 3) dX8_fedByte_17 rfl ?_
    refine E_iand dX8_fedByte_18 ?_
    refine E_imul dX8_fedByte_19 ?_
    refine E_isub dX8_fedByte_20 ?_
    refine E_iushr dX8_fedByte_21 ?_
    refine E_sipush (v := 255) dX8_fedByte_22 rfl ?_
    refine E_iand dX8_fedByte_25 ?_
    exact E_iret dX8_fedByte_26 rfl rfl ⟨by first | (rw [fbx, if_neg (show ¬ i < 4 from fun h => nI_ge (b := 4) h (by omega) c_2)]) | (rw [fbx, if_pos (show i < 4 by rcases Nat.lt_or_ge i 4 with h | h; exact h; exact absurd (nI_le (a := 4) h (by omega)) c_2)]), rfl⟩
  · refine E_iload_n dX8_fedByte_5 rfl ?_
    refine E_goto 10 dX8_fedByte_6 (by decide) ?_
    refine E_istore_n dX8_fedByte_10 (by decide) rfl ?_
    refine E_iload_n dX8_fedByte_11 rfl ?_
    refine E_bipush (v := 24) dX8_fedByte_12 rfl ?_
    refine E_bipush (v := 8) dX8_fedByte_14 rfl ?_
    refine E_iload_n dX8_fedByte_16 rfl ?_
    refine E_iconst (v := 3) dX8_fedByte_17 rfl ?_
    refine E_iand dX8_fedByte_18 ?_
    refine E_imul dX8_fedByte_19 ?_
    refine E_isub dX8_fedByte_20 ?_
    refine E_iushr dX8_fedByte_21 ?_
    refine E_sipush (v := 255) dX8_fedByte_22 rfl ?_
    refine E_iand dX8_fedByte_25 ?_
    exact E_iret dX8_fedByte_26 rfl rfl ⟨by first | (rw [fbx, if_neg (show ¬ i < 4 from fun h => nI_ge (b := 4) h (by omega) c_2)]) | (rw [fbx, if_pos (show i < 4 by rcases Nat.lt_or_ge i 4 with h | h; exact h; exact absurd (nI_le (a := 4) h (by omega)) c_2)]), rfl⟩
def cfb (one other : Int32) : Nat → Nat → Nat → Nat
  | 0, _, c => c
  | m + 1, i, c => cfb one other m (i + 1) (if fbx one other i = 0 then c else c + 1)
def wfb (one other : Int32) : Nat → Nat → Sg → Sg
  | 0, _, z => z
  | m + 1, i, z => if 26 ≤ z.F 22 1 then z else wfb one other m (i + 1) (if fbx one other i = 0 then z else stF (stA z 23 (upd (z.A 23) (z.F 22 1).toNatClampNeg (fbx one other i))) 22 1 (z.F 22 1 + 1))
theorem l_wfb (one other c3 : Int32) : ∀ (m i t : Nat) (z : Sg), i + m = 8 → t ≤ 26 → z.F 22 1 = nI t → E mTape_take 1 0 0 47 [(0, .ref 22), (1, .int one), (2, .int other), (3, .int c3), (4, .int (nI i))] [] (hp z) (Det (some (.int ((wfb one other m i z).F 22 1))) (hp (wfb one other m i z))) := by
  intro m
  induction m with
  | zero =>
    intro i t z hi ht hF
    refine E_iload dX8_take_47 rfl ?_
    refine E_bipush (v := 8) dX8_take_49 rfl ?_
    refine E_icmp_ge 104 dX8_take_51 (by decide) (fun c_51 => ?_) (fun c_51 => ?_)
    · refine E_aload_n dX8_take_104 rfl ?_
      refine E_getf 1 dX8_take_105 fl_X8_19 (by decide) (hg_22 _) rfl ?_
      exact E_iret dX8_take_108 rfl rfl ⟨rfl, rfl⟩
    · exact absurd (nI_le (a := 8) (by omega) (by omega)) c_51
  | succ m ih =>
    intro i t z hi ht hF
    refine E_iload dX8_take_47 rfl ?_
    refine E_bipush (v := 8) dX8_take_49 rfl ?_
    refine E_icmp_ge 104 dX8_take_51 (by decide) (fun c_51 => ?_) (fun c_51 => ?_)
    · exact absurd c_51 (nI_ge (b := 8) (by omega) (by omega))
    · refine E_aload_n dX8_take_54 rfl ?_
      refine E_getf 1 dX8_take_55 fl_X8_19 (by decide) (hg_22 _) rfl ?_
      refine E_bipush (v := 26) dX8_take_58 rfl ?_
      refine E_icmp_ge 104 dX8_take_60 (by decide) (fun c_60 => ?_) (fun c_60 => ?_)
      · refine E_aload_n dX8_take_104 rfl ?_
        refine E_getf 1 dX8_take_105 fl_X8_19 (by decide) (hg_22 _) rfl ?_
        exact E_iret dX8_take_108 rfl rfl ⟨by rw [wfb, if_pos c_60], by rw [wfb, if_pos c_60]⟩
      · have hlt : t < 26 := by
          rcases Nat.lt_or_ge t 26 with h | h
          · exact h
          · exact absurd (by rw [hF]; exact nI_le (a := 26) h (by omega)) c_60
        refine E_iload_n dX8_take_63 rfl ?_
        refine E_iload_n dX8_take_64 rfl ?_
        refine E_iload dX8_take_65 rfl ?_
        refine E_S3 dX8_take_67 cs_X8_15 (Nat.le_of_ble_eq_true rfl) (Nat.le_of_ble_eq_true rfl) (c_fedByte _ one other i (by omega)) (by decide) (Nat.zero_le _) (Nat.zero_le _) ?_
        refine E_istore dX8_take_70 (by decide) rfl ?_
        refine E_iload dX8_take_72 rfl ?_
        refine E_if_eq 98 dX8_take_74 (by decide) (fun c_74 => ?_) (fun c_74 => ?_)
        · refine E_iincL 1 dX8_take_98 rfl rfl (by decide) rfl ?_
          rw [nI_1]
          refine E_goto 47 dX8_take_101 (by decide) ?_
          refine E.pick [2, 3, 4, 5, 0] rfl ?_
          rw [wfb, if_neg c_60]
          first | exact (by rw [if_pos c_74]; exact ih (i + 1) t z (by omega) ht hF) | exact (by rw [if_neg c_74]; exact ih (i + 1) (t + 1) _ (by omega) (by omega) (by show z.F 22 1 + 1 = nI (t + 1); rw [hF, nI_1]))
        · refine E_aload_n dX8_take_77 rfl ?_
          refine E_getf 0 dX8_take_78 fl_X8_11 (by decide) (hg_22 _) rfl ?_
          refine E_aload_n dX8_take_81 rfl ?_
          refine E_getf 1 dX8_take_82 fl_X8_19 (by decide) (hg_22 _) rfl ?_
          refine E_iload dX8_take_85 rfl ?_
          refine E_iast dX8_take_87 (by decide) (hg_23 _) (by rw [hF]; exact vp_in_nI hlt (by omega)) ?_
          rw [hs_23]
          refine E_aload_n dX8_take_88 rfl ?_
          refine E_dup dX8_take_89 rfl ?_
          refine E_getf 1 (v := .int (z.F 22 1)) dX8_take_90 fl_X8_19 (by decide) (hg_22 _) rfl ?_
          refine E_iconst (v := 1) dX8_take_93 rfl ?_
          refine E_iadd dX8_take_94 ?_
          refine E_put 1 dX8_take_95 fp_X8_19 (fitsV_int _) (by decide) (hg_22 _) (Nat.le_of_ble_eq_true rfl) ?_
          rw [hs_22_1]
          refine E_iincL 1 dX8_take_98 rfl rfl (by decide) rfl ?_
          rw [nI_1]
          refine E_goto 47 dX8_take_101 (by decide) ?_
          refine E.pick [2, 3, 4, 5, 0] rfl ?_
          rw [wfb, if_neg c_60]
          first | exact (by rw [if_pos c_74]; exact ih (i + 1) t z (by omega) ht hF) | exact (by rw [if_neg c_74]; exact ih (i + 1) (t + 1) _ (by omega) (by omega) (by show z.F 22 1 + 1 = nI (t + 1); rw [hF, nI_1]))
theorem cfb_le (one other : Int32) : ∀ (m i c : Nat), cfb one other m i c ≤ c + m
  | 0, _, c => Nat.le_refl c
  | m + 1, i, c => by
    rw [cfb]
    by_cases h : fbx one other i = 0
    · rw [if_pos h]
      have h9 := cfb_le one other m (i + 1) c
      omega
    · rw [if_neg h]
      have h9 := cfb_le one other m (i + 1) (c + 1)
      omega
def fdD (one other : Int32) (t : Nat) (z : Sg) : Sg := if t + cfb one other 8 0 0 ≤ 26 then wfb one other 8 0 z else z
theorem l_cfb (one other : Int32) {t : Nat} (ht : t ≤ 26) (z : Sg) (hF : z.F 22 1 = nI t) : ∀ (m i c : Nat), i + m = 8 → c ≤ i → E mTape_take 1 0 0 5 [(0, .ref 22), (1, .int one), (2, .int other), (3, .int (nI c)), (4, .int (nI i))] [] (hp z) (Det (some (.int (if t + cfb one other m i c ≤ 26 then (wfb one other 8 0 z).F 22 1 else (-1)))) (hp (if t + cfb one other m i c ≤ 26 then wfb one other 8 0 z else z))) := by
  intro m
  induction m with
  | zero =>
    intro i c hi hc
    rw [cfb]
    refine E_iload dX8_take_5 rfl ?_
    refine E_bipush (v := 8) dX8_take_7 rfl ?_
    refine E_icmp_ge 31 dX8_take_9 (by decide) (fun c_9 => ?_) (fun c_9 => ?_)
    · refine E_aload_n dX8_take_31 rfl ?_
      refine E_getf 1 dX8_take_32 fl_X8_19 (by decide) (hg_22 _) rfl ?_
      refine E_iload_n dX8_take_35 rfl ?_
      rw [hF]
      refine E_iadd dX8_take_36 ?_
      rw [nI_add]
      refine E_bipush (v := 26) dX8_take_37 rfl ?_
      refine E_icmp_le 44 dX8_take_39 (by decide) (fun c_39 => ?_) (fun c_39 => ?_)
      · refine E_iconst (v := 0) dX8_take_44 rfl ?_
        refine E_istore dX8_take_45 (by decide) rfl ?_
        refine E.pick [1, 2, 3, 4, 0] rfl ?_
        have h9 := (nI_leI (b := 26) (by omega) (by omega)).mp c_39
        rw [if_pos h9, if_pos h9]
        exact l_wfb one other (nI c) 8 0 t z (by omega) ht hF
      · refine E_iconst (v := (-1)) dX8_take_42 rfl ?_
        exact E_iret dX8_take_43 rfl rfl ⟨by rw [if_neg (fun h => c_39 (nI_le (b := 26) h (by omega)))], by rw [if_neg (fun h => c_39 (nI_le (b := 26) h (by omega)))]⟩
    · exact absurd (nI_le (a := 8) (by omega) (by omega)) c_9
  | succ m ih =>
    intro i c hi hc
    rw [cfb]
    refine E_iload dX8_take_5 rfl ?_
    refine E_bipush (v := 8) dX8_take_7 rfl ?_
    refine E_icmp_ge 31 dX8_take_9 (by decide) (fun c_9 => ?_) (fun c_9 => ?_)
    · exact absurd c_9 (nI_ge (b := 8) (by omega) (by omega))
    · refine E_iload_n dX8_take_12 rfl ?_
      refine E_iload_n dX8_take_13 rfl ?_
      refine E_iload dX8_take_14 rfl ?_
      refine E_S3 dX8_take_16 cs_X8_15 (Nat.le_of_ble_eq_true rfl) (Nat.le_of_ble_eq_true rfl) (c_fedByte _ one other i (by omega)) (by decide) (Nat.zero_le _) (Nat.zero_le _) ?_
      refine E_if_eq 25 dX8_take_19 (by decide) (fun c_19 => ?_) (fun c_19 => ?_)
      · try rw [nI_1]
        refine E_iincL 1 dX8_take_25 rfl rfl (by decide) rfl ?_
        rw [nI_1]
        refine E_goto 5 dX8_take_28 (by decide) ?_
        refine E.pick [1, 2, 3, 4, 0] rfl ?_
        first | exact (by rw [if_pos c_19]; exact ih (i + 1) c (by omega) (by omega)) | exact (by rw [if_neg c_19]; exact ih (i + 1) (c + 1) (by omega) (by omega))
      · refine E_iincL 1 dX8_take_22 rfl rfl (by decide) rfl ?_
        try rw [nI_1]
        refine E_iincL 1 dX8_take_25 rfl rfl (by decide) rfl ?_
        rw [nI_1]
        refine E_goto 5 dX8_take_28 (by decide) ?_
        refine E.pick [2, 3, 4, 1, 0] rfl ?_
        first | exact (by rw [if_pos c_19]; exact ih (i + 1) c (by omega) (by omega)) | exact (by rw [if_neg c_19]; exact ih (i + 1) (c + 1) (by omega) (by omega))
theorem c_Tape_take (one other : Int32) {t : Nat} (ht : t ≤ 26) (z : Sg) (hF : z.F 22 1 = nI t) : EM mTape_take 1 0 0 [.ref 22, .int one, .int other] (hp z) (Det (some (.int (if t + cfb one other 8 0 0 ≤ 26 then (wfb one other 8 0 z).F 22 1 else (-1)))) (hp (if t + cfb one other 8 0 0 ≤ 26 then wfb one other 8 0 z else z))) := by
  refine E_iconst (v := 0) dX8_take_0 rfl ?_
  refine E_istore_n dX8_take_1 (by decide) rfl ?_
  refine E_iconst (v := 0) dX8_take_2 rfl ?_
  refine E_istore dX8_take_3 (by decide) rfl ?_
  refine E.pick [2, 3, 4, 1, 0] rfl ?_
  exact l_cfb one other ht z hF 8 0 0 (by omega) (by omega)
theorem c_feed (one other : Int32) {t : Nat} (ht : t ≤ 26) (z : Sg) (hF : z.F 22 1 = nI t) : EM mDesk_feed 2 0 0 [.ref 3, .int one, .int other] (hp z) (Det (some (.int (if t + cfb one other 8 0 0 ≤ 26 then (wfb one other 8 0 z).F 22 1 else (-1)))) (hp (if t + cfb one other 8 0 0 ≤ 26 then wfb one other 8 0 z else z))) := by
  refine E_aload_n dX10_feed_0 rfl ?_
  refine E_getf 4 dX10_feed_1 fl_X10_42 (by decide) (hg_3 _) rfl ?_
  refine E_iload_n dX10_feed_4 rfl ?_
  refine E_iload_n dX10_feed_5 rfl ?_
  refine E_V2 dX10_feed_6 cv_X10_148 (by decide) (hg_22 _) rfl rfl (Nat.le_of_ble_eq_true rfl) (Nat.le_of_ble_eq_true rfl) (c_Tape_take one other ht z hF) (by decide) (Nat.zero_le _) (Nat.zero_le _) ?_
  exact E_iret dX10_feed_9 rfl rfl ⟨rfl, rfl⟩
theorem c_end (z : Sg) (x : Int32) : EM mDesk_end 2 0 0 [.ref 3, .int x] (hp z) (Det (some (.int (b2i (inB x 0 (z.F 22 1))))) (hp (if inB x 0 (z.F 22 1) then stF z 22 1 x else z))) := by
  refine E_aload_n dX10_end_0 rfl ?_
  refine E_getf 4 dX10_end_1 fl_X10_42 (by decide) (hg_3 _) rfl ?_
  refine E_iload_n dX10_end_4 rfl ?_
  refine E_V1 dX10_end_5 cv_X10_151 (by decide) (hg_22 _) rfl rfl (Nat.le_of_ble_eq_true rfl) (Nat.le_of_ble_eq_true rfl) (c_cut z x) (by decide) (Nat.zero_le _) (Nat.zero_le _) ?_
  exact E_iret dX10_end_8 rfl b2i_nar ⟨rfl, rfl⟩
abbrev allL (f : Nat → Int32) (t : Nat) : Prop := 0 < t ∧ ∀ j, j < t → isL (f j)
theorem l_lettersAlone {t : Nat} (ht : t ≤ 26) (z : Sg) (hF : z.F 22 1 = nI t) : ∀ (m i : Nat), i + m = t → (∀ j, j < i → isL (z.A 23 j)) → E mTape_lettersAlone 1 0 0 2 [(0, .ref 22), (1, .int (nI i))] [] (hp z) (Det (some (.int (b2i (0 < t ∧ ∀ j, j < t → isL (z.A 23 j))))) (hp z)) := by
  intro m
  induction m with
  | zero =>
    intro i hi hj
    refine E_iload_n dX8_lettersAlone_2 rfl ?_
    refine E_aload_n dX8_lettersAlone_3 rfl ?_
    refine E_getf 1 dX8_lettersAlone_4 fl_X8_19 (by decide) (hg_22 _) rfl ?_
    rw [hF]
    refine E_icmp_ge 30 dX8_lettersAlone_7 (by decide) (fun c_7 => ?_) (fun c_7 => ?_)
    · refine E_aload_n dX8_lettersAlone_30 rfl ?_
      refine E_getf 1 dX8_lettersAlone_31 fl_X8_19 (by decide) (hg_22 _) rfl ?_
      rw [hF]
      refine E_if_le 41 dX8_lettersAlone_34 (by decide) (fun c_34 => ?_) (fun c_34 => ?_)
      · refine E_iconst (v := 0) dX8_lettersAlone_41 rfl ?_
        exact E_iret dX8_lettersAlone_42 rfl rfl ⟨by first | exact si_t ⟨by rcases Nat.eq_zero_or_pos t with h | h; exact absurd (by rw [h]; decide) c_34; exact h, fun j h => hj j (by omega)⟩ | exact si_f (fun h => nI_nle h.1 (by omega) c_34), rfl⟩
      · refine E_iconst (v := 1) dX8_lettersAlone_37 rfl ?_
        refine E_goto 42 dX8_lettersAlone_38 (by decide) ?_
        exact E_iret dX8_lettersAlone_42 rfl rfl ⟨by first | exact si_t ⟨by rcases Nat.eq_zero_or_pos t with h | h; exact absurd (by rw [h]; decide) c_34; exact h, fun j h => hj j (by omega)⟩ | exact si_f (fun h => nI_nle h.1 (by omega) c_34), rfl⟩
    · exact absurd (nI_le (by omega) (by omega)) c_7
  | succ m ih =>
    intro i hi hj
    have hcl : (nI i).toNatClampNeg = i := nI_clamp (by omega)
    refine E_iload_n dX8_lettersAlone_2 rfl ?_
    refine E_aload_n dX8_lettersAlone_3 rfl ?_
    refine E_getf 1 dX8_lettersAlone_4 fl_X8_19 (by decide) (hg_22 _) rfl ?_
    rw [hF]
    refine E_icmp_ge 30 dX8_lettersAlone_7 (by decide) (fun c_7 => ?_) (fun c_7 => ?_)
    · exact absurd c_7 (nI_ge (by omega) (by omega))
    · refine E_aload_n dX8_lettersAlone_10 rfl ?_
      refine E_getf 0 dX8_lettersAlone_11 fl_X8_11 (by decide) (hg_22 _) rfl ?_
      refine E_iload_n dX8_lettersAlone_14 rfl ?_
      refine E_iald dX8_lettersAlone_15 (by decide) (hg_23 _) (vp_in_nI (by omega) (by omega)) ?_
      rw [hcl]
      refine E_S1 dX8_lettersAlone_16 cs_X8_31 (Nat.le_of_ble_eq_true rfl) (Nat.le_of_ble_eq_true rfl) (c_isLetter _ _) (by decide) (Nat.zero_le _) (Nat.zero_le _) ?_
      refine E_if_ne 24 dX8_lettersAlone_19 (by decide) (fun c_19 => ?_) (fun c_19 => ?_)
      · refine E_iincL 1 dX8_lettersAlone_24 rfl rfl (by decide) rfl ?_
        rw [nI_1]
        refine E_goto 2 dX8_lettersAlone_27 (by decide) ?_
        refine E.pick [1, 0] rfl ?_
        exact ih (i + 1) (by omega) (fun j h => by by_cases e : j = i; exact e ▸ b2i_ne c_19; exact hj j (by omega))
      · refine E_iconst (v := 0) dX8_lettersAlone_22 rfl ?_
        exact E_iret dX8_lettersAlone_23 rfl rfl ⟨si_f (fun h => b2i_e0 c_19 (h.2 i (by omega))), rfl⟩
theorem c_lettersAlone {t : Nat} (ht : t ≤ 26) (z : Sg) (hF : z.F 22 1 = nI t) : EM mTape_lettersAlone 1 0 0 [.ref 22] (hp z) (Det (some (.int (b2i (0 < t ∧ ∀ j, j < t → isL (z.A 23 j))))) (hp z)) := by
  refine E_iconst (v := 0) dX8_lettersAlone_0 rfl ?_
  refine E_istore_n dX8_lettersAlone_1 (by decide) rfl ?_
  refine E.pick [1, 0] rfl ?_
  exact l_lettersAlone ht z hF t 0 (by omega) (fun j h => absurd h (Nat.not_lt_zero j))
abbrev wdP (f : Nat → Int32) (t : Nat) : Prop := t ≤ 12 ∧ 0 < t ∧ ∀ j, j < t → isL (f j)
theorem c_isWord {t : Nat} (ht : t ≤ 26) (z : Sg) (hF : z.F 22 1 = nI t) : EM mTape_isWord 2 0 0 [.ref 22] (hp z) (Det (some (.int (b2i (wdP (z.A 23) t)))) (hp z)) := by
  refine E_aload_n dX8_isWord_0 rfl ?_
  refine E_getf 1 dX8_isWord_1 fl_X8_19 (by decide) (hg_22 _) rfl ?_
  refine E_bipush (v := 12) dX8_isWord_4 rfl ?_
  rw [hF]
  refine E_icmp_gt 20 dX8_isWord_6 (by decide) (fun c_6 => ?_) (fun c_6 => ?_)
  · refine E_iconst (v := 0) dX8_isWord_20 rfl ?_
    exact E_iret dX8_isWord_21 rfl rfl ⟨by first | exact si_f (p := wdP (z.A 23) t) (fun h => absurd (nI_le (b := 12) h.1 (by omega)) (by rw [i32_le]; rw [i32_lt] at c_6; exact Int.not_le.mpr c_6)) | exact si_f (p := wdP (z.A 23) t) (fun h => b2i_e0 c_13 h.2) | exact si_t (p := wdP (z.A 23) t) ⟨(nI_leI (b := 12) (by omega) (by omega)).mp (show nI t ≤ nI 12 by rw [i32_le]; rw [i32_lt] at c_6; exact Int.not_lt.mp c_6), b2i_ne c_13⟩, rfl⟩
  · refine E_aload_n dX8_isWord_9 rfl ?_
    refine E_V0 dX8_isWord_10 cv_X8_27 (by decide) (hg_22 _) rfl rfl (Nat.le_of_ble_eq_true rfl) (Nat.le_of_ble_eq_true rfl) (c_lettersAlone ht z hF) (by decide) (Nat.zero_le _) (Nat.zero_le _) ?_
    refine E_if_eq 20 dX8_isWord_13 (by decide) (fun c_13 => ?_) (fun c_13 => ?_)
    · refine E_iconst (v := 0) dX8_isWord_20 rfl ?_
      exact E_iret dX8_isWord_21 rfl rfl ⟨by first | exact si_f (p := wdP (z.A 23) t) (fun h => absurd (nI_le (b := 12) h.1 (by omega)) (by rw [i32_le]; rw [i32_lt] at c_6; exact Int.not_le.mpr c_6)) | exact si_f (p := wdP (z.A 23) t) (fun h => b2i_e0 c_13 h.2) | exact si_t (p := wdP (z.A 23) t) ⟨(nI_leI (b := 12) (by omega) (by omega)).mp (show nI t ≤ nI 12 by rw [i32_le]; rw [i32_lt] at c_6; exact Int.not_lt.mp c_6), b2i_ne c_13⟩, rfl⟩
    · refine E_iconst (v := 1) dX8_isWord_16 rfl ?_
      refine E_goto 21 dX8_isWord_17 (by decide) ?_
      exact E_iret dX8_isWord_21 rfl rfl ⟨by first | exact si_f (p := wdP (z.A 23) t) (fun h => absurd (nI_le (b := 12) h.1 (by omega)) (by rw [i32_le]; rw [i32_lt] at c_6; exact Int.not_le.mpr c_6)) | exact si_f (p := wdP (z.A 23) t) (fun h => b2i_e0 c_13 h.2) | exact si_t (p := wdP (z.A 23) t) ⟨(nI_leI (b := 12) (by omega) (by omega)).mp (show nI t ≤ nI 12 by rw [i32_le]; rw [i32_lt] at c_6; exact Int.not_lt.mp c_6), b2i_ne c_13⟩, rfl⟩
def rowM (f : Nat → Int32) : Nat → Nat → Int32 → Bool
  | 0, _, _ => true
  | m + 1, i, sn => if sn &&& (1 <<< ((f i - 97) &&& 31)) = 0 then rowM f m (i + 1) (sn ||| (1 <<< ((f i - 97) &&& 31))) else false
theorem l_isRow {t : Nat} (ht : t ≤ 26) (z : Sg) (hF : z.F 22 1 = nI t) : ∀ (m i : Nat) (sn : Int32), i + m = t → E mTape_isRow 2 0 0 13 [(0, .ref 22), (1, .int sn), (2, .int (nI i))] [] (hp z) (Det (some (.int (b2i (rowM (z.A 23) m i sn = true)))) (hp z)) := by
  intro m
  induction m with
  | zero =>
    intro i sn hi
    refine E_iload_n dX8_isRow_13 rfl ?_
    refine E_aload_n dX8_isRow_14 rfl ?_
    refine E_getf 1 dX8_isRow_15 fl_X8_19 (by decide) (hg_22 _) rfl ?_
    rw [hF]
    refine E_icmp_ge 51 dX8_isRow_18 (by decide) (fun c_18 => ?_) (fun c_18 => ?_)
    · refine E_iconst (v := 1) dX8_isRow_51 rfl ?_
      exact E_iret dX8_isRow_52 rfl rfl ⟨si_t rfl, rfl⟩
    · exact absurd (nI_le (by omega) (by omega)) c_18
  | succ m ih =>
    intro i sn hi
    have hcl : (nI i).toNatClampNeg = i := nI_clamp (by omega)
    refine E_iload_n dX8_isRow_13 rfl ?_
    refine E_aload_n dX8_isRow_14 rfl ?_
    refine E_getf 1 dX8_isRow_15 fl_X8_19 (by decide) (hg_22 _) rfl ?_
    rw [hF]
    refine E_icmp_ge 51 dX8_isRow_18 (by decide) (fun c_18 => ?_) (fun c_18 => ?_)
    · exact absurd c_18 (nI_ge (by omega) (by omega))
    · refine E_iconst (v := 1) dX8_isRow_21 rfl ?_
      refine E_aload_n dX8_isRow_22 rfl ?_
      refine E_getf 0 dX8_isRow_23 fl_X8_11 (by decide) (hg_22 _) rfl ?_
      refine E_iload_n dX8_isRow_26 rfl ?_
      refine E_iald dX8_isRow_27 (by decide) (hg_23 _) (vp_in_nI (by omega) (by omega)) ?_
      rw [hcl]
      refine E_bipush (v := 97) dX8_isRow_28 rfl ?_
      refine E_isub dX8_isRow_30 ?_
      refine E_ishl dX8_isRow_31 ?_
      refine E_istore_n dX8_isRow_32 (by decide) rfl ?_
      refine E_iload_n dX8_isRow_33 rfl ?_
      refine E_iload_n dX8_isRow_34 rfl ?_
      refine E_iand dX8_isRow_35 ?_
      refine E_if_eq 41 dX8_isRow_36 (by decide) (fun c_36 => ?_) (fun c_36 => ?_)
      · refine E_iload_n dX8_isRow_41 rfl ?_
        refine E_iload_n dX8_isRow_42 rfl ?_
        refine E_ior dX8_isRow_43 ?_
        refine E_istore_n dX8_isRow_44 (by decide) rfl ?_
        refine E_iincL 1 dX8_isRow_45 rfl rfl (by decide) rfl ?_
        rw [nI_1]
        refine E_goto 13 dX8_isRow_48 (by decide) ?_
        refine E.pick [3, 1, 0] rfl ?_
        rw [rowM, if_pos c_36]
        exact ih (i + 1) _ (by omega)
      · refine E_iconst (v := 0) dX8_isRow_39 rfl ?_
        exact E_iret dX8_isRow_40 rfl rfl ⟨si_f (by rw [rowM, if_neg c_36]; decide), rfl⟩
theorem c_Tape_isRow {t : Nat} (ht : t ≤ 26) (z : Sg) (hF : z.F 22 1 = nI t) : EM mTape_isRow 2 0 0 [.ref 22] (hp z) (Det (some (.int (b2i ((0 < t ∧ ∀ j, j < t → isL (z.A 23 j)) ∧ rowM (z.A 23) t 0 0 = true)))) (hp z)) := by
  refine E_aload_n dX8_isRow_0 rfl ?_
  refine E_V0 dX8_isRow_1 cv_X8_27 (by decide) (hg_22 _) rfl rfl (Nat.le_of_ble_eq_true rfl) (Nat.le_of_ble_eq_true rfl) (c_lettersAlone ht z hF) (by decide) (Nat.zero_le _) (Nat.zero_le _) ?_
  refine E_if_ne 9 dX8_isRow_4 (by decide) (fun c_4 => ?_) (fun c_4 => ?_)
  · refine E_iconst (v := 0) dX8_isRow_9 rfl ?_
    refine E_istore_n dX8_isRow_10 (by decide) rfl ?_
    refine E_iconst (v := 0) dX8_isRow_11 rfl ?_
    refine E_istore_n dX8_isRow_12 (by decide) rfl ?_
    refine E.pick [2, 1, 0] rfl ?_
    rw [show b2i ((0 < t ∧ ∀ j, j < t → isL (z.A 23 j)) ∧ rowM (z.A 23) t 0 0 = true) = b2i (rowM (z.A 23) t 0 0 = true) by by_cases h : rowM (z.A 23) t 0 0 = true; rw [b2i_t h, b2i_t ⟨b2i_ne c_4, h⟩]; rw [b2i_f h, b2i_f (fun h9 => h h9.2)]]
    exact l_isRow ht z hF t 0 0 (by omega)
  · refine E_iconst (v := 0) dX8_isRow_7 rfl ?_
    exact E_iret dX8_isRow_8 rfl rfl ⟨si_f (fun h => b2i_e0 c_4 h.1), rfl⟩
