/-! THE MODEL: tape, words -/
def mby (v : Int32) (k : Int32) : Int32 := (v >>> (k &&& 31)) &&& 255
def mbc (v : Int32) : Nat := (if mby v 24 = 0 then 0 else 1) + (if mby v 16 = 0 then 0 else 1) + (if mby v 8 = 0 then 0 else 1) + (if mby v 0 = 0 then 0 else 1)
theorem bi_step (z : HP) (v : Int32) (c : Nat) (k k2 : Int32) (hk : ¬ k < 0) (hk2 : k + (-8) = k2) (Q : Option Value → HP → Prop) (K : E mMod_bytesIn 0 0 0 5 [(0, .int v), (1, .int (nI (c + (if mby v k = 0 then 0 else 1)))), (2, .int k2)] [] z Q) : E mMod_bytesIn 0 0 0 5 [(0, .int v), (1, .int (nI c)), (2, .int k)] [] z Q := by
  refine E_iload_n dX11_bytesIn_5 rfl ?_
  refine E_if_lt 33 dX11_bytesIn_6 (by decide) (fun c_6 => ?_) (fun c_6 => ?_)
  · exact absurd c_6 hk
  · refine E_iload_n dX11_bytesIn_9 rfl ?_
    refine E_iload_n dX11_bytesIn_10 rfl ?_
    refine E_iload_n dX11_bytesIn_11 rfl ?_
    refine E_ishr dX11_bytesIn_12 ?_
    refine E_sipush (v := 255) dX11_bytesIn_13 rfl ?_
    refine E_iand dX11_bytesIn_16 ?_
    refine E_if_eq 24 dX11_bytesIn_17 (by decide) (fun c_17 => ?_) (fun c_17 => ?_)
    · refine E_iconst (v := 0) dX11_bytesIn_24 rfl ?_
      refine E_iadd dX11_bytesIn_25 ?_
      first | rw [show nI c + 0 = nI (c + 0) from nI_add c 0] | rw [show nI c + 1 = nI (c + 1) from nI_add c 1]
      refine E_istore_n dX11_bytesIn_26 (by decide) rfl ?_
      refine E_iincL (-8) dX11_bytesIn_27 rfl rfl (by decide) rfl ?_
      rw [hk2]
      refine E_goto 5 dX11_bytesIn_30 (by decide) ?_
      refine E.pick [2, 1, 0] rfl ?_
      first | exact (by rw [if_pos (show mby v k = 0 from c_17)] at K; exact K) | exact (by rw [if_neg (show ¬ mby v k = 0 from c_17)] at K; exact K)
    · refine E_iconst (v := 1) dX11_bytesIn_20 rfl ?_
      refine E_goto 25 dX11_bytesIn_21 (by decide) ?_
      refine E_iadd dX11_bytesIn_25 ?_
      first | rw [show nI c + 0 = nI (c + 0) from nI_add c 0] | rw [show nI c + 1 = nI (c + 1) from nI_add c 1]
      refine E_istore_n dX11_bytesIn_26 (by decide) rfl ?_
      refine E_iincL (-8) dX11_bytesIn_27 rfl rfl (by decide) rfl ?_
      rw [hk2]
      refine E_goto 5 dX11_bytesIn_30 (by decide) ?_
      refine E.pick [2, 1, 0] rfl ?_
      first | exact (by rw [if_pos (show mby v k = 0 from c_17)] at K; exact K) | exact (by rw [if_neg (show ¬ mby v k = 0 from c_17)] at K; exact K)
theorem c_bytesIn (z : HP) (v : Int32) : EM mMod_bytesIn 0 0 0 [.int v] z (Det (some (.int (nI (mbc v)))) z) := by
  refine E_iconst (v := 0) dX11_bytesIn_0 rfl ?_
  refine E_istore_n dX11_bytesIn_1 (by decide) rfl ?_
  refine E_bipush (v := 24) dX11_bytesIn_2 rfl ?_
  refine E_istore_n dX11_bytesIn_4 (by decide) rfl ?_
  refine E.pick [2, 1, 0] rfl ?_
  refine bi_step z v 0 24 16 (by decide) (by decide) _ ?_
  refine bi_step z v _ 16 8 (by decide) (by decide) _ ?_
  refine bi_step z v _ 8 0 (by decide) (by decide) _ ?_
  refine bi_step z v _ 0 (-8) (by decide) (by decide) _ ?_
  refine E_iload_n dX11_bytesIn_5 rfl ?_
  refine E_if_lt 33 dX11_bytesIn_6 (by decide) (fun _ => ?_) (fun c9 => absurd (by decide) c9)
  refine E_iload_n dX11_bytesIn_33 rfl ?_
  exact E_iret dX11_bytesIn_34 rfl rfl ⟨by rw [Nat.zero_add]; rfl, rfl⟩
def mf1 (z : Sg) (v k : Int32) : Sg := if mby v k = 0 then z else stF (stA z 54 (upd (z.A 54) (z.F 39 31).toNatClampNeg (vp_nar .byte (v >>> (k &&& 31)).toInt8.toInt32))) 39 31 (z.F 39 31 + 1)
def mf4 (z : Sg) (v : Int32) : Sg := mf1 (mf1 (mf1 (mf1 z v 24) v 16) v 8) v 0
def mb1 (v k : Int32) : Nat := if mby v k = 0 then 0 else 1
theorem mf1_F {z : Sg} {t : Nat} (hF : z.F 39 31 = nI t) (v k : Int32) : (mf1 z v k).F 39 31 = nI (t + mb1 v k) := by
  unfold mf1 mb1
  by_cases h : mby v k = 0
  · rw [if_pos h, if_pos h]; exact hF
  · rw [if_neg h, if_neg h, F_stF, if_pos rfl, if_pos rfl, hF, nI_1]
theorem fd_step (z : Sg) (one other : Int32) (i v k k2 : Int32) (t : Nat) (hF : z.F 39 31 = nI t) (ht : t + mb1 v k ≤ 26) (hk : ¬ k < 0) (hk2 : k + (-8) = k2) (Q : Option Value → HP → Prop) (K : E mMod_feed 1 0 0 48 [(0, .ref 39), (1, .int one), (2, .int other), (3, .int i), (4, .int v), (5, .int k2)] [] (hp (mf1 z v k)) Q) : E mMod_feed 1 0 0 48 [(0, .ref 39), (1, .int one), (2, .int other), (3, .int i), (4, .int v), (5, .int k)] [] (hp z) Q := by
  refine E_iload dX11_feed_48 rfl ?_
  refine E_if_lt 99 dX11_feed_50 (by decide) (fun c_50 => ?_) (fun c_50 => ?_)
  · exact absurd c_50 hk
  · refine E_iload dX11_feed_53 rfl ?_
    refine E_iload dX11_feed_55 rfl ?_
    refine E_ishr dX11_feed_57 ?_
    refine E_sipush (v := 255) dX11_feed_58 rfl ?_
    refine E_iand dX11_feed_61 ?_
    refine E_if_ne 68 dX11_feed_62 (by decide) (fun c_62 => ?_) (fun c_62 => ?_)
    · refine E_aload_n dX11_feed_68 rfl ?_
      refine E_getf 27 dX11_feed_69 fl_X11_67 (by decide) (hg_39 _) rfl ?_
      refine E_aload_n dX11_feed_72 rfl ?_
      refine E_getf 31 dX11_feed_73 fl_X11_181 (by decide) (hg_39 _) rfl ?_
      refine E_iload dX11_feed_76 rfl ?_
      refine E_iload dX11_feed_78 rfl ?_
      refine E_ishr dX11_feed_80 ?_
      refine E_i2b dX11_feed_81 ?_
      refine E_bast dX11_feed_82 (by decide) (hg_54 _) (by rw [hF]; exact vp_in_nI (by unfold mb1 at ht; rw [if_neg (show ¬ mby v k = 0 from c_62)] at ht; omega) (by omega)) ?_
      rw [hs_54]
      refine E_aload_n dX11_feed_83 rfl ?_
      refine E_dup dX11_feed_84 rfl ?_
      refine E_getf 31 (v := .int (z.F 39 31)) dX11_feed_85 fl_X11_181 (by decide) (hg_39 _) rfl ?_
      refine E_iconst (v := 1) dX11_feed_88 rfl ?_
      refine E_iadd dX11_feed_89 ?_
      refine E_put 31 dX11_feed_90 fp_X11_181 (fitsV_int _) (by decide) (hg_39 _) (Nat.le_of_ble_eq_true rfl) ?_
      rw [hs_39_31]
      refine E_iincL (-8) dX11_feed_93 rfl rfl (by decide) rfl ?_
      rw [hk2]
      refine E_goto 48 dX11_feed_96 (by decide) ?_
      refine E.pick [1, 2, 3, 4, 5, 0] rfl ?_
      first | exact (by rw [mf1, if_pos (show mby v k = 0 from c_62)] at K; exact K) | exact (by rw [mf1, if_neg (show ¬ mby v k = 0 from c_62)] at K; exact K)
    · refine E_goto 93 dX11_feed_65 (by decide) ?_
      refine E_iincL (-8) dX11_feed_93 rfl rfl (by decide) rfl ?_
      rw [hk2]
      refine E_goto 48 dX11_feed_96 (by decide) ?_
      refine E.pick [1, 2, 3, 4, 5, 0] rfl ?_
      first | exact (by rw [mf1, if_pos (show mby v k = 0 from c_62)] at K; exact K) | exact (by rw [mf1, if_neg (show ¬ mby v k = 0 from c_62)] at K; exact K)
theorem mbc_eq (v : Int32) : mbc v = mb1 v 24 + mb1 v 16 + mb1 v 8 + mb1 v 0 := rfl
theorem fd_four (z : Sg) (one other : Int32) (i v : Int32) (t : Nat) (hF : z.F 39 31 = nI t) (ht : t + mbc v ≤ 26) (Q : Option Value → HP → Prop) (K : E mMod_feed 1 0 0 28 [(0, .ref 39), (1, .int one), (2, .int other), (3, .int (i + 1)), (4, .int v)] [] (hp (mf4 z v)) Q) : E mMod_feed 1 0 0 48 [(0, .ref 39), (1, .int one), (2, .int other), (3, .int i), (4, .int v), (5, .int 24)] [] (hp z) Q := by
  rw [mbc_eq] at ht
  refine fd_step z one other i v 24 16 t hF (by omega) (by decide) (by decide) Q ?_
  refine fd_step _ one other i v 16 8 _ (mf1_F hF v 24) (by omega) (by decide) (by decide) Q ?_
  refine fd_step _ one other i v 8 0 _ (mf1_F (mf1_F hF v 24) v 16) (by omega) (by decide) (by decide) Q ?_
  refine fd_step _ one other i v 0 (-8) _ (mf1_F (mf1_F (mf1_F hF v 24) v 16) v 8) (by omega) (by decide) (by decide) Q ?_
  refine E_iload dX11_feed_48 rfl ?_
  refine E_if_lt 99 dX11_feed_50 (by decide) (fun c_50 => ?_) (fun c_50 => ?_)
  · refine E_iincL 1 dX11_feed_99 rfl rfl (by decide) rfl ?_
    refine E_goto 28 dX11_feed_102 (by decide) ?_
    refine E.pick [1, 2, 3, 0, 4] rfl ?_
    exact K
  · exact absurd (by decide) c_50
theorem mf4_F {z : Sg} {t : Nat} (hF : z.F 39 31 = nI t) (v : Int32) : (mf4 z v).F 39 31 = nI (t + mbc v) := by
  have h9 := mf1_F (mf1_F (mf1_F (mf1_F hF v 24) v 16) v 8) v 0
  rw [mbc_eq, show t + (mb1 v 24 + mb1 v 16 + mb1 v 8 + mb1 v 0) = t + mb1 v 24 + mb1 v 16 + mb1 v 8 + mb1 v 0 by omega]
  exact h9
def fdM (one other : Int32) (z : Sg) : Sg := mf4 (mf4 (stF z 39 0 0) one) other
theorem c_Mod_feed (one other : Int32) {t : Nat} (ht : t ≤ 26) (z : Sg) (hF : z.F 39 31 = nI t) : EM mMod_feed 1 0 0 [.ref 39, .int one, .int other] (hp z) (Det (some (.int (if t + mbc one + mbc other ≤ 26 then nI (t + mbc one + mbc other) else (-1)))) (hp (if t + mbc one + mbc other ≤ 26 then fdM one other z else stF z 39 0 0))) := by
  have hb1 : mbc one ≤ 4 := by unfold mbc; split <;> split <;> split <;> split <;> omega
  have hb2 : mbc other ≤ 4 := by unfold mbc; split <;> split <;> split <;> split <;> omega
  have hF0 : (stF z 39 0 0).F 39 31 = nI t := hF
  by_cases hle : t + mbc one + mbc other ≤ 26
  · rw [if_pos hle, if_pos hle]
    refine E_aload_n dX11_feed_0 rfl ?_
    refine E_iconst (v := 0) dX11_feed_1 rfl ?_
    refine E_put 0 dX11_feed_2 fp_X11_98 (fitsV_int _) (by decide) (hg_39 _) (Nat.le_of_ble_eq_true rfl) ?_
    rw [hs_39_0]
    refine E_aload_n dX11_feed_5 rfl ?_
    refine E_getf 31 (v := .int (z.F 39 31)) dX11_feed_6 fl_X11_181 (by decide) (hg_39 _) rfl ?_
    rw [hF]
    refine E_iload_n dX11_feed_9 rfl ?_
    refine E_S1 dX11_feed_10 cs_X11_184 (Nat.le_of_ble_eq_true rfl) (Nat.le_of_ble_eq_true rfl) (c_bytesIn _ one) (by decide) (Nat.zero_le _) (Nat.zero_le _) ?_
    refine E_iadd dX11_feed_13 ?_
    rw [nI_add]
    refine E_iload_n dX11_feed_14 rfl ?_
    refine E_S1 dX11_feed_15 cs_X11_184 (Nat.le_of_ble_eq_true rfl) (Nat.le_of_ble_eq_true rfl) (c_bytesIn _ other) (by decide) (Nat.zero_le _) (Nat.zero_le _) ?_
    refine E_iadd dX11_feed_18 ?_
    rw [nI_add]
    refine E_bipush (v := 26) dX11_feed_19 rfl ?_
    refine E_icmp_le 26 dX11_feed_21 (by decide) (fun c_21 => ?_) (fun c_21 => ?_)
    · refine E_iconst (v := 0) dX11_feed_26 rfl ?_
      refine E_istore_n dX11_feed_27 (by decide) rfl ?_
      refine E_iload_n dX11_feed_28 rfl ?_
      refine E_iconst (v := 2) dX11_feed_29 rfl ?_
      refine E_icmp_ge 105 dX11_feed_30 (by decide) (fun c_30 => ?_) (fun c_30 => ?_)
      · exact absurd c_30 (by decide)
      · refine E_iload_n dX11_feed_33 rfl ?_
        refine E_if_ne 41 dX11_feed_34 (by decide) (fun c_34 => ?_) (fun c_34 => ?_)
        · exact absurd c_34 (by decide)
        · refine E_iload_n dX11_feed_37 rfl ?_
          refine E_goto 42 dX11_feed_38 (by decide) ?_
          refine E_istore dX11_feed_42 (by decide) rfl ?_
          refine E_bipush (v := 24) dX11_feed_44 rfl ?_
          refine E_istore dX11_feed_46 (by decide) rfl ?_
          refine E.pick [3, 4, 5, 2, 1, 0] rfl ?_
          refine fd_four _ one other 0 one t hF0 (by omega) _ ?_
          refine E_iload_n dX11_feed_28 rfl ?_
          refine E_iconst (v := 2) dX11_feed_29 rfl ?_
          refine E_icmp_ge 105 dX11_feed_30 (by decide) (fun c9 => absurd c9 (by decide)) (fun _ => ?_)
          refine E_iload_n dX11_feed_33 rfl ?_
          refine E_if_ne 41 dX11_feed_34 (by decide) (fun _ => ?_) (fun c9 => absurd c9 (by decide))
          refine E_iload_n dX11_feed_41 rfl ?_
          refine E_istore dX11_feed_42 (by decide) rfl ?_
          refine E_bipush (v := 24) dX11_feed_44 rfl ?_
          refine E_istore dX11_feed_46 (by decide) rfl ?_
          refine E.pick [2, 3, 4, 5, 1, 0] rfl ?_
          refine fd_four _ one other (0 + 1) other (t + mbc one) (mf4_F hF0 one) (by omega) _ ?_
          refine E_iload_n dX11_feed_28 rfl ?_
          refine E_iconst (v := 2) dX11_feed_29 rfl ?_
          refine E_icmp_ge 105 dX11_feed_30 (by decide) (fun _ => ?_) (fun c9 => absurd (by decide) c9)
          refine E_aload_n dX11_feed_105 rfl ?_
          refine E_getf 31 dX11_feed_106 fl_X11_181 (by decide) (hg_39 _) rfl ?_
          exact E_iret dX11_feed_109 rfl rfl ⟨by rw [mf4_F (mf4_F hF0 one) other], rfl⟩
    · exact absurd (nI_le (b := 26) hle (by omega)) c_21
  · rw [if_neg hle, if_neg hle]
    refine E_aload_n dX11_feed_0 rfl ?_
    refine E_iconst (v := 0) dX11_feed_1 rfl ?_
    refine E_put 0 dX11_feed_2 fp_X11_98 (fitsV_int _) (by decide) (hg_39 _) (Nat.le_of_ble_eq_true rfl) ?_
    rw [hs_39_0]
    refine E_aload_n dX11_feed_5 rfl ?_
    refine E_getf 31 (v := .int (z.F 39 31)) dX11_feed_6 fl_X11_181 (by decide) (hg_39 _) rfl ?_
    rw [hF]
    refine E_iload_n dX11_feed_9 rfl ?_
    refine E_S1 dX11_feed_10 cs_X11_184 (Nat.le_of_ble_eq_true rfl) (Nat.le_of_ble_eq_true rfl) (c_bytesIn _ one) (by decide) (Nat.zero_le _) (Nat.zero_le _) ?_
    refine E_iadd dX11_feed_13 ?_
    rw [nI_add]
    refine E_iload_n dX11_feed_14 rfl ?_
    refine E_S1 dX11_feed_15 cs_X11_184 (Nat.le_of_ble_eq_true rfl) (Nat.le_of_ble_eq_true rfl) (c_bytesIn _ other) (by decide) (Nat.zero_le _) (Nat.zero_le _) ?_
    refine E_iadd dX11_feed_18 ?_
    rw [nI_add]
    refine E_bipush (v := 26) dX11_feed_19 rfl ?_
    refine E_icmp_le 26 dX11_feed_21 (by decide) (fun c_21 => ?_) (fun c_21 => ?_)
    · exact absurd c_21 (fun h9 => hle ((nI_leI (b := 26) (by omega) (by omega)).mp h9))
    · refine E_iconst (v := (-1)) dX11_feed_24 rfl ?_
      exact E_iret dX11_feed_25 rfl rfl ⟨rfl, rfl⟩
theorem c_Mod_end (z : Sg) (x : Int32) : EM mMod_end 0 0 0 [.ref 39, .int x] (hp z) (Det (some (.int (b2i (inB x 0 (z.F 39 31))))) (hp (if inB x 0 (z.F 39 31) then stF (stF z 39 0 0) 39 31 x else stF z 39 0 0))) := by
  refine E_aload_n dX11_end_0 rfl ?_
  refine E_iconst (v := 0) dX11_end_1 rfl ?_
  refine E_put 0 dX11_end_2 fp_X11_98 (fitsV_int _) (by decide) (hg_39 _) (Nat.le_of_ble_eq_true rfl) ?_
  rw [hs_39_0]
  refine E_iload_n dX11_end_5 rfl ?_
  refine E_if_lt 17 dX11_end_6 (by decide) (fun c_6 => ?_) (fun c_6 => ?_)
  · refine E_iconst (v := 0) dX11_end_17 rfl ?_
    exact E_iret dX11_end_18 rfl rfl (by first | exact det_f (fun h => by have h9 := h.1; rw [i32_lt] at c_6; simp only [Int32.reduceToInt] at c_6 h9; omega) | exact det_f (fun h => by have h9 := h.2; rw [i32_le] at c_14; omega))
  · refine E_iload_n dX11_end_9 rfl ?_
    refine E_aload_n dX11_end_10 rfl ?_
    refine E_getf 31 (v := .int (z.F 39 31)) dX11_end_11 fl_X11_181 (by decide) (hg_39 _) rfl ?_
    refine E_icmp_le 19 dX11_end_14 (by decide) (fun c_14 => ?_) (fun c_14 => ?_)
    · refine E_aload_n dX11_end_19 rfl ?_
      refine E_iload_n dX11_end_20 rfl ?_
      refine E_put 31 dX11_end_21 fp_X11_181 (fitsV_int _) (by decide) (hg_39 _) (Nat.le_of_ble_eq_true rfl) ?_
      rw [hs_39_31]
      refine E_iconst (v := 1) dX11_end_24 rfl ?_
      exact E_iret dX11_end_25 rfl rfl (det_t ⟨by rw [i32_lt] at c_6; simp only [Int32.reduceToInt] at c_6 ⊢; omega, by rw [i32_le] at c_14; omega⟩)
    · refine E_iconst (v := 0) dX11_end_17 rfl ?_
      exact E_iret dX11_end_18 rfl rfl (by first | exact det_f (fun h => by have h9 := h.1; rw [i32_lt] at c_6; simp only [Int32.reduceToInt] at c_6 h9; omega) | exact det_f (fun h => by have h9 := h.2; rw [i32_le] at c_14; omega))
