/-! THE MODEL: tick, state, length -/
theorem mlOK_tk {z : Sg} (h : mlOK z) : mlOK (tk z) := by
  obtain ⟨⟨a, h1, h2⟩, ⟨k, h3, h4⟩, h5⟩ := h
  unfold tk
  split
  · exact ⟨⟨a, h1, h2⟩, ⟨k, h3, h4⟩, h5⟩
  · split
    · next h6 =>
      obtain ⟨c, h7, h8⟩ := h5 a h1
      refine ⟨⟨a, h1, h2⟩, ⟨k + 1, ?_, ?_⟩, h5⟩
      · rw [h2, h4, nI_1, nI_clamp (by omega), h8, nI_ltI (by omega) (by omega)] at h6
        omega
      · show z.F 39 12 + 1 = nI (k + 1)
        rw [h4, nI_1]
    · split
      · exact ⟨⟨0, by omega, rfl⟩, ⟨0, by omega, rfl⟩, h5⟩
      · exact ⟨⟨a, h1, h2⟩, ⟨0, by omega, rfl⟩, h5⟩
def tks : Nat → Sg → Sg
  | 0, z => z
  | m + 1, z => tks m (tk z)
theorem l_tks {N : Nat} (hN : N ≤ 1000) : ∀ (m i : Nat) (z : Sg), i + m = N → mlOK z → E mMod_tick 2 0 0 32 [(0, .ref 39), (1, .int (nI N)), (2, .int (nI i))] [] (hp z) (Det (some (.int (litM (tks m z)))) (hp (tks m z))) := by
  intro m
  induction m with
  | zero =>
    intro i z hi hm
    refine E_iload_n dX11_tick_32 rfl ?_
    refine E_iload_n dX11_tick_33 rfl ?_
    refine E_icmp_ge 47 dX11_tick_34 (by decide) (fun c_34 => ?_) (fun c_34 => ?_)
    · refine E_aload_n dX11_tick_47 rfl ?_
      refine E_aload_n dX11_tick_48 rfl ?_
      refine E_getf 11 dX11_tick_49 fl_X11_101 (by decide) (hg_39 _) rfl ?_
      refine E_aload_n dX11_tick_52 rfl ?_
      refine E_getf 12 dX11_tick_53 fl_X11_104 (by decide) (hg_39 _) rfl ?_
      refine E_V2 dX11_tick_56 cv_X11_146 (by decide) (hg_39 _) rfl rfl (Nat.le_of_ble_eq_true rfl) (Nat.le_of_ble_eq_true rfl) (c_light _ _ _ (mlOK_in hm) (fun _ => mlOK_row hm)) (by decide) (Nat.zero_le _) (Nat.zero_le _) ?_
      exact E_iret dX11_tick_59 rfl rfl ⟨rfl, rfl⟩
    · exact absurd (nI_le (by omega) (by omega)) c_34
  | succ m ih =>
    intro i z hi hm
    refine E_iload_n dX11_tick_32 rfl ?_
    refine E_iload_n dX11_tick_33 rfl ?_
    refine E_icmp_ge 47 dX11_tick_34 (by decide) (fun c_34 => ?_) (fun c_34 => ?_)
    · exact absurd c_34 (nI_ge (by omega) (by omega))
    · refine E_aload_n dX11_tick_37 rfl ?_
      refine E_V0 dX11_tick_38 cv_X11_143 (by decide) (hg_39 _) rfl rfl (Nat.le_of_ble_eq_true rfl) (Nat.le_of_ble_eq_true rfl) (c_ticks z hm) (by decide) (Nat.zero_le _) (Nat.zero_le _) ?_
      refine E_iincL 1 dX11_tick_41 rfl rfl (by decide) rfl ?_
      rw [nI_1]
      refine E_goto 32 dX11_tick_44 (by decide) ?_
      refine E.pick [1, 2, 0] rfl ?_
      rw [tks]
      exact ih (i + 1) _ (by omega) (mlOK_tk hm)
abbrev tkOK (n : Int32) (z : Sg) : Prop := inB n 0 1000 ∧ z.F 39 10 + n ≤ 1000000
theorem c_Mod_tick (z : Sg) (hm : mlOK z) (n : Int32) : EM mMod_tick 2 0 0 [.ref 39, .int n] (hp z) (Det (some (.int (if tkOK n z then litM (tks n.toNatClampNeg (stF z 39 0 0)) else (-2)))) (hp (if tkOK n z then tks n.toNatClampNeg (stF z 39 0 0) else stF z 39 0 0))) := by
  refine E_aload_n dX11_tick_0 rfl ?_
  refine E_iconst (v := 0) dX11_tick_1 rfl ?_
  refine E_put 0 dX11_tick_2 fp_X11_98 (fitsV_int _) (by decide) (hg_39 _) (Nat.le_of_ble_eq_true rfl) ?_
  rw [hs_39_0]
  refine E_iload_n dX11_tick_5 rfl ?_
  refine E_iconst (v := 0) dX11_tick_6 rfl ?_
  refine E_sipush (v := 1000) dX11_tick_7 rfl ?_
  refine E_S3 dX11_tick_10 cs_X11_120 (Nat.le_of_ble_eq_true rfl) (Nat.le_of_ble_eq_true rfl) (c_isIn _ n 0 1000) (by decide) (Nat.zero_le _) (Nat.zero_le _) ?_
  refine E_if_eq 27 dX11_tick_13 (by decide) (fun c_13 => ?_) (fun c_13 => ?_)
  · refine E_bipush (v := (-2)) dX11_tick_27 rfl ?_
    exact E_iret dX11_tick_29 rfl rfl (by first | exact ⟨by rw [if_neg (fun h : tkOK n z => b2i_e0 c_13 h.1)], by rw [if_neg (fun h : tkOK n z => b2i_e0 c_13 h.1)]⟩ | exact ⟨by rw [if_neg (fun h : tkOK n z => c_24 h.2)], by rw [if_neg (fun h : tkOK n z => c_24 h.2)]⟩)
  · refine E_aload_n dX11_tick_16 rfl ?_
    refine E_getf 10 (v := .int (z.F 39 10)) dX11_tick_17 fl_X11_107 (by decide) (hg_39 _) rfl ?_
    refine E_iload_n dX11_tick_20 rfl ?_
    refine E_iadd dX11_tick_21 ?_
    refine E_ldc dX11_tick_22 k_142 ?_
    refine E_icmp_le 30 dX11_tick_24 (by decide) (fun c_24 => ?_) (fun c_24 => ?_)
    · refine E_iconst (v := 0) dX11_tick_30 rfl ?_
      refine E_istore_n dX11_tick_31 (by decide) rfl ?_
      refine E.pick [1, 2, 0] rfl ?_
      rw [if_pos (show tkOK n z from ⟨b2i_ne c_13, c_24⟩), if_pos (show tkOK n z from ⟨b2i_ne c_13, c_24⟩)]
      obtain ⟨N, hN, rfl⟩ := inB_nat (n := 1000) rfl (b2i_ne c_13)
      rw [nI_clamp (by omega)]
      exact l_tks hN N 0 _ (by omega) hm
    · refine E_bipush (v := (-2)) dX11_tick_27 rfl ?_
      exact E_iret dX11_tick_29 rfl rfl (by first | exact ⟨by rw [if_neg (fun h : tkOK n z => b2i_e0 c_13 h.1)], by rw [if_neg (fun h : tkOK n z => b2i_e0 c_13 h.1)]⟩ | exact ⟨by rw [if_neg (fun h : tkOK n z => c_24 h.2)], by rw [if_neg (fun h : tkOK n z => c_24 h.2)]⟩)
def stM (z : Sg) (w : Int32) : Int32 := if w.toInt = 0 then z.F 39 10 else if w.toInt = 1 then z.F 39 11 else if w.toInt = 2 then litM z else if w.toInt = 3 then z.F 39 13 else if w.toInt = 4 then z.F 39 14 else if w.toInt = 5 then z.F 39 15 else if w.toInt = 6 then z.F 39 16 else if w.toInt = 7 then z.F 39 26 else (-1)
theorem c_Mod_state (z : Sg) (hm : mlOK z) (w : Int32) : EM mMod_state 1 0 0 [.ref 39, .int w] (hp z) (Det (some (.int (stM z w))) (hp (stF z 39 0 0))) := by
  refine E_aload_n dX11_state_0 rfl ?_
  refine E_iconst (v := 0) dX11_state_1 rfl ?_
  refine E_put 0 dX11_state_2 fp_X11_98 (fitsV_int _) (by decide) (hg_39 _) (Nat.le_of_ble_eq_true rfl) ?_
  rw [hs_39_0]
  refine E_iload_n dX11_state_5 rfl ?_
  by_cases c_6_0 : (w).toInt = 0
  · refine E_tableIn 52 dX11_state_6 (by omega) (by omega) (by rw [c_6_0]; rfl) (by decide) ?_
    refine E_aload_n dX11_state_52 rfl ?_
    refine E_getf 10 (v := .int (z.F 39 10)) dX11_state_53 fl_X11_107 (by decide) (hg_39 _) rfl ?_
    exact E_iret dX11_state_56 rfl rfl ⟨by rw [stM]; simp only [*, if_true, if_false, reduceIte, Int.reduceEq, reduceCtorEq], rfl⟩
  by_cases c_6_1 : (w).toInt = 1
  · refine E_tableIn 57 dX11_state_6 (by omega) (by omega) (by rw [c_6_1]; rfl) (by decide) ?_
    refine E_aload_n dX11_state_57 rfl ?_
    refine E_getf 11 (v := .int (z.F 39 11)) dX11_state_58 fl_X11_101 (by decide) (hg_39 _) rfl ?_
    exact E_iret dX11_state_61 rfl rfl ⟨by rw [stM]; simp only [*, if_true, if_false, reduceIte, Int.reduceEq, reduceCtorEq], rfl⟩
  by_cases c_6_2 : (w).toInt = 2
  · refine E_tableIn 62 dX11_state_6 (by omega) (by omega) (by rw [c_6_2]; rfl) (by decide) ?_
    refine E_aload_n dX11_state_62 rfl ?_
    refine E_aload_n dX11_state_63 rfl ?_
    refine E_getf 11 (v := .int (z.F 39 11)) dX11_state_64 fl_X11_101 (by decide) (hg_39 _) rfl ?_
    refine E_aload_n dX11_state_67 rfl ?_
    refine E_getf 12 (v := .int (z.F 39 12)) dX11_state_68 fl_X11_104 (by decide) (hg_39 _) rfl ?_
    refine E_V2 (r := some (.int (litM z))) dX11_state_71 cv_X11_146 (by decide) (hg_39 _) rfl rfl (Nat.le_of_ble_eq_true rfl) (Nat.le_of_ble_eq_true rfl) (c_light _ _ _ (mlOK_in hm) (fun _ => mlOK_row hm)) (by decide) (Nat.zero_le _) (Nat.zero_le _) ?_
    exact E_iret dX11_state_74 rfl rfl ⟨by rw [stM]; simp only [*, if_true, if_false, reduceIte, Int.reduceEq, reduceCtorEq], rfl⟩
  by_cases c_6_3 : (w).toInt = 3
  · refine E_tableIn 75 dX11_state_6 (by omega) (by omega) (by rw [c_6_3]; rfl) (by decide) ?_
    refine E_aload_n dX11_state_75 rfl ?_
    refine E_getf 13 (v := .int (z.F 39 13)) dX11_state_76 fl_X11_39 (by decide) (hg_39 _) rfl ?_
    exact E_iret dX11_state_79 rfl rfl ⟨by rw [stM]; simp only [*, if_true, if_false, reduceIte, Int.reduceEq, reduceCtorEq], rfl⟩
  by_cases c_6_4 : (w).toInt = 4
  · refine E_tableIn 80 dX11_state_6 (by omega) (by omega) (by rw [c_6_4]; rfl) (by decide) ?_
    refine E_aload_n dX11_state_80 rfl ?_
    refine E_getf 14 (v := .int (z.F 39 14)) dX11_state_81 fl_X11_110 (by decide) (hg_39 _) rfl ?_
    exact E_iret dX11_state_84 rfl rfl ⟨by rw [stM]; simp only [*, if_true, if_false, reduceIte, Int.reduceEq, reduceCtorEq], rfl⟩
  by_cases c_6_5 : (w).toInt = 5
  · refine E_tableIn 85 dX11_state_6 (by omega) (by omega) (by rw [c_6_5]; rfl) (by decide) ?_
    refine E_aload_n dX11_state_85 rfl ?_
    refine E_getf 15 (v := .int (z.F 39 15)) dX11_state_86 fl_X11_113 (by decide) (hg_39 _) rfl ?_
    exact E_iret dX11_state_89 rfl rfl ⟨by rw [stM]; simp only [*, if_true, if_false, reduceIte, Int.reduceEq, reduceCtorEq], rfl⟩
  by_cases c_6_6 : (w).toInt = 6
  · refine E_tableIn 90 dX11_state_6 (by omega) (by omega) (by rw [c_6_6]; rfl) (by decide) ?_
    refine E_aload_n dX11_state_90 rfl ?_
    refine E_getf 16 (v := .int (z.F 39 16)) dX11_state_91 fl_X11_150 (by decide) (hg_39 _) rfl ?_
    exact E_iret dX11_state_94 rfl rfl ⟨by rw [stM]; simp only [*, if_true, if_false, reduceIte, Int.reduceEq, reduceCtorEq], rfl⟩
  by_cases c_6_7 : (w).toInt = 7
  · refine E_tableIn 95 dX11_state_6 (by omega) (by omega) (by rw [c_6_7]; rfl) (by decide) ?_
    refine E_aload_n dX11_state_95 rfl ?_
    refine E_getf 26 (v := .int (z.F 39 26)) dX11_state_96 fl_X11_156 (by decide) (hg_39 _) rfl ?_
    exact E_iret dX11_state_99 rfl rfl ⟨by rw [stM]; simp only [*, if_true, if_false, reduceIte, Int.reduceEq, reduceCtorEq], rfl⟩
  refine E_tableOut 100 dX11_state_6 (by omega) (by decide) ?_
  refine E_iconst (v := (-1)) dX11_state_100 rfl ?_
  exact E_iret dX11_state_101 rfl rfl ⟨by rw [stM]; simp only [*, if_true, if_false, reduceIte, Int.reduceEq, reduceCtorEq], rfl⟩
theorem c_Mod_length (z : Sg) (w : Int32) : EM mMod_length 0 0 0 [.ref 39, .int w] (hp z) (Det (some (.int (if w = 0 then z.F 39 24 else if w = 1 then z.F 39 25 else (-1)))) (hp (stF z 39 0 0))) := by
  refine E_aload_n dX11_length_0 rfl ?_
  refine E_iconst (v := 0) dX11_length_1 rfl ?_
  refine E_put 0 dX11_length_2 fp_X11_98 (fitsV_int _) (by decide) (hg_39 _) (Nat.le_of_ble_eq_true rfl) ?_
  rw [hs_39_0]
  refine E_iload_n dX11_length_5 rfl ?_
  refine E_if_ne 16 dX11_length_6 (by decide) (fun c_6 => ?_) (fun c_6 => ?_)
  · refine E_iload_n dX11_length_16 rfl ?_
    refine E_iconst (v := 1) dX11_length_17 rfl ?_
    refine E_icmp_ne 28 dX11_length_18 (by decide) (fun c_18 => ?_) (fun c_18 => ?_)
    · refine E_iconst (v := (-1)) dX11_length_28 rfl ?_
      exact E_iret dX11_length_29 rfl rfl ⟨by first | rw [if_pos c_6] | rw [if_neg c_6, if_pos c_18] | rw [if_neg c_6, if_neg c_18], rfl⟩
    · refine E_aload_n dX11_length_21 rfl ?_
      refine E_getf 25 (v := .int (z.F 39 25)) dX11_length_22 fl_X11_64 (by decide) (hg_39 _) rfl ?_
      refine E_goto 29 dX11_length_25 (by decide) ?_
      exact E_iret dX11_length_29 rfl rfl ⟨by first | rw [if_pos c_6] | rw [if_neg c_6, if_pos c_18] | rw [if_neg c_6, if_neg c_18], rfl⟩
  · refine E_aload_n dX11_length_9 rfl ?_
    refine E_getf 24 (v := .int (z.F 39 24)) dX11_length_10 fl_X11_159 (by decide) (hg_39 _) rfl ?_
    refine E_goto 29 dX11_length_13 (by decide) ?_
    exact E_iret dX11_length_29 rfl rfl ⟨by first | rw [if_pos c_6] | rw [if_neg c_6, if_pos c_18] | rw [if_neg c_6, if_neg c_18], rfl⟩
