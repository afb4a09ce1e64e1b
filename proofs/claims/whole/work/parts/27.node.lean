/-! node, clear, told: both sides -/
theorem F_li3 : ∀ (m i : Nat) (z : Sg), (li3 m i z).F = z.F
  | 0, _, _ => rfl
  | m + 1, i, z => by
    rw [li3, F_li3]
    split
    · rw [F_sb]
    · rfl
theorem F_zfl (n : Nat) (z : Sg) : (zfl n z).F = z.F := by
  unfold zfl
  rw [F_li3]
  show (li2 (n - 1) (li1 n 0 z)).F = z.F
  rw [F_li2, F_li1]
def zcm (z : Sg) (g : Int32) : Sg := stF (stF (stF (stF (stF z 39 11 g) 39 12 0) 39 13 (-1)) 39 14 (z.F 39 10)) 39 15 0
def zct (z : Sg) (g : Int32) : Sg := stF (stF (stF (stF (stF z 17 3 g) 17 4 (tg z 12 g (-1))) 17 5 (-1)) 17 6 (z.F 17 2)) 17 7 0
theorem c_comes (z : Sg) (g : Int32) : EM mMod_comes 0 0 0 [.ref 39, .int g] (hp z) (Det none (hp (zcm z g))) := by
  refine E_aload_n dX11_comes_0 rfl ?_
  refine E_iload_n dX11_comes_1 rfl ?_
  refine E_put 11 dX11_comes_2 fp_X11_101 (fitsV_int _) (by decide) (hg_39 _) (Nat.le_of_ble_eq_true rfl) ?_
  rw [hs_39_11]
  refine E_aload_n dX11_comes_5 rfl ?_
  refine E_iconst (v := 0) dX11_comes_6 rfl ?_
  refine E_put 12 dX11_comes_7 fp_X11_104 (fitsV_int _) (by decide) (hg_39 _) (Nat.le_of_ble_eq_true rfl) ?_
  rw [hs_39_12]
  refine E_aload_n dX11_comes_10 rfl ?_
  refine E_iconst (v := (-1)) dX11_comes_11 rfl ?_
  refine E_put 13 dX11_comes_12 fp_X11_39 (fitsV_int _) (by decide) (hg_39 _) (Nat.le_of_ble_eq_true rfl) ?_
  rw [hs_39_13]
  refine E_aload_n dX11_comes_15 rfl ?_
  refine E_aload_n dX11_comes_16 rfl ?_
  refine E_getf 10 (v := .int (z.F 39 10)) dX11_comes_17 fl_X11_107 (by decide) (hg_39 _) rfl ?_
  refine E_put 14 dX11_comes_20 fp_X11_110 (fitsV_int _) (by decide) (hg_39 _) (Nat.le_of_ble_eq_true rfl) ?_
  rw [hs_39_14]
  refine E_aload_n dX11_comes_23 rfl ?_
  refine E_iconst (v := 0) dX11_comes_24 rfl ?_
  refine E_put 15 dX11_comes_25 fp_X11_113 (fitsV_int _) (by decide) (hg_39 _) (Nat.le_of_ble_eq_true rfl) ?_
  rw [hs_39_15]
  exact E_vret dX11_comes_28 rfl ⟨rfl, rfl⟩
theorem c_comeTo (z : Sg) (hs : (z.F 6 10).toInt ≤ 60) (g : Int32) : EM mLamp_comeTo 2 0 0 [.ref 17, .int g] (hp z) (Det none (hp (zct z g))) := by
  refine E_aload_n dX3_comeTo_0 rfl ?_
  refine E_iload_n dX3_comeTo_1 rfl ?_
  refine E_put 3 dX3_comeTo_2 fp_X3_23 (fitsV_int _) (by decide) (hg_17 _) (Nat.le_of_ble_eq_true rfl) ?_
  rw [hs_17_3]
  refine E_aload_n dX3_comeTo_5 rfl ?_
  refine E_aload_n dX3_comeTo_6 rfl ?_
  refine E_getf 0 dX3_comeTo_7 fl_X3_9 (by decide) (hg_17 _) rfl ?_
  refine E_iload_n dX3_comeTo_10 rfl ?_
  refine E_V1 (r := some (.int (tg z 12 g (-1)))) dX3_comeTo_11 cv_X3_27 (by decide) (hg_6 _) rfl rfl (Nat.le_of_ble_eq_true rfl) (Nat.le_of_ble_eq_true rfl) (c_firstIn (stF z 17 3 g) hs g) (by decide) (Nat.zero_le _) (Nat.zero_le _) ?_
  refine E_put 4 dX3_comeTo_14 fp_X3_33 (fitsV_int _) (by decide) (hg_17 _) (Nat.le_of_ble_eq_true rfl) ?_
  rw [hs_17_4]
  refine E_aload_n dX3_comeTo_17 rfl ?_
  refine E_iconst (v := (-1)) dX3_comeTo_18 rfl ?_
  refine E_put 5 dX3_comeTo_19 fp_X3_36 (fitsV_int _) (by decide) (hg_17 _) (Nat.le_of_ble_eq_true rfl) ?_
  rw [hs_17_5]
  refine E_aload_n dX3_comeTo_22 rfl ?_
  refine E_aload_n dX3_comeTo_23 rfl ?_
  refine E_getf 2 (v := .int (z.F 17 2)) dX3_comeTo_24 fl_X3_39 (by decide) (hg_17 _) rfl ?_
  refine E_put 6 dX3_comeTo_27 fp_X3_42 (fitsV_int _) (by decide) (hg_17 _) (Nat.le_of_ble_eq_true rfl) ?_
  rw [hs_17_6]
  refine E_aload_n dX3_comeTo_30 rfl ?_
  refine E_iconst (v := 0) dX3_comeTo_31 rfl ?_
  refine E_put 7 dX3_comeTo_32 fp_X3_45 (fitsV_int _) (by decide) (hg_17 _) (Nat.le_of_ble_eq_true rfl) ?_
  rw [hs_17_7]
  exact E_vret dX3_comeTo_35 rfl ⟨rfl, rfl⟩
def zst (n : Nat) (z : Sg) : Sg := zct (zfl n z) 0
theorem c_showTrayAnew {n : Nat} (h1 : 1 ≤ n) (hn : n ≤ 60) (z : Sg) (hF : z.F 6 10 = nI n) : EM mDesk_showTrayAnew 4 0 0 [.ref 3] (hp z) (Det none (hp (zst n z))) := by
  refine E_aload_n dX10_showTrayAnew_0 rfl ?_
  refine E_getf 1 dX10_showTrayAnew_1 fl_X10_19 (by decide) (hg_3 _) rfl ?_
  refine E_V0 dX10_showTrayAnew_4 cv_X10_208 (by decide) (hg_6 _) rfl rfl (Nat.le_of_ble_eq_true rfl) (Nat.le_of_ble_eq_true rfl) (c_findLights h1 hn z hF) (by decide) (Nat.zero_le _) (Nat.zero_le _) ?_
  refine E_aload_n dX10_showTrayAnew_7 rfl ?_
  refine E_getf 2 dX10_showTrayAnew_8 fl_X10_28 (by decide) (hg_3 _) rfl ?_
  refine E_iconst (v := 0) dX10_showTrayAnew_11 rfl ?_
  refine E_V1 dX10_showTrayAnew_12 cv_X10_119 (by decide) (hg_17 _) rfl rfl (Nat.le_of_ble_eq_true rfl) (Nat.le_of_ble_eq_true rfl) (c_comeTo (zfl n z) (by rw [F_zfl, hF, nI_toInt (by omega)]; omega) 0) (by decide) (Nat.zero_le _) (Nat.zero_le _) ?_
  exact E_vret dX10_showTrayAnew_15 rfl ⟨rfl, rfl⟩
theorem c_node {n : Nat} (h1 : 1 ≤ n) (hn : n ≤ 60) (z : Sg) (hF : z.F 6 10 = nI n) (g k v : Int32) : EM mDesk_node 5 0 0 [.ref 3, .int g, .int k, .int v] (hp z) (Det (some (.int (if addOK z g k v then z.F 6 10 else (-1)))) (hp (if addOK z g k v then zst (n + 1) (zadd z g k v) else z))) := by
  have hz : (z.F 6 10).toInt = (n : Int) := by rw [hF, nI_toInt (by omega)]
  by_cases hok : addOK z g k v
  · have hlt : n < 60 := by have := hok.1; omega
    refine E_aload_n dX10_node_0 rfl ?_
    refine E_getf 1 dX10_node_1 fl_X10_19 (by decide) (hg_3 _) rfl ?_
    refine E_iload_n dX10_node_4 rfl ?_
    refine E_iload_n dX10_node_5 rfl ?_
    refine E_iload_n dX10_node_6 rfl ?_
    refine E_V3 dX10_node_7 cv_X10_78 (by decide) (hg_6 _) rfl rfl (Nat.le_of_ble_eq_true rfl) (Nat.le_of_ble_eq_true rfl) (c_add z (by omega) (by omega) g k v) (by decide) (Nat.zero_le _) (Nat.zero_le _) ?_
    simp only [if_pos hok]
    refine E_istore dX10_node_10 (by decide) rfl ?_
    refine E_iload dX10_node_12 rfl ?_
    refine E_iconst (v := (-1)) dX10_node_14 rfl ?_
    refine E_icmp_eq 22 dX10_node_15 (by decide) (fun c_15 => ?_) (fun c_15 => ?_)
    · exact absurd c_15 (fun h => by rw [i32_eq, hz] at h; simp only [Int32.reduceToInt] at h; omega)
    · refine E_aload_n dX10_node_18 rfl ?_
      refine E_V0 dX10_node_19 cv_X10_82 (by decide) (hg_3 _) rfl rfl (Nat.le_of_ble_eq_true rfl) (Nat.le_of_ble_eq_true rfl) (c_showTrayAnew (n := n + 1) (by omega) (by omega) (zadd z g k v) (by show z.F 6 10 + 1 = nI (n + 1); rw [hF, nI_1])) (by decide) (Nat.zero_le _) (Nat.zero_le _) ?_
      refine E_iload dX10_node_22 rfl ?_
      exact E_iret dX10_node_24 rfl rfl ⟨rfl, rfl⟩
  ·
    refine E_aload_n dX10_node_0 rfl ?_
    refine E_getf 1 dX10_node_1 fl_X10_19 (by decide) (hg_3 _) rfl ?_
    refine E_iload_n dX10_node_4 rfl ?_
    refine E_iload_n dX10_node_5 rfl ?_
    refine E_iload_n dX10_node_6 rfl ?_
    refine E_V3 dX10_node_7 cv_X10_78 (by decide) (hg_6 _) rfl rfl (Nat.le_of_ble_eq_true rfl) (Nat.le_of_ble_eq_true rfl) (c_add z (by omega) (by omega) g k v) (by decide) (Nat.zero_le _) (Nat.zero_le _) ?_
    simp only [if_neg hok]
    refine E_istore dX10_node_10 (by decide) rfl ?_
    refine E_iload dX10_node_12 rfl ?_
    refine E_iconst (v := (-1)) dX10_node_14 rfl ?_
    refine E_icmp_eq 22 dX10_node_15 (by decide) (fun c_15 => ?_) (fun c_15 => ?_)
    · refine E_iload dX10_node_22 rfl ?_
      exact E_iret dX10_node_24 rfl rfl ⟨rfl, rfl⟩
    · exact absurd rfl c_15
def zemp (z : Sg) : Sg := stF (stA (stA (stA z 7 (upd (z.A 7) 0 0)) 8 (upd (z.A 8) 0 (-1))) 9 (upd (z.A 9) 0 (-1))) 6 10 1
theorem c_clear (z : Sg) : EM mDesk_clear 5 0 0 [.ref 3] (hp z) (Det none (hp (zst 1 (zemp z)))) := by
  refine E_aload_n dX10_clear_0 rfl ?_
  refine E_getf 1 dX10_clear_1 fl_X10_19 (by decide) (hg_3 _) rfl ?_
  refine E_V0 dX10_clear_4 cv_X10_85 (by decide) (hg_6 _) rfl rfl (Nat.le_of_ble_eq_true rfl) (Nat.le_of_ble_eq_true rfl) (c_empty z) (by decide) (Nat.zero_le _) (Nat.zero_le _) ?_
  refine E_aload_n dX10_clear_7 rfl ?_
  refine E_V0 dX10_clear_8 cv_X10_82 (by decide) (hg_3 _) rfl rfl (Nat.le_of_ble_eq_true rfl) (Nat.le_of_ble_eq_true rfl) (c_showTrayAnew (n := 1) (by omega) (by omega) (zemp z) rfl) (by decide) (Nat.zero_le _) (Nat.zero_le _) ?_
  exact E_vret dX10_clear_11 rfl ⟨rfl, rfl⟩
def toldD (z : Sg) (x w : Int32) : Int32 := if ltN x (z.F 6 10) then (if w.toInt = 0 then tg z 7 x (-1) else if w.toInt = 1 then tg z 8 x (-1) else if w.toInt = 2 then tg z 9 x (-1) else if w.toInt = 3 then tg z 10 x (-1) else if w.toInt = 4 then tg z 11 x 0 else (-1)) else (-1)
theorem c_told (z : Sg) (hs : (z.F 6 10).toInt ≤ 60) (x w : Int32) : EM mDesk_told 2 0 0 [.ref 3, .int x, .int w] (hp z) (Det (some (.int (toldD z x w))) (hp z)) := by
  refine E_aload_n dX10_told_0 rfl ?_
  refine E_getf 1 dX10_told_1 fl_X10_19 (by decide) (hg_3 _) rfl ?_
  refine E_iload_n dX10_told_4 rfl ?_
  refine E_V1 dX10_told_5 cv_X10_88 (by decide) (hg_6 _) rfl rfl (Nat.le_of_ble_eq_true rfl) (Nat.le_of_ble_eq_true rfl) (c_has z x) (by decide) (Nat.zero_le _) (Nat.zero_le _) ?_
  refine E_if_ne 13 dX10_told_8 (by decide) (fun c_8 => ?_) (fun c_8 => ?_)
  · refine E_iload_n dX10_told_13 rfl ?_
    by_cases c_14_0 : (w).toInt = 0
    · refine E_tableIn 48 dX10_told_14 (by omega) (by omega) (by rw [c_14_0]; rfl) (by decide) ?_
      refine E_aload_n dX10_told_48 rfl ?_
      refine E_getf 1 dX10_told_49 fl_X10_19 (by decide) (hg_3 _) rfl ?_
      refine E_iload_n dX10_told_52 rfl ?_
      refine E_V1 dX10_told_53 cv_X10_92 (by decide) (hg_6 _) rfl rfl (Nat.le_of_ble_eq_true rfl) (Nat.le_of_ble_eq_true rfl) (c_kindOf z hs x) (by decide) (Nat.zero_le _) (Nat.zero_le _) ?_
      exact E_iret dX10_told_56 rfl rfl ⟨by rw [toldD, if_pos (b2i_ne c_8)]; simp only [*, if_true, if_false, reduceIte, Int.reduceEq, reduceCtorEq], rfl⟩
    by_cases c_14_1 : (w).toInt = 1
    · refine E_tableIn 57 dX10_told_14 (by omega) (by omega) (by rw [c_14_1]; rfl) (by decide) ?_
      refine E_aload_n dX10_told_57 rfl ?_
      refine E_getf 1 dX10_told_58 fl_X10_19 (by decide) (hg_3 _) rfl ?_
      refine E_iload_n dX10_told_61 rfl ?_
      refine E_V1 dX10_told_62 cv_X10_96 (by decide) (hg_6 _) rfl rfl (Nat.le_of_ble_eq_true rfl) (Nat.le_of_ble_eq_true rfl) (c_valueOf z hs x) (by decide) (Nat.zero_le _) (Nat.zero_le _) ?_
      exact E_iret dX10_told_65 rfl rfl ⟨by rw [toldD, if_pos (b2i_ne c_8)]; simp only [*, if_true, if_false, reduceIte, Int.reduceEq, reduceCtorEq], rfl⟩
    by_cases c_14_2 : (w).toInt = 2
    · refine E_tableIn 66 dX10_told_14 (by omega) (by omega) (by rw [c_14_2]; rfl) (by decide) ?_
      refine E_aload_n dX10_told_66 rfl ?_
      refine E_getf 1 dX10_told_67 fl_X10_19 (by decide) (hg_3 _) rfl ?_
      refine E_iload_n dX10_told_70 rfl ?_
      refine E_V1 dX10_told_71 cv_X10_99 (by decide) (hg_6 _) rfl rfl (Nat.le_of_ble_eq_true rfl) (Nat.le_of_ble_eq_true rfl) (c_groupOf z hs x) (by decide) (Nat.zero_le _) (Nat.zero_le _) ?_
      exact E_iret dX10_told_74 rfl rfl ⟨by rw [toldD, if_pos (b2i_ne c_8)]; simp only [*, if_true, if_false, reduceIte, Int.reduceEq, reduceCtorEq], rfl⟩
    by_cases c_14_3 : (w).toInt = 3
    · refine E_tableIn 75 dX10_told_14 (by omega) (by omega) (by rw [c_14_3]; rfl) (by decide) ?_
      refine E_aload_n dX10_told_75 rfl ?_
      refine E_getf 1 dX10_told_76 fl_X10_19 (by decide) (hg_3 _) rfl ?_
      refine E_iload_n dX10_told_79 rfl ?_
      refine E_V1 dX10_told_80 cv_X10_102 (by decide) (hg_6 _) rfl rfl (Nat.le_of_ble_eq_true rfl) (Nat.le_of_ble_eq_true rfl) (c_placeOf z hs x) (by decide) (Nat.zero_le _) (Nat.zero_le _) ?_
      exact E_iret dX10_told_83 rfl rfl ⟨by rw [toldD, if_pos (b2i_ne c_8)]; simp only [*, if_true, if_false, reduceIte, Int.reduceEq, reduceCtorEq], rfl⟩
    by_cases c_14_4 : (w).toInt = 4
    · refine E_tableIn 84 dX10_told_14 (by omega) (by omega) (by rw [c_14_4]; rfl) (by decide) ?_
      refine E_aload_n dX10_told_84 rfl ?_
      refine E_getf 1 dX10_told_85 fl_X10_19 (by decide) (hg_3 _) rfl ?_
      refine E_iload_n dX10_told_88 rfl ?_
      refine E_V1 dX10_told_89 cv_X10_105 (by decide) (hg_6 _) rfl rfl (Nat.le_of_ble_eq_true rfl) (Nat.le_of_ble_eq_true rfl) (c_lightsOf z hs x) (by decide) (Nat.zero_le _) (Nat.zero_le _) ?_
      exact E_iret dX10_told_92 rfl rfl ⟨by rw [toldD, if_pos (b2i_ne c_8)]; simp only [*, if_true, if_false, reduceIte, Int.reduceEq, reduceCtorEq], rfl⟩
    refine E_tableOut 93 dX10_told_14 (by omega) (by decide) ?_
    refine E_iconst (v := (-1)) dX10_told_93 rfl ?_
    exact E_iret dX10_told_94 rfl rfl ⟨by rw [toldD, if_pos (b2i_ne c_8)]; simp only [*, if_true, if_false, reduceIte, Int.reduceEq, reduceCtorEq], rfl⟩
  · refine E_iconst (v := (-1)) dX10_told_11 rfl ?_
    exact E_iret dX10_told_12 rfl rfl ⟨by rw [toldD, if_neg (b2i_e0 c_8)], rfl⟩
def zad (z : Sg) (g k v : Int32) : Sg := stF (stA (stA (stA z 40 (upd (z.A 40) (z.F 39 5).toNatClampNeg k)) 41 (upd (z.A 41) (z.F 39 5).toNatClampNeg v)) 42 (upd (z.A 42) (z.F 39 5).toNatClampNeg g)) 39 5 (z.F 39 5 + 1)
theorem c_adds (z : Sg) (hin : vp_in (z.F 39 5) 60) (g k v : Int32) : EM mMod_adds 0 0 0 [.ref 39, .int g, .int k, .int v] (hp z) (Det (some (.int (z.F 39 5))) (hp (zad z g k v))) := by
  refine E_aload_n dX11_adds_0 rfl ?_
  refine E_getf 1 dX11_adds_1 fl_X11_9 (by decide) (hg_39 _) rfl ?_
  refine E_aload_n dX11_adds_4 rfl ?_
  refine E_getf 5 dX11_adds_5 fl_X11_22 (by decide) (hg_39 _) rfl ?_
  refine E_iload_n dX11_adds_8 rfl ?_
  refine E_iast dX11_adds_9 (by decide) (hg_40 _) (hin) ?_
  rw [hs_40]
  refine E_aload_n dX11_adds_10 rfl ?_
  refine E_getf 2 dX11_adds_11 fl_X11_13 (by decide) (hg_39 _) rfl ?_
  refine E_aload_n dX11_adds_14 rfl ?_
  refine E_getf 5 (v := .int (z.F 39 5)) dX11_adds_15 fl_X11_22 (by decide) (hg_39 _) rfl ?_
  refine E_iload_n dX11_adds_18 rfl ?_
  refine E_iast (f := z.A 41) dX11_adds_19 (by decide) (hg_41 _) (hin) ?_
  rw [hs_41]
  refine E_aload_n dX11_adds_20 rfl ?_
  refine E_getf 3 dX11_adds_21 fl_X11_16 (by decide) (hg_39 _) rfl ?_
  refine E_aload_n dX11_adds_24 rfl ?_
  refine E_getf 5 (v := .int (z.F 39 5)) dX11_adds_25 fl_X11_22 (by decide) (hg_39 _) rfl ?_
  refine E_iload_n dX11_adds_28 rfl ?_
  refine E_iast (f := z.A 42) dX11_adds_29 (by decide) (hg_42 _) (hin) ?_
  rw [hs_42]
  refine E_aload_n dX11_adds_30 rfl ?_
  refine E_dup dX11_adds_31 rfl ?_
  refine E_getf 5 (v := .int (z.F 39 5)) dX11_adds_32 fl_X11_22 (by decide) (hg_39 _) rfl ?_
  refine E_iconst (v := 1) dX11_adds_35 rfl ?_
  refine E_iadd dX11_adds_36 ?_
  refine E_put 5 dX11_adds_37 fp_X11_22 (fitsV_int _) (by decide) (hg_39 _) (Nat.le_of_ble_eq_true rfl) ?_
  rw [hs_39_5]
  refine E_aload_n dX11_adds_40 rfl ?_
  refine E_getf 5 (v := .int (z.F 39 5 + 1)) dX11_adds_41 fl_X11_22 (by decide) (hg_39 _) rfl ?_
  refine E_iconst (v := 1) dX11_adds_44 rfl ?_
  refine E_isub dX11_adds_45 ?_
  exact E_iret dX11_adds_46 rfl rfl ⟨by rw [i32_ac], rfl⟩
theorem c_Mod_lights (z : Sg) (x : Int32) (hx : vp_in x 60) : EM mMod_lights 0 0 0 [.ref 39, .int x] (hp z) (Det (some (.int (z.A 46 x.toNatClampNeg))) (hp z)) := by
  refine E_aload_n dX11_lights_0 rfl ?_
  refine E_getf 8 dX11_lights_1 fl_X11_33 (by decide) (hg_39 _) rfl ?_
  refine E_iload_n dX11_lights_4 rfl ?_
  refine E_iald dX11_lights_5 (by decide) (hg_46 _) (hx) ?_
  exact E_iret dX11_lights_6 rfl rfl ⟨rfl, rfl⟩
theorem c_Mod_placeOf (z : Sg) (x : Int32) (hx : vp_in x 60) : EM mMod_placeOf 0 0 0 [.ref 39, .int x] (hp z) (Det (some (.int (z.A 47 x.toNatClampNeg))) (hp z)) := by
  refine E_aload_n dX11_placeOf_0 rfl ?_
  refine E_getf 9 dX11_placeOf_1 fl_X11_36 (by decide) (hg_39 _) rfl ?_
  refine E_iload_n dX11_placeOf_4 rfl ?_
  refine E_iald dX11_placeOf_5 (by decide) (hg_47 _) (hx) ?_
  exact E_iret dX11_placeOf_6 rfl rfl ⟨rfl, rfl⟩
def toldM (z : Sg) (x w : Int32) : Int32 := if ltN x (z.F 39 5) then (if w.toInt = 0 then z.A 40 x.toNatClampNeg else if w.toInt = 1 then z.A 41 x.toNatClampNeg else if w.toInt = 2 then z.A 42 x.toNatClampNeg else if w.toInt = 3 then z.A 47 x.toNatClampNeg else if w.toInt = 4 then (if z.A 40 x.toNatClampNeg = 0 then z.A 46 x.toNatClampNeg else 0) else (-1)) else (-1)
theorem c_Mod_told (z : Sg) (hs : (z.F 39 5).toInt ≤ 60) (x w : Int32) : EM mMod_told 1 0 0 [.ref 39, .int x, .int w] (hp z) (Det (some (.int (toldM z x w))) (hp (stF z 39 0 0))) := by
  refine E_aload_n dX11_told_0 rfl ?_
  refine E_iconst (v := 0) dX11_told_1 rfl ?_
  refine E_put 0 dX11_told_2 fp_X11_98 (fitsV_int _) (by decide) (hg_39 _) (Nat.le_of_ble_eq_true rfl) ?_
  rw [hs_39_0]
  refine E_aload_n dX11_told_5 rfl ?_
  refine E_iload_n dX11_told_6 rfl ?_
  refine E_V1 (r := some (.int (b2i (ltN x (z.F 39 5))))) dX11_told_7 cv_X11_116 (by decide) (hg_39 _) rfl rfl (Nat.le_of_ble_eq_true rfl) (Nat.le_of_ble_eq_true rfl) (c_isNode _ x) (by decide) (Nat.zero_le _) (Nat.zero_le _) ?_
  refine E_if_ne 15 dX11_told_10 (by decide) (fun c_10 => ?_) (fun c_10 => ?_)
  · have hx : vp_in x 60 := tg_in (b2i_ne c_10) hs
    refine E_iload_n dX11_told_15 rfl ?_
    by_cases c_16_0 : (w).toInt = 0
    · refine E_tableIn 52 dX11_told_16 (by omega) (by omega) (by rw [c_16_0]; rfl) (by decide) ?_
      refine E_aload_n dX11_told_52 rfl ?_
      refine E_getf 1 dX11_told_53 fl_X11_9 (by decide) (hg_39 _) rfl ?_
      refine E_iload_n dX11_told_56 rfl ?_
      refine E_iald (f := z.A 40) dX11_told_57 (by decide) (hg_40 _) (hx) ?_
      exact E_iret dX11_told_58 rfl rfl ⟨by rw [toldM, if_pos (b2i_ne c_10)]; simp only [*, if_true, if_false, reduceIte, Int.reduceEq, reduceCtorEq], rfl⟩
    by_cases c_16_1 : (w).toInt = 1
    · refine E_tableIn 59 dX11_told_16 (by omega) (by omega) (by rw [c_16_1]; rfl) (by decide) ?_
      refine E_aload_n dX11_told_59 rfl ?_
      refine E_getf 2 dX11_told_60 fl_X11_13 (by decide) (hg_39 _) rfl ?_
      refine E_iload_n dX11_told_63 rfl ?_
      refine E_iald (f := z.A 41) dX11_told_64 (by decide) (hg_41 _) (hx) ?_
      exact E_iret dX11_told_65 rfl rfl ⟨by rw [toldM, if_pos (b2i_ne c_10)]; simp only [*, if_true, if_false, reduceIte, Int.reduceEq, reduceCtorEq], rfl⟩
    by_cases c_16_2 : (w).toInt = 2
    · refine E_tableIn 66 dX11_told_16 (by omega) (by omega) (by rw [c_16_2]; rfl) (by decide) ?_
      refine E_aload_n dX11_told_66 rfl ?_
      refine E_getf 3 dX11_told_67 fl_X11_16 (by decide) (hg_39 _) rfl ?_
      refine E_iload_n dX11_told_70 rfl ?_
      refine E_iald (f := z.A 42) dX11_told_71 (by decide) (hg_42 _) (hx) ?_
      exact E_iret dX11_told_72 rfl rfl ⟨by rw [toldM, if_pos (b2i_ne c_10)]; simp only [*, if_true, if_false, reduceIte, Int.reduceEq, reduceCtorEq], rfl⟩
    by_cases c_16_3 : (w).toInt = 3
    · refine E_tableIn 73 dX11_told_16 (by omega) (by omega) (by rw [c_16_3]; rfl) (by decide) ?_
      refine E_aload_n dX11_told_73 rfl ?_
      refine E_iload_n dX11_told_74 rfl ?_
      refine E_V1 (r := some (.int (z.A 47 x.toNatClampNeg))) dX11_told_75 cv_X11_135 (by decide) (hg_39 _) rfl rfl (Nat.le_of_ble_eq_true rfl) (Nat.le_of_ble_eq_true rfl) (c_Mod_placeOf _ x hx) (by decide) (Nat.zero_le _) (Nat.zero_le _) ?_
      exact E_iret dX11_told_78 rfl rfl ⟨by rw [toldM, if_pos (b2i_ne c_10)]; simp only [*, if_true, if_false, reduceIte, Int.reduceEq, reduceCtorEq], rfl⟩
    by_cases c_16_4 : (w).toInt = 4
    · refine E_tableIn 79 dX11_told_16 (by omega) (by omega) (by rw [c_16_4]; rfl) (by decide) ?_
      refine E_aload_n dX11_told_79 rfl ?_
      refine E_getf 1 dX11_told_80 fl_X11_9 (by decide) (hg_39 _) rfl ?_
      refine E_iload_n dX11_told_83 rfl ?_
      refine E_iald (f := z.A 40) dX11_told_84 (by decide) (hg_40 _) (hx) ?_
      refine E_if_ne 96 dX11_told_85 (by decide) (fun c_85 => ?_) (fun c_85 => ?_)
      · refine E_iconst (v := 0) dX11_told_96 rfl ?_
        exact E_iret dX11_told_97 rfl rfl ⟨by rw [toldM, if_pos (b2i_ne c_10)]; simp only [*, if_true, if_false, reduceIte, Int.reduceEq, reduceCtorEq], rfl⟩
      · refine E_aload_n dX11_told_88 rfl ?_
        refine E_iload_n dX11_told_89 rfl ?_
        refine E_V1 (r := some (.int (z.A 46 x.toNatClampNeg))) dX11_told_90 cv_X11_139 (by decide) (hg_39 _) rfl rfl (Nat.le_of_ble_eq_true rfl) (Nat.le_of_ble_eq_true rfl) (c_Mod_lights _ x hx) (by decide) (Nat.zero_le _) (Nat.zero_le _) ?_
        refine E_goto 97 dX11_told_93 (by decide) ?_
        exact E_iret dX11_told_97 rfl rfl ⟨by rw [toldM, if_pos (b2i_ne c_10)]; simp only [*, if_true, if_false, reduceIte, Int.reduceEq, reduceCtorEq], rfl⟩
    refine E_tableOut 98 dX11_told_16 (by omega) (by decide) ?_
    refine E_iconst (v := (-1)) dX11_told_98 rfl ?_
    exact E_iret dX11_told_99 rfl rfl ⟨by rw [toldM, if_pos (b2i_ne c_10)]; simp only [*, if_true, if_false, reduceIte, Int.reduceEq, reduceCtorEq], rfl⟩
  · refine E_iconst (v := (-1)) dX11_told_13 rfl ?_
    exact E_iret dX11_told_14 rfl rfl ⟨by rw [toldM, if_neg (b2i_e0 c_10)], rfl⟩
def zlc (n : Nat) (z : Sg) : Sg := zcm (zlk n z) 0
theorem c_Mod_clear (z : Sg) : EM mMod_clear 1 0 0 [.ref 39] (hp z) (Det none (hp (zlc 1 (stF (stF z 39 0 0) 39 5 1)))) := by
  refine E_aload_n dX11_clear_0 rfl ?_
  refine E_iconst (v := 0) dX11_clear_1 rfl ?_
  refine E_put 0 dX11_clear_2 fp_X11_98 (fitsV_int _) (by decide) (hg_39 _) (Nat.le_of_ble_eq_true rfl) ?_
  rw [hs_39_0]
  refine E_aload_n dX11_clear_5 rfl ?_
  refine E_iconst (v := 1) dX11_clear_6 rfl ?_
  refine E_put 5 dX11_clear_7 fp_X11_22 (fitsV_int _) (by decide) (hg_39 _) (Nat.le_of_ble_eq_true rfl) ?_
  rw [hs_39_5]
  refine E_aload_n dX11_clear_10 rfl ?_
  refine E_V0 dX11_clear_11 cv_X11_95 (by decide) (hg_39 _) rfl rfl (Nat.le_of_ble_eq_true rfl) (Nat.le_of_ble_eq_true rfl) (c_looks (n := 1) (by omega) (by omega) _ rfl (fun i h1 h2 => absurd h2 (by omega))) (by decide) (Nat.zero_le _) (Nat.zero_le _) ?_
  refine E_aload_n dX11_clear_14 rfl ?_
  refine E_iconst (v := 0) dX11_clear_15 rfl ?_
  refine E_V1 dX11_clear_16 cv_X11_131 (by decide) (hg_39 _) rfl rfl (Nat.le_of_ble_eq_true rfl) (Nat.le_of_ble_eq_true rfl) (c_comes _ 0) (by decide) (Nat.zero_le _) (Nat.zero_le _) ?_
  exact E_vret dX11_clear_19 rfl ⟨rfl, rfl⟩
abbrev nodeOK (z : Sg) (g k v : Int32) : Prop := ¬ z.F 39 5 = 60 ∧ ltN g (z.F 39 5) ∧ z.A 40 g.toNatClampNeg = 0 ∧ inB k 0 6 ∧ (if k = 1 then isL v ∨ v = 32 else (hasV k → inB v 0 4))
theorem F_lo1 : ∀ (m i : Nat) (z : Sg), (lo1 m i z).F = z.F
  | 0, _, _ => rfl
  | m + 1, i, z => by rw [lo1, F_lo1]; rfl
theorem F_lo2 : ∀ (i : Nat) (z : Sg), (lo2 i z).F = z.F
  | 0, _ => rfl
  | i + 1, z => by rw [lo2, F_lo2]; rfl
theorem F_lo3 : ∀ (m i : Nat) (z : Sg), (lo3 m i z).F = z.F
  | 0, _, _ => rfl
  | m + 1, i, z => by
    rw [lo3, F_lo3]
    split <;> rfl
theorem F_zlk (n : Nat) (z : Sg) : (zlk n z).F = z.F := by
  unfold zlk
  rw [F_lo3, F_lo2, F_lo1]
theorem inOK_add {n : Nat} {z : Sg} (hn : n < 60) (hF : z.F 39 5 = nI n) (hI : inOK n z) {g k v : Int32} (hg : ltN g (z.F 39 5)) : inOK (n + 1) (zad (stF z 39 0 0) g k v) := by
  intro i h1 h2
  show ∃ g', g' < n + 1 ∧ upd (z.A 42) (z.F 39 5).toNatClampNeg g i = nI g'
  rw [hF, nI_clamp (by omega)]
  by_cases e : i = n
  · subst e
    have h3 := hg.2
    rw [hF, nI_toInt (by omega)] at h3
    refine ⟨g.toInt.toNat, by omega, ?_⟩
    rw [pk_us]
    apply Int32.toInt_inj.mp
    rw [nI_toInt (by omega)]
    have := hg.1
    omega
  · obtain ⟨g', a, b⟩ := hI i h1 (by omega)
    exact ⟨g', by omega, by rw [pk_un e, b]⟩
theorem c_Mod_node {n : Nat} (h1 : 1 ≤ n) (hn : n ≤ 60) (z : Sg) (hF : z.F 39 5 = nI n) (hI : inOK n z) (g k v : Int32) : EM mMod_node 1 0 0 [.ref 39, .int g, .int k, .int v] (hp z) (Det (some (.int (if nodeOK z g k v then z.F 39 5 else (-1)))) (hp (if nodeOK z g k v then zlc (n + 1) (zad (stF z 39 0 0) g k (if hasV k then v else (-1))) else stF z 39 0 0))) := by
  have hz : (z.F 39 5).toInt = (n : Int) := by rw [hF, nI_toInt (by omega)]
  have hs : (z.F 39 5).toInt ≤ 60 := by omega
  have hno : ∀ P : Prop, ¬ nodeOK z g k v → Det (some (.int (if nodeOK z g k v then z.F 39 5 else (-1)))) (hp (if nodeOK z g k v then zlc (n + 1) (zad (stF z 39 0 0) g k (if hasV k then v else (-1))) else stF z 39 0 0)) (some (.int (-1))) (hp (stF z 39 0 0)) := fun _ h => ⟨by rw [if_neg h], by rw [if_neg h]⟩
  refine E_aload_n dX11_node_0 rfl ?_
  refine E_iconst (v := 0) dX11_node_1 rfl ?_
  refine E_put 0 dX11_node_2 fp_X11_98 (fitsV_int _) (by decide) (hg_39 _) (Nat.le_of_ble_eq_true rfl) ?_
  rw [hs_39_0]
  refine E_aload_n dX11_node_5 rfl ?_
  refine E_getf 5 (v := .int (z.F 39 5)) dX11_node_6 fl_X11_22 (by decide) (hg_39 _) rfl ?_
  refine E_bipush (v := 60) dX11_node_9 rfl ?_
  refine E_icmp_eq 41 dX11_node_11 (by decide) (fun c_11 => ?_) (fun c_11 => ?_)
  · refine E_iconst (v := (-1)) dX11_node_41 rfl ?_
    exact E_iret dX11_node_42 rfl rfl (by first | exact hno True (fun h => h.1 c_11) | exact hno True (fun h => b2i_e0 c_19 h.2.1) | exact hno True (fun h => c_28 h.2.2.1) | exact hno True (fun h => b2i_e0 c_38 h.2.2.2.1))
  · refine E_aload_n dX11_node_14 rfl ?_
    refine E_iload_n dX11_node_15 rfl ?_
    refine E_V1 (r := some (.int (b2i (ltN g (z.F 39 5))))) dX11_node_16 cv_X11_116 (by decide) (hg_39 _) rfl rfl (Nat.le_of_ble_eq_true rfl) (Nat.le_of_ble_eq_true rfl) (c_isNode _ g) (by decide) (Nat.zero_le _) (Nat.zero_le _) ?_
    refine E_if_eq 41 dX11_node_19 (by decide) (fun c_19 => ?_) (fun c_19 => ?_)
    · refine E_iconst (v := (-1)) dX11_node_41 rfl ?_
      exact E_iret dX11_node_42 rfl rfl (by first | exact hno True (fun h => h.1 c_11) | exact hno True (fun h => b2i_e0 c_19 h.2.1) | exact hno True (fun h => c_28 h.2.2.1) | exact hno True (fun h => b2i_e0 c_38 h.2.2.2.1))
    · refine E_aload_n dX11_node_22 rfl ?_
      refine E_getf 1 dX11_node_23 fl_X11_9 (by decide) (hg_39 _) rfl ?_
      refine E_iload_n dX11_node_26 rfl ?_
      refine E_iald (f := z.A 40) dX11_node_27 (by decide) (hg_40 _) (tg_in (b2i_ne c_19) hs) ?_
      refine E_if_ne 41 dX11_node_28 (by decide) (fun c_28 => ?_) (fun c_28 => ?_)
      · refine E_iconst (v := (-1)) dX11_node_41 rfl ?_
        exact E_iret dX11_node_42 rfl rfl (by first | exact hno True (fun h => h.1 c_11) | exact hno True (fun h => b2i_e0 c_19 h.2.1) | exact hno True (fun h => c_28 h.2.2.1) | exact hno True (fun h => b2i_e0 c_38 h.2.2.2.1))
      · refine E_iload_n dX11_node_31 rfl ?_
        refine E_iconst (v := 0) dX11_node_32 rfl ?_
        refine E_bipush (v := 6) dX11_node_33 rfl ?_
        refine E_S3 dX11_node_35 cs_X11_120 (Nat.le_of_ble_eq_true rfl) (Nat.le_of_ble_eq_true rfl) (c_isIn _ k 0 6) (by decide) (Nat.zero_le _) (Nat.zero_le _) ?_
        refine E_if_ne 43 dX11_node_38 (by decide) (fun c_38 => ?_) (fun c_38 => ?_)
        · refine E_iload_n dX11_node_43 rfl ?_
          refine E_iconst (v := 1) dX11_node_44 rfl ?_
          refine E_icmp_eq 59 dX11_node_45 (by decide) (fun c_45 => ?_) (fun c_45 => ?_)
          · refine E_iconst (v := 1) dX11_node_59 rfl ?_
            refine E_goto 64 dX11_node_60 (by decide) ?_
            refine E_istore dX11_node_64 (by decide) rfl ?_
            refine E_iload_n dX11_node_66 rfl ?_
            refine E_iconst (v := 1) dX11_node_67 rfl ?_
            refine E_icmp_ne 87 dX11_node_68 (by decide) (fun c_68 => ?_) (fun c_68 => ?_)
            · refine E_iload dX11_node_87 rfl ?_
              refine E_if_eq 103 dX11_node_89 (by decide) (fun c_89 => ?_) (fun c_89 => ?_)
              · exact absurd c_89 (by decide)
              · refine E_iload_n dX11_node_92 rfl ?_
                refine E_iconst (v := 0) dX11_node_93 rfl ?_
                refine E_iconst (v := 4) dX11_node_94 rfl ?_
                refine E_S3 dX11_node_95 cs_X11_120 (Nat.le_of_ble_eq_true rfl) (Nat.le_of_ble_eq_true rfl) (c_isIn _ v 0 4) (by decide) (Nat.zero_le _) (Nat.zero_le _) ?_
                refine E_if_ne 103 dX11_node_98 (by decide) (fun c_98 => ?_) (fun c_98 => ?_)
                · have hlt : n < 60 := by
                    rcases Nat.lt_or_ge n 60 with h | h
                    · exact h
                    · exact absurd (by rw [hF, show n = 60 by omega]; rfl) c_11
                  have hok : nodeOK z g k v := ⟨c_11, b2i_ne c_19, c_28, b2i_ne c_38, by first | (rw [if_pos c_68]; first | exact Or.inl (b2i_ne c_75) | exact Or.inr c_81) | (rw [if_neg c_68]; first | exact fun _ => b2i_ne c_98 | exact fun h => absurd h (fun h => h.elim c_45 (fun h => h.elim c_50 c_56)))⟩
                  have hin : vp_in ((stF z 39 0 0).F 39 5) 60 := vp_in_iff.mpr ⟨by show 0 ≤ (z.F 39 5).toInt; omega, by show (z.F 39 5).toInt < _; omega⟩
                  refine E_aload_n dX11_node_103 rfl ?_
                  refine E_iload_n dX11_node_104 rfl ?_
                  refine E_iload_n dX11_node_105 rfl ?_
                  refine E_iload dX11_node_106 rfl ?_
                  refine E_if_eq 115 dX11_node_108 (by decide) (fun c_108 => ?_) (fun c_108 => ?_)
                  · exact absurd c_108 (by decide)
                  · refine E_iload_n dX11_node_111 rfl ?_
                    refine E_goto 116 dX11_node_112 (by decide) ?_
                    refine E_V3 dX11_node_116 cv_X11_127 (by decide) (hg_39 _) rfl rfl (Nat.le_of_ble_eq_true rfl) (Nat.le_of_ble_eq_true rfl) (c_adds (stF z 39 0 0) hin g k _) (by decide) (Nat.zero_le _) (Nat.zero_le _) ?_
                    refine E_pop dX11_node_119 rfl ?_
                    refine E_aload_n dX11_node_120 rfl ?_
                    refine E_V0 dX11_node_121 cv_X11_95 (by decide) (hg_39 _) rfl rfl (Nat.le_of_ble_eq_true rfl) (Nat.le_of_ble_eq_true rfl) (c_looks (n := n + 1) (by omega) (by omega) _ (by show z.F 39 5 + 1 = nI (n + 1); rw [hF, nI_1]) (by exact inOK_add hlt hF hI (b2i_ne c_19))) (by decide) (Nat.zero_le _) (Nat.zero_le _) ?_
                    refine E_aload_n dX11_node_124 rfl ?_
                    refine E_iconst (v := 0) dX11_node_125 rfl ?_
                    refine E_V1 dX11_node_126 cv_X11_131 (by decide) (hg_39 _) rfl rfl (Nat.le_of_ble_eq_true rfl) (Nat.le_of_ble_eq_true rfl) (c_comes _ 0) (by decide) (Nat.zero_le _) (Nat.zero_le _) ?_
                    refine E_aload_n dX11_node_129 rfl ?_
                    refine E_getf 5 dX11_node_130 fl_X11_22 (by decide) (hg_39 _) rfl ?_
                    refine E_iconst (v := 1) dX11_node_133 rfl ?_
                    refine E_isub dX11_node_134 ?_
                    exact E_iret dX11_node_135 rfl rfl ⟨by rw [if_pos hok]; show some (Value.int ((zlk (n + 1) (zad (stF z 39 0 0) g k _)).F 39 5 - 1)) = _; rw [F_zlk]; show some (Value.int (z.F 39 5 + 1 - 1)) = _; rw [i32_ac], by rw [if_pos hok]; first | rw [if_pos (show hasV k from Or.inl c_45)]; rfl | rw [if_pos (show hasV k from Or.inr (Or.inl c_50))]; rfl | rw [if_pos (show hasV k from Or.inr (Or.inr c_56))]; rfl | rw [if_neg (show ¬ hasV k from fun h => h.elim c_45 (fun h => h.elim c_50 c_56))]; rfl⟩
                · refine E_iconst (v := (-1)) dX11_node_101 rfl ?_
                  exact E_iret dX11_node_102 rfl rfl (by first | exact hno True (fun h => by have h9 := h.2.2.2.2; rw [if_pos c_68] at h9; exact h9.elim (b2i_e0 c_75) c_81) | exact hno True (fun h => by have h9 := h.2.2.2.2; rw [if_neg c_68] at h9; exact b2i_e0 c_98 (h9 (by first | exact Or.inl c_45 | exact Or.inr (Or.inl c_50) | exact Or.inr (Or.inr c_56)))))
            · refine E_iload_n dX11_node_71 rfl ?_
              refine E_S1 dX11_node_72 cs_X11_124 (Nat.le_of_ble_eq_true rfl) (Nat.le_of_ble_eq_true rfl) (c_isSmall _ v) (by decide) (Nat.zero_le _) (Nat.zero_le _) ?_
              refine E_if_ne 103 dX11_node_75 (by decide) (fun c_75 => ?_) (fun c_75 => ?_)
              · have hlt : n < 60 := by
                  rcases Nat.lt_or_ge n 60 with h | h
                  · exact h
                  · exact absurd (by rw [hF, show n = 60 by omega]; rfl) c_11
                have hok : nodeOK z g k v := ⟨c_11, b2i_ne c_19, c_28, b2i_ne c_38, by first | (rw [if_pos c_68]; first | exact Or.inl (b2i_ne c_75) | exact Or.inr c_81) | (rw [if_neg c_68]; first | exact fun _ => b2i_ne c_98 | exact fun h => absurd h (fun h => h.elim c_45 (fun h => h.elim c_50 c_56)))⟩
                have hin : vp_in ((stF z 39 0 0).F 39 5) 60 := vp_in_iff.mpr ⟨by show 0 ≤ (z.F 39 5).toInt; omega, by show (z.F 39 5).toInt < _; omega⟩
                refine E_aload_n dX11_node_103 rfl ?_
                refine E_iload_n dX11_node_104 rfl ?_
                refine E_iload_n dX11_node_105 rfl ?_
                refine E_iload dX11_node_106 rfl ?_
                refine E_if_eq 115 dX11_node_108 (by decide) (fun c_108 => ?_) (fun c_108 => ?_)
                · exact absurd c_108 (by decide)
                · refine E_iload_n dX11_node_111 rfl ?_
                  refine E_goto 116 dX11_node_112 (by decide) ?_
                  refine E_V3 dX11_node_116 cv_X11_127 (by decide) (hg_39 _) rfl rfl (Nat.le_of_ble_eq_true rfl) (Nat.le_of_ble_eq_true rfl) (c_adds (stF z 39 0 0) hin g k _) (by decide) (Nat.zero_le _) (Nat.zero_le _) ?_
                  refine E_pop dX11_node_119 rfl ?_
                  refine E_aload_n dX11_node_120 rfl ?_
                  refine E_V0 dX11_node_121 cv_X11_95 (by decide) (hg_39 _) rfl rfl (Nat.le_of_ble_eq_true rfl) (Nat.le_of_ble_eq_true rfl) (c_looks (n := n + 1) (by omega) (by omega) _ (by show z.F 39 5 + 1 = nI (n + 1); rw [hF, nI_1]) (by exact inOK_add hlt hF hI (b2i_ne c_19))) (by decide) (Nat.zero_le _) (Nat.zero_le _) ?_
                  refine E_aload_n dX11_node_124 rfl ?_
                  refine E_iconst (v := 0) dX11_node_125 rfl ?_
                  refine E_V1 dX11_node_126 cv_X11_131 (by decide) (hg_39 _) rfl rfl (Nat.le_of_ble_eq_true rfl) (Nat.le_of_ble_eq_true rfl) (c_comes _ 0) (by decide) (Nat.zero_le _) (Nat.zero_le _) ?_
                  refine E_aload_n dX11_node_129 rfl ?_
                  refine E_getf 5 dX11_node_130 fl_X11_22 (by decide) (hg_39 _) rfl ?_
                  refine E_iconst (v := 1) dX11_node_133 rfl ?_
                  refine E_isub dX11_node_134 ?_
                  exact E_iret dX11_node_135 rfl rfl ⟨by rw [if_pos hok]; show some (Value.int ((zlk (n + 1) (zad (stF z 39 0 0) g k _)).F 39 5 - 1)) = _; rw [F_zlk]; show some (Value.int (z.F 39 5 + 1 - 1)) = _; rw [i32_ac], by rw [if_pos hok]; first | rw [if_pos (show hasV k from Or.inl c_45)]; rfl | rw [if_pos (show hasV k from Or.inr (Or.inl c_50))]; rfl | rw [if_pos (show hasV k from Or.inr (Or.inr c_56))]; rfl | rw [if_neg (show ¬ hasV k from fun h => h.elim c_45 (fun h => h.elim c_50 c_56))]; rfl⟩
              · refine E_iload_n dX11_node_78 rfl ?_
                refine E_bipush (v := 32) dX11_node_79 rfl ?_
                refine E_icmp_eq 103 dX11_node_81 (by decide) (fun c_81 => ?_) (fun c_81 => ?_)
                · have hlt : n < 60 := by
                    rcases Nat.lt_or_ge n 60 with h | h
                    · exact h
                    · exact absurd (by rw [hF, show n = 60 by omega]; rfl) c_11
                  have hok : nodeOK z g k v := ⟨c_11, b2i_ne c_19, c_28, b2i_ne c_38, by first | (rw [if_pos c_68]; first | exact Or.inl (b2i_ne c_75) | exact Or.inr c_81) | (rw [if_neg c_68]; first | exact fun _ => b2i_ne c_98 | exact fun h => absurd h (fun h => h.elim c_45 (fun h => h.elim c_50 c_56)))⟩
                  have hin : vp_in ((stF z 39 0 0).F 39 5) 60 := vp_in_iff.mpr ⟨by show 0 ≤ (z.F 39 5).toInt; omega, by show (z.F 39 5).toInt < _; omega⟩
                  refine E_aload_n dX11_node_103 rfl ?_
                  refine E_iload_n dX11_node_104 rfl ?_
                  refine E_iload_n dX11_node_105 rfl ?_
                  refine E_iload dX11_node_106 rfl ?_
                  refine E_if_eq 115 dX11_node_108 (by decide) (fun c_108 => ?_) (fun c_108 => ?_)
                  · exact absurd c_108 (by decide)
                  · refine E_iload_n dX11_node_111 rfl ?_
                    refine E_goto 116 dX11_node_112 (by decide) ?_
                    refine E_V3 dX11_node_116 cv_X11_127 (by decide) (hg_39 _) rfl rfl (Nat.le_of_ble_eq_true rfl) (Nat.le_of_ble_eq_true rfl) (c_adds (stF z 39 0 0) hin g k _) (by decide) (Nat.zero_le _) (Nat.zero_le _) ?_
                    refine E_pop dX11_node_119 rfl ?_
                    refine E_aload_n dX11_node_120 rfl ?_
                    refine E_V0 dX11_node_121 cv_X11_95 (by decide) (hg_39 _) rfl rfl (Nat.le_of_ble_eq_true rfl) (Nat.le_of_ble_eq_true rfl) (c_looks (n := n + 1) (by omega) (by omega) _ (by show z.F 39 5 + 1 = nI (n + 1); rw [hF, nI_1]) (by exact inOK_add hlt hF hI (b2i_ne c_19))) (by decide) (Nat.zero_le _) (Nat.zero_le _) ?_
                    refine E_aload_n dX11_node_124 rfl ?_
                    refine E_iconst (v := 0) dX11_node_125 rfl ?_
                    refine E_V1 dX11_node_126 cv_X11_131 (by decide) (hg_39 _) rfl rfl (Nat.le_of_ble_eq_true rfl) (Nat.le_of_ble_eq_true rfl) (c_comes _ 0) (by decide) (Nat.zero_le _) (Nat.zero_le _) ?_
                    refine E_aload_n dX11_node_129 rfl ?_
                    refine E_getf 5 dX11_node_130 fl_X11_22 (by decide) (hg_39 _) rfl ?_
                    refine E_iconst (v := 1) dX11_node_133 rfl ?_
                    refine E_isub dX11_node_134 ?_
                    exact E_iret dX11_node_135 rfl rfl ⟨by rw [if_pos hok]; show some (Value.int ((zlk (n + 1) (zad (stF z 39 0 0) g k _)).F 39 5 - 1)) = _; rw [F_zlk]; show some (Value.int (z.F 39 5 + 1 - 1)) = _; rw [i32_ac], by rw [if_pos hok]; first | rw [if_pos (show hasV k from Or.inl c_45)]; rfl | rw [if_pos (show hasV k from Or.inr (Or.inl c_50))]; rfl | rw [if_pos (show hasV k from Or.inr (Or.inr c_56))]; rfl | rw [if_neg (show ¬ hasV k from fun h => h.elim c_45 (fun h => h.elim c_50 c_56))]; rfl⟩
                · refine E_goto 101 dX11_node_84 (by decide) ?_
                  refine E_iconst (v := (-1)) dX11_node_101 rfl ?_
                  exact E_iret dX11_node_102 rfl rfl (by first | exact hno True (fun h => by have h9 := h.2.2.2.2; rw [if_pos c_68] at h9; exact h9.elim (b2i_e0 c_75) c_81) | exact hno True (fun h => by have h9 := h.2.2.2.2; rw [if_neg c_68] at h9; exact b2i_e0 c_98 (h9 (by first | exact Or.inl c_45 | exact Or.inr (Or.inl c_50) | exact Or.inr (Or.inr c_56)))))
          · refine E_iload_n dX11_node_48 rfl ?_
            refine E_iconst (v := 4) dX11_node_49 rfl ?_
            refine E_icmp_eq 59 dX11_node_50 (by decide) (fun c_50 => ?_) (fun c_50 => ?_)
            · refine E_iconst (v := 1) dX11_node_59 rfl ?_
              refine E_goto 64 dX11_node_60 (by decide) ?_
              refine E_istore dX11_node_64 (by decide) rfl ?_
              refine E_iload_n dX11_node_66 rfl ?_
              refine E_iconst (v := 1) dX11_node_67 rfl ?_
              refine E_icmp_ne 87 dX11_node_68 (by decide) (fun c_68 => ?_) (fun c_68 => ?_)
              · refine E_iload dX11_node_87 rfl ?_
                refine E_if_eq 103 dX11_node_89 (by decide) (fun c_89 => ?_) (fun c_89 => ?_)
                · exact absurd c_89 (by decide)
                · refine E_iload_n dX11_node_92 rfl ?_
                  refine E_iconst (v := 0) dX11_node_93 rfl ?_
                  refine E_iconst (v := 4) dX11_node_94 rfl ?_
                  refine E_S3 dX11_node_95 cs_X11_120 (Nat.le_of_ble_eq_true rfl) (Nat.le_of_ble_eq_true rfl) (c_isIn _ v 0 4) (by decide) (Nat.zero_le _) (Nat.zero_le _) ?_
                  refine E_if_ne 103 dX11_node_98 (by decide) (fun c_98 => ?_) (fun c_98 => ?_)
                  · have hlt : n < 60 := by
                      rcases Nat.lt_or_ge n 60 with h | h
                      · exact h
                      · exact absurd (by rw [hF, show n = 60 by omega]; rfl) c_11
                    have hok : nodeOK z g k v := ⟨c_11, b2i_ne c_19, c_28, b2i_ne c_38, by first | (rw [if_pos c_68]; first | exact Or.inl (b2i_ne c_75) | exact Or.inr c_81) | (rw [if_neg c_68]; first | exact fun _ => b2i_ne c_98 | exact fun h => absurd h (fun h => h.elim c_45 (fun h => h.elim c_50 c_56)))⟩
                    have hin : vp_in ((stF z 39 0 0).F 39 5) 60 := vp_in_iff.mpr ⟨by show 0 ≤ (z.F 39 5).toInt; omega, by show (z.F 39 5).toInt < _; omega⟩
                    refine E_aload_n dX11_node_103 rfl ?_
                    refine E_iload_n dX11_node_104 rfl ?_
                    refine E_iload_n dX11_node_105 rfl ?_
                    refine E_iload dX11_node_106 rfl ?_
                    refine E_if_eq 115 dX11_node_108 (by decide) (fun c_108 => ?_) (fun c_108 => ?_)
                    · exact absurd c_108 (by decide)
                    · refine E_iload_n dX11_node_111 rfl ?_
                      refine E_goto 116 dX11_node_112 (by decide) ?_
                      refine E_V3 dX11_node_116 cv_X11_127 (by decide) (hg_39 _) rfl rfl (Nat.le_of_ble_eq_true rfl) (Nat.le_of_ble_eq_true rfl) (c_adds (stF z 39 0 0) hin g k _) (by decide) (Nat.zero_le _) (Nat.zero_le _) ?_
                      refine E_pop dX11_node_119 rfl ?_
                      refine E_aload_n dX11_node_120 rfl ?_
                      refine E_V0 dX11_node_121 cv_X11_95 (by decide) (hg_39 _) rfl rfl (Nat.le_of_ble_eq_true rfl) (Nat.le_of_ble_eq_true rfl) (c_looks (n := n + 1) (by omega) (by omega) _ (by show z.F 39 5 + 1 = nI (n + 1); rw [hF, nI_1]) (by exact inOK_add hlt hF hI (b2i_ne c_19))) (by decide) (Nat.zero_le _) (Nat.zero_le _) ?_
                      refine E_aload_n dX11_node_124 rfl ?_
                      refine E_iconst (v := 0) dX11_node_125 rfl ?_
                      refine E_V1 dX11_node_126 cv_X11_131 (by decide) (hg_39 _) rfl rfl (Nat.le_of_ble_eq_true rfl) (Nat.le_of_ble_eq_true rfl) (c_comes _ 0) (by decide) (Nat.zero_le _) (Nat.zero_le _) ?_
                      refine E_aload_n dX11_node_129 rfl ?_
                      refine E_getf 5 dX11_node_130 fl_X11_22 (by decide) (hg_39 _) rfl ?_
                      refine E_iconst (v := 1) dX11_node_133 rfl ?_
                      refine E_isub dX11_node_134 ?_
                      exact E_iret dX11_node_135 rfl rfl ⟨by rw [if_pos hok]; show some (Value.int ((zlk (n + 1) (zad (stF z 39 0 0) g k _)).F 39 5 - 1)) = _; rw [F_zlk]; show some (Value.int (z.F 39 5 + 1 - 1)) = _; rw [i32_ac], by rw [if_pos hok]; first | rw [if_pos (show hasV k from Or.inl c_45)]; rfl | rw [if_pos (show hasV k from Or.inr (Or.inl c_50))]; rfl | rw [if_pos (show hasV k from Or.inr (Or.inr c_56))]; rfl | rw [if_neg (show ¬ hasV k from fun h => h.elim c_45 (fun h => h.elim c_50 c_56))]; rfl⟩
                  · refine E_iconst (v := (-1)) dX11_node_101 rfl ?_
                    exact E_iret dX11_node_102 rfl rfl (by first | exact hno True (fun h => by have h9 := h.2.2.2.2; rw [if_pos c_68] at h9; exact h9.elim (b2i_e0 c_75) c_81) | exact hno True (fun h => by have h9 := h.2.2.2.2; rw [if_neg c_68] at h9; exact b2i_e0 c_98 (h9 (by first | exact Or.inl c_45 | exact Or.inr (Or.inl c_50) | exact Or.inr (Or.inr c_56)))))
              · refine E_iload_n dX11_node_71 rfl ?_
                refine E_S1 dX11_node_72 cs_X11_124 (Nat.le_of_ble_eq_true rfl) (Nat.le_of_ble_eq_true rfl) (c_isSmall _ v) (by decide) (Nat.zero_le _) (Nat.zero_le _) ?_
                refine E_if_ne 103 dX11_node_75 (by decide) (fun c_75 => ?_) (fun c_75 => ?_)
                · have hlt : n < 60 := by
                    rcases Nat.lt_or_ge n 60 with h | h
                    · exact h
                    · exact absurd (by rw [hF, show n = 60 by omega]; rfl) c_11
                  have hok : nodeOK z g k v := ⟨c_11, b2i_ne c_19, c_28, b2i_ne c_38, by first | (rw [if_pos c_68]; first | exact Or.inl (b2i_ne c_75) | exact Or.inr c_81) | (rw [if_neg c_68]; first | exact fun _ => b2i_ne c_98 | exact fun h => absurd h (fun h => h.elim c_45 (fun h => h.elim c_50 c_56)))⟩
                  have hin : vp_in ((stF z 39 0 0).F 39 5) 60 := vp_in_iff.mpr ⟨by show 0 ≤ (z.F 39 5).toInt; omega, by show (z.F 39 5).toInt < _; omega⟩
                  refine E_aload_n dX11_node_103 rfl ?_
                  refine E_iload_n dX11_node_104 rfl ?_
                  refine E_iload_n dX11_node_105 rfl ?_
                  refine E_iload dX11_node_106 rfl ?_
                  refine E_if_eq 115 dX11_node_108 (by decide) (fun c_108 => ?_) (fun c_108 => ?_)
                  · exact absurd c_108 (by decide)
                  · refine E_iload_n dX11_node_111 rfl ?_
                    refine E_goto 116 dX11_node_112 (by decide) ?_
                    refine E_V3 dX11_node_116 cv_X11_127 (by decide) (hg_39 _) rfl rfl (Nat.le_of_ble_eq_true rfl) (Nat.le_of_ble_eq_true rfl) (c_adds (stF z 39 0 0) hin g k _) (by decide) (Nat.zero_le _) (Nat.zero_le _) ?_
                    refine E_pop dX11_node_119 rfl ?_
                    refine E_aload_n dX11_node_120 rfl ?_
                    refine E_V0 dX11_node_121 cv_X11_95 (by decide) (hg_39 _) rfl rfl (Nat.le_of_ble_eq_true rfl) (Nat.le_of_ble_eq_true rfl) (c_looks (n := n + 1) (by omega) (by omega) _ (by show z.F 39 5 + 1 = nI (n + 1); rw [hF, nI_1]) (by exact inOK_add hlt hF hI (b2i_ne c_19))) (by decide) (Nat.zero_le _) (Nat.zero_le _) ?_
                    refine E_aload_n dX11_node_124 rfl ?_
                    refine E_iconst (v := 0) dX11_node_125 rfl ?_
                    refine E_V1 dX11_node_126 cv_X11_131 (by decide) (hg_39 _) rfl rfl (Nat.le_of_ble_eq_true rfl) (Nat.le_of_ble_eq_true rfl) (c_comes _ 0) (by decide) (Nat.zero_le _) (Nat.zero_le _) ?_
                    refine E_aload_n dX11_node_129 rfl ?_
                    refine E_getf 5 dX11_node_130 fl_X11_22 (by decide) (hg_39 _) rfl ?_
                    refine E_iconst (v := 1) dX11_node_133 rfl ?_
                    refine E_isub dX11_node_134 ?_
                    exact E_iret dX11_node_135 rfl rfl ⟨by rw [if_pos hok]; show some (Value.int ((zlk (n + 1) (zad (stF z 39 0 0) g k _)).F 39 5 - 1)) = _; rw [F_zlk]; show some (Value.int (z.F 39 5 + 1 - 1)) = _; rw [i32_ac], by rw [if_pos hok]; first | rw [if_pos (show hasV k from Or.inl c_45)]; rfl | rw [if_pos (show hasV k from Or.inr (Or.inl c_50))]; rfl | rw [if_pos (show hasV k from Or.inr (Or.inr c_56))]; rfl | rw [if_neg (show ¬ hasV k from fun h => h.elim c_45 (fun h => h.elim c_50 c_56))]; rfl⟩
                · refine E_iload_n dX11_node_78 rfl ?_
                  refine E_bipush (v := 32) dX11_node_79 rfl ?_
                  refine E_icmp_eq 103 dX11_node_81 (by decide) (fun c_81 => ?_) (fun c_81 => ?_)
                  · have hlt : n < 60 := by
                      rcases Nat.lt_or_ge n 60 with h | h
                      · exact h
                      · exact absurd (by rw [hF, show n = 60 by omega]; rfl) c_11
                    have hok : nodeOK z g k v := ⟨c_11, b2i_ne c_19, c_28, b2i_ne c_38, by first | (rw [if_pos c_68]; first | exact Or.inl (b2i_ne c_75) | exact Or.inr c_81) | (rw [if_neg c_68]; first | exact fun _ => b2i_ne c_98 | exact fun h => absurd h (fun h => h.elim c_45 (fun h => h.elim c_50 c_56)))⟩
                    have hin : vp_in ((stF z 39 0 0).F 39 5) 60 := vp_in_iff.mpr ⟨by show 0 ≤ (z.F 39 5).toInt; omega, by show (z.F 39 5).toInt < _; omega⟩
                    refine E_aload_n dX11_node_103 rfl ?_
                    refine E_iload_n dX11_node_104 rfl ?_
                    refine E_iload_n dX11_node_105 rfl ?_
                    refine E_iload dX11_node_106 rfl ?_
                    refine E_if_eq 115 dX11_node_108 (by decide) (fun c_108 => ?_) (fun c_108 => ?_)
                    · exact absurd c_108 (by decide)
                    · refine E_iload_n dX11_node_111 rfl ?_
                      refine E_goto 116 dX11_node_112 (by decide) ?_
                      refine E_V3 dX11_node_116 cv_X11_127 (by decide) (hg_39 _) rfl rfl (Nat.le_of_ble_eq_true rfl) (Nat.le_of_ble_eq_true rfl) (c_adds (stF z 39 0 0) hin g k _) (by decide) (Nat.zero_le _) (Nat.zero_le _) ?_
                      refine E_pop dX11_node_119 rfl ?_
                      refine E_aload_n dX11_node_120 rfl ?_
                      refine E_V0 dX11_node_121 cv_X11_95 (by decide) (hg_39 _) rfl rfl (Nat.le_of_ble_eq_true rfl) (Nat.le_of_ble_eq_true rfl) (c_looks (n := n + 1) (by omega) (by omega) _ (by show z.F 39 5 + 1 = nI (n + 1); rw [hF, nI_1]) (by exact inOK_add hlt hF hI (b2i_ne c_19))) (by decide) (Nat.zero_le _) (Nat.zero_le _) ?_
                      refine E_aload_n dX11_node_124 rfl ?_
                      refine E_iconst (v := 0) dX11_node_125 rfl ?_
                      refine E_V1 dX11_node_126 cv_X11_131 (by decide) (hg_39 _) rfl rfl (Nat.le_of_ble_eq_true rfl) (Nat.le_of_ble_eq_true rfl) (c_comes _ 0) (by decide) (Nat.zero_le _) (Nat.zero_le _) ?_
                      refine E_aload_n dX11_node_129 rfl ?_
                      refine E_getf 5 dX11_node_130 fl_X11_22 (by decide) (hg_39 _) rfl ?_
                      refine E_iconst (v := 1) dX11_node_133 rfl ?_
                      refine E_isub dX11_node_134 ?_
                      exact E_iret dX11_node_135 rfl rfl ⟨by rw [if_pos hok]; show some (Value.int ((zlk (n + 1) (zad (stF z 39 0 0) g k _)).F 39 5 - 1)) = _; rw [F_zlk]; show some (Value.int (z.F 39 5 + 1 - 1)) = _; rw [i32_ac], by rw [if_pos hok]; first | rw [if_pos (show hasV k from Or.inl c_45)]; rfl | rw [if_pos (show hasV k from Or.inr (Or.inl c_50))]; rfl | rw [if_pos (show hasV k from Or.inr (Or.inr c_56))]; rfl | rw [if_neg (show ¬ hasV k from fun h => h.elim c_45 (fun h => h.elim c_50 c_56))]; rfl⟩
                  · refine E_goto 101 dX11_node_84 (by decide) ?_
                    refine E_iconst (v := (-1)) dX11_node_101 rfl ?_
                    exact E_iret dX11_node_102 rfl rfl (by first | exact hno True (fun h => by have h9 := h.2.2.2.2; rw [if_pos c_68] at h9; exact h9.elim (b2i_e0 c_75) c_81) | exact hno True (fun h => by have h9 := h.2.2.2.2; rw [if_neg c_68] at h9; exact b2i_e0 c_98 (h9 (by first | exact Or.inl c_45 | exact Or.inr (Or.inl c_50) | exact Or.inr (Or.inr c_56)))))
            · refine E_iload_n dX11_node_53 rfl ?_
              refine E_bipush (v := 6) dX11_node_54 rfl ?_
              refine E_icmp_ne 63 dX11_node_56 (by decide) (fun c_56 => ?_) (fun c_56 => ?_)
              · refine E_iconst (v := 0) dX11_node_63 rfl ?_
                refine E_istore dX11_node_64 (by decide) rfl ?_
                refine E_iload_n dX11_node_66 rfl ?_
                refine E_iconst (v := 1) dX11_node_67 rfl ?_
                refine E_icmp_ne 87 dX11_node_68 (by decide) (fun c_68 => ?_) (fun c_68 => ?_)
                · refine E_iload dX11_node_87 rfl ?_
                  refine E_if_eq 103 dX11_node_89 (by decide) (fun c_89 => ?_) (fun c_89 => ?_)
                  · have hlt : n < 60 := by
                      rcases Nat.lt_or_ge n 60 with h | h
                      · exact h
                      · exact absurd (by rw [hF, show n = 60 by omega]; rfl) c_11
                    have hok : nodeOK z g k v := ⟨c_11, b2i_ne c_19, c_28, b2i_ne c_38, by first | (rw [if_pos c_68]; first | exact Or.inl (b2i_ne c_75) | exact Or.inr c_81) | (rw [if_neg c_68]; first | exact fun _ => b2i_ne c_98 | exact fun h => absurd h (fun h => h.elim c_45 (fun h => h.elim c_50 c_56)))⟩
                    have hin : vp_in ((stF z 39 0 0).F 39 5) 60 := vp_in_iff.mpr ⟨by show 0 ≤ (z.F 39 5).toInt; omega, by show (z.F 39 5).toInt < _; omega⟩
                    refine E_aload_n dX11_node_103 rfl ?_
                    refine E_iload_n dX11_node_104 rfl ?_
                    refine E_iload_n dX11_node_105 rfl ?_
                    refine E_iload dX11_node_106 rfl ?_
                    refine E_if_eq 115 dX11_node_108 (by decide) (fun c_108 => ?_) (fun c_108 => ?_)
                    · refine E_iconst (v := (-1)) dX11_node_115 rfl ?_
                      refine E_V3 dX11_node_116 cv_X11_127 (by decide) (hg_39 _) rfl rfl (Nat.le_of_ble_eq_true rfl) (Nat.le_of_ble_eq_true rfl) (c_adds (stF z 39 0 0) hin g k _) (by decide) (Nat.zero_le _) (Nat.zero_le _) ?_
                      refine E_pop dX11_node_119 rfl ?_
                      refine E_aload_n dX11_node_120 rfl ?_
                      refine E_V0 dX11_node_121 cv_X11_95 (by decide) (hg_39 _) rfl rfl (Nat.le_of_ble_eq_true rfl) (Nat.le_of_ble_eq_true rfl) (c_looks (n := n + 1) (by omega) (by omega) _ (by show z.F 39 5 + 1 = nI (n + 1); rw [hF, nI_1]) (by exact inOK_add hlt hF hI (b2i_ne c_19))) (by decide) (Nat.zero_le _) (Nat.zero_le _) ?_
                      refine E_aload_n dX11_node_124 rfl ?_
                      refine E_iconst (v := 0) dX11_node_125 rfl ?_
                      refine E_V1 dX11_node_126 cv_X11_131 (by decide) (hg_39 _) rfl rfl (Nat.le_of_ble_eq_true rfl) (Nat.le_of_ble_eq_true rfl) (c_comes _ 0) (by decide) (Nat.zero_le _) (Nat.zero_le _) ?_
                      refine E_aload_n dX11_node_129 rfl ?_
                      refine E_getf 5 dX11_node_130 fl_X11_22 (by decide) (hg_39 _) rfl ?_
                      refine E_iconst (v := 1) dX11_node_133 rfl ?_
                      refine E_isub dX11_node_134 ?_
                      exact E_iret dX11_node_135 rfl rfl ⟨by rw [if_pos hok]; show some (Value.int ((zlk (n + 1) (zad (stF z 39 0 0) g k _)).F 39 5 - 1)) = _; rw [F_zlk]; show some (Value.int (z.F 39 5 + 1 - 1)) = _; rw [i32_ac], by rw [if_pos hok]; first | rw [if_pos (show hasV k from Or.inl c_45)]; rfl | rw [if_pos (show hasV k from Or.inr (Or.inl c_50))]; rfl | rw [if_pos (show hasV k from Or.inr (Or.inr c_56))]; rfl | rw [if_neg (show ¬ hasV k from fun h => h.elim c_45 (fun h => h.elim c_50 c_56))]; rfl⟩
                    · exact absurd c_108 (by decide)
                  · exact absurd c_89 (by decide)
                · refine E_iload_n dX11_node_71 rfl ?_
                  refine E_S1 dX11_node_72 cs_X11_124 (Nat.le_of_ble_eq_true rfl) (Nat.le_of_ble_eq_true rfl) (c_isSmall _ v) (by decide) (Nat.zero_le _) (Nat.zero_le _) ?_
                  refine E_if_ne 103 dX11_node_75 (by decide) (fun c_75 => ?_) (fun c_75 => ?_)
                  · have hlt : n < 60 := by
                      rcases Nat.lt_or_ge n 60 with h | h
                      · exact h
                      · exact absurd (by rw [hF, show n = 60 by omega]; rfl) c_11
                    have hok : nodeOK z g k v := ⟨c_11, b2i_ne c_19, c_28, b2i_ne c_38, by first | (rw [if_pos c_68]; first | exact Or.inl (b2i_ne c_75) | exact Or.inr c_81) | (rw [if_neg c_68]; first | exact fun _ => b2i_ne c_98 | exact fun h => absurd h (fun h => h.elim c_45 (fun h => h.elim c_50 c_56)))⟩
                    have hin : vp_in ((stF z 39 0 0).F 39 5) 60 := vp_in_iff.mpr ⟨by show 0 ≤ (z.F 39 5).toInt; omega, by show (z.F 39 5).toInt < _; omega⟩
                    refine E_aload_n dX11_node_103 rfl ?_
                    refine E_iload_n dX11_node_104 rfl ?_
                    refine E_iload_n dX11_node_105 rfl ?_
                    refine E_iload dX11_node_106 rfl ?_
                    refine E_if_eq 115 dX11_node_108 (by decide) (fun c_108 => ?_) (fun c_108 => ?_)
                    · refine E_iconst (v := (-1)) dX11_node_115 rfl ?_
                      refine E_V3 dX11_node_116 cv_X11_127 (by decide) (hg_39 _) rfl rfl (Nat.le_of_ble_eq_true rfl) (Nat.le_of_ble_eq_true rfl) (c_adds (stF z 39 0 0) hin g k _) (by decide) (Nat.zero_le _) (Nat.zero_le _) ?_
                      refine E_pop dX11_node_119 rfl ?_
                      refine E_aload_n dX11_node_120 rfl ?_
                      refine E_V0 dX11_node_121 cv_X11_95 (by decide) (hg_39 _) rfl rfl (Nat.le_of_ble_eq_true rfl) (Nat.le_of_ble_eq_true rfl) (c_looks (n := n + 1) (by omega) (by omega) _ (by show z.F 39 5 + 1 = nI (n + 1); rw [hF, nI_1]) (by exact inOK_add hlt hF hI (b2i_ne c_19))) (by decide) (Nat.zero_le _) (Nat.zero_le _) ?_
                      refine E_aload_n dX11_node_124 rfl ?_
                      refine E_iconst (v := 0) dX11_node_125 rfl ?_
                      refine E_V1 dX11_node_126 cv_X11_131 (by decide) (hg_39 _) rfl rfl (Nat.le_of_ble_eq_true rfl) (Nat.le_of_ble_eq_true rfl) (c_comes _ 0) (by decide) (Nat.zero_le _) (Nat.zero_le _) ?_
                      refine E_aload_n dX11_node_129 rfl ?_
                      refine E_getf 5 dX11_node_130 fl_X11_22 (by decide) (hg_39 _) rfl ?_
                      refine E_iconst (v := 1) dX11_node_133 rfl ?_
                      refine E_isub dX11_node_134 ?_
                      exact E_iret dX11_node_135 rfl rfl ⟨by rw [if_pos hok]; show some (Value.int ((zlk (n + 1) (zad (stF z 39 0 0) g k _)).F 39 5 - 1)) = _; rw [F_zlk]; show some (Value.int (z.F 39 5 + 1 - 1)) = _; rw [i32_ac], by rw [if_pos hok]; first | rw [if_pos (show hasV k from Or.inl c_45)]; rfl | rw [if_pos (show hasV k from Or.inr (Or.inl c_50))]; rfl | rw [if_pos (show hasV k from Or.inr (Or.inr c_56))]; rfl | rw [if_neg (show ¬ hasV k from fun h => h.elim c_45 (fun h => h.elim c_50 c_56))]; rfl⟩
                    · exact absurd c_108 (by decide)
                  · refine E_iload_n dX11_node_78 rfl ?_
                    refine E_bipush (v := 32) dX11_node_79 rfl ?_
                    refine E_icmp_eq 103 dX11_node_81 (by decide) (fun c_81 => ?_) (fun c_81 => ?_)
                    · have hlt : n < 60 := by
                        rcases Nat.lt_or_ge n 60 with h | h
                        · exact h
                        · exact absurd (by rw [hF, show n = 60 by omega]; rfl) c_11
                      have hok : nodeOK z g k v := ⟨c_11, b2i_ne c_19, c_28, b2i_ne c_38, by first | (rw [if_pos c_68]; first | exact Or.inl (b2i_ne c_75) | exact Or.inr c_81) | (rw [if_neg c_68]; first | exact fun _ => b2i_ne c_98 | exact fun h => absurd h (fun h => h.elim c_45 (fun h => h.elim c_50 c_56)))⟩
                      have hin : vp_in ((stF z 39 0 0).F 39 5) 60 := vp_in_iff.mpr ⟨by show 0 ≤ (z.F 39 5).toInt; omega, by show (z.F 39 5).toInt < _; omega⟩
                      refine E_aload_n dX11_node_103 rfl ?_
                      refine E_iload_n dX11_node_104 rfl ?_
                      refine E_iload_n dX11_node_105 rfl ?_
                      refine E_iload dX11_node_106 rfl ?_
                      refine E_if_eq 115 dX11_node_108 (by decide) (fun c_108 => ?_) (fun c_108 => ?_)
                      · refine E_iconst (v := (-1)) dX11_node_115 rfl ?_
                        refine E_V3 dX11_node_116 cv_X11_127 (by decide) (hg_39 _) rfl rfl (Nat.le_of_ble_eq_true rfl) (Nat.le_of_ble_eq_true rfl) (c_adds (stF z 39 0 0) hin g k _) (by decide) (Nat.zero_le _) (Nat.zero_le _) ?_
                        refine E_pop dX11_node_119 rfl ?_
                        refine E_aload_n dX11_node_120 rfl ?_
                        refine E_V0 dX11_node_121 cv_X11_95 (by decide) (hg_39 _) rfl rfl (Nat.le_of_ble_eq_true rfl) (Nat.le_of_ble_eq_true rfl) (c_looks (n := n + 1) (by omega) (by omega) _ (by show z.F 39 5 + 1 = nI (n + 1); rw [hF, nI_1]) (by exact inOK_add hlt hF hI (b2i_ne c_19))) (by decide) (Nat.zero_le _) (Nat.zero_le _) ?_
                        refine E_aload_n dX11_node_124 rfl ?_
                        refine E_iconst (v := 0) dX11_node_125 rfl ?_
                        refine E_V1 dX11_node_126 cv_X11_131 (by decide) (hg_39 _) rfl rfl (Nat.le_of_ble_eq_true rfl) (Nat.le_of_ble_eq_true rfl) (c_comes _ 0) (by decide) (Nat.zero_le _) (Nat.zero_le _) ?_
                        refine E_aload_n dX11_node_129 rfl ?_
                        refine E_getf 5 dX11_node_130 fl_X11_22 (by decide) (hg_39 _) rfl ?_
                        refine E_iconst (v := 1) dX11_node_133 rfl ?_
                        refine E_isub dX11_node_134 ?_
                        exact E_iret dX11_node_135 rfl rfl ⟨by rw [if_pos hok]; show some (Value.int ((zlk (n + 1) (zad (stF z 39 0 0) g k _)).F 39 5 - 1)) = _; rw [F_zlk]; show some (Value.int (z.F 39 5 + 1 - 1)) = _; rw [i32_ac], by rw [if_pos hok]; first | rw [if_pos (show hasV k from Or.inl c_45)]; rfl | rw [if_pos (show hasV k from Or.inr (Or.inl c_50))]; rfl | rw [if_pos (show hasV k from Or.inr (Or.inr c_56))]; rfl | rw [if_neg (show ¬ hasV k from fun h => h.elim c_45 (fun h => h.elim c_50 c_56))]; rfl⟩
                      · exact absurd c_108 (by decide)
                    · refine E_goto 101 dX11_node_84 (by decide) ?_
                      refine E_iconst (v := (-1)) dX11_node_101 rfl ?_
                      exact E_iret dX11_node_102 rfl rfl (by first | exact hno True (fun h => by have h9 := h.2.2.2.2; rw [if_pos c_68] at h9; exact h9.elim (b2i_e0 c_75) c_81) | exact hno True (fun h => by have h9 := h.2.2.2.2; rw [if_neg c_68] at h9; exact b2i_e0 c_98 (h9 (by first | exact Or.inl c_45 | exact Or.inr (Or.inl c_50) | exact Or.inr (Or.inr c_56)))))
              · refine E_iconst (v := 1) dX11_node_59 rfl ?_
                refine E_goto 64 dX11_node_60 (by decide) ?_
                refine E_istore dX11_node_64 (by decide) rfl ?_
                refine E_iload_n dX11_node_66 rfl ?_
                refine E_iconst (v := 1) dX11_node_67 rfl ?_
                refine E_icmp_ne 87 dX11_node_68 (by decide) (fun c_68 => ?_) (fun c_68 => ?_)
                · refine E_iload dX11_node_87 rfl ?_
                  refine E_if_eq 103 dX11_node_89 (by decide) (fun c_89 => ?_) (fun c_89 => ?_)
                  · exact absurd c_89 (by decide)
                  · refine E_iload_n dX11_node_92 rfl ?_
                    refine E_iconst (v := 0) dX11_node_93 rfl ?_
                    refine E_iconst (v := 4) dX11_node_94 rfl ?_
                    refine E_S3 dX11_node_95 cs_X11_120 (Nat.le_of_ble_eq_true rfl) (Nat.le_of_ble_eq_true rfl) (c_isIn _ v 0 4) (by decide) (Nat.zero_le _) (Nat.zero_le _) ?_
                    refine E_if_ne 103 dX11_node_98 (by decide) (fun c_98 => ?_) (fun c_98 => ?_)
                    · have hlt : n < 60 := by
                        rcases Nat.lt_or_ge n 60 with h | h
                        · exact h
                        · exact absurd (by rw [hF, show n = 60 by omega]; rfl) c_11
                      have hok : nodeOK z g k v := ⟨c_11, b2i_ne c_19, c_28, b2i_ne c_38, by first | (rw [if_pos c_68]; first | exact Or.inl (b2i_ne c_75) | exact Or.inr c_81) | (rw [if_neg c_68]; first | exact fun _ => b2i_ne c_98 | exact fun h => absurd h (fun h => h.elim c_45 (fun h => h.elim c_50 c_56)))⟩
                      have hin : vp_in ((stF z 39 0 0).F 39 5) 60 := vp_in_iff.mpr ⟨by show 0 ≤ (z.F 39 5).toInt; omega, by show (z.F 39 5).toInt < _; omega⟩
                      refine E_aload_n dX11_node_103 rfl ?_
                      refine E_iload_n dX11_node_104 rfl ?_
                      refine E_iload_n dX11_node_105 rfl ?_
                      refine E_iload dX11_node_106 rfl ?_
                      refine E_if_eq 115 dX11_node_108 (by decide) (fun c_108 => ?_) (fun c_108 => ?_)
                      · exact absurd c_108 (by decide)
                      · refine E_iload_n dX11_node_111 rfl ?_
                        refine E_goto 116 dX11_node_112 (by decide) ?_
                        refine E_V3 dX11_node_116 cv_X11_127 (by decide) (hg_39 _) rfl rfl (Nat.le_of_ble_eq_true rfl) (Nat.le_of_ble_eq_true rfl) (c_adds (stF z 39 0 0) hin g k _) (by decide) (Nat.zero_le _) (Nat.zero_le _) ?_
                        refine E_pop dX11_node_119 rfl ?_
                        refine E_aload_n dX11_node_120 rfl ?_
                        refine E_V0 dX11_node_121 cv_X11_95 (by decide) (hg_39 _) rfl rfl (Nat.le_of_ble_eq_true rfl) (Nat.le_of_ble_eq_true rfl) (c_looks (n := n + 1) (by omega) (by omega) _ (by show z.F 39 5 + 1 = nI (n + 1); rw [hF, nI_1]) (by exact inOK_add hlt hF hI (b2i_ne c_19))) (by decide) (Nat.zero_le _) (Nat.zero_le _) ?_
                        refine E_aload_n dX11_node_124 rfl ?_
                        refine E_iconst (v := 0) dX11_node_125 rfl ?_
                        refine E_V1 dX11_node_126 cv_X11_131 (by decide) (hg_39 _) rfl rfl (Nat.le_of_ble_eq_true rfl) (Nat.le_of_ble_eq_true rfl) (c_comes _ 0) (by decide) (Nat.zero_le _) (Nat.zero_le _) ?_
                        refine E_aload_n dX11_node_129 rfl ?_
                        refine E_getf 5 dX11_node_130 fl_X11_22 (by decide) (hg_39 _) rfl ?_
                        refine E_iconst (v := 1) dX11_node_133 rfl ?_
                        refine E_isub dX11_node_134 ?_
                        exact E_iret dX11_node_135 rfl rfl ⟨by rw [if_pos hok]; show some (Value.int ((zlk (n + 1) (zad (stF z 39 0 0) g k _)).F 39 5 - 1)) = _; rw [F_zlk]; show some (Value.int (z.F 39 5 + 1 - 1)) = _; rw [i32_ac], by rw [if_pos hok]; first | rw [if_pos (show hasV k from Or.inl c_45)]; rfl | rw [if_pos (show hasV k from Or.inr (Or.inl c_50))]; rfl | rw [if_pos (show hasV k from Or.inr (Or.inr c_56))]; rfl | rw [if_neg (show ¬ hasV k from fun h => h.elim c_45 (fun h => h.elim c_50 c_56))]; rfl⟩
                    · refine E_iconst (v := (-1)) dX11_node_101 rfl ?_
                      exact E_iret dX11_node_102 rfl rfl (by first | exact hno True (fun h => by have h9 := h.2.2.2.2; rw [if_pos c_68] at h9; exact h9.elim (b2i_e0 c_75) c_81) | exact hno True (fun h => by have h9 := h.2.2.2.2; rw [if_neg c_68] at h9; exact b2i_e0 c_98 (h9 (by first | exact Or.inl c_45 | exact Or.inr (Or.inl c_50) | exact Or.inr (Or.inr c_56)))))
                · refine E_iload_n dX11_node_71 rfl ?_
                  refine E_S1 dX11_node_72 cs_X11_124 (Nat.le_of_ble_eq_true rfl) (Nat.le_of_ble_eq_true rfl) (c_isSmall _ v) (by decide) (Nat.zero_le _) (Nat.zero_le _) ?_
                  refine E_if_ne 103 dX11_node_75 (by decide) (fun c_75 => ?_) (fun c_75 => ?_)
                  · have hlt : n < 60 := by
                      rcases Nat.lt_or_ge n 60 with h | h
                      · exact h
                      · exact absurd (by rw [hF, show n = 60 by omega]; rfl) c_11
                    have hok : nodeOK z g k v := ⟨c_11, b2i_ne c_19, c_28, b2i_ne c_38, by first | (rw [if_pos c_68]; first | exact Or.inl (b2i_ne c_75) | exact Or.inr c_81) | (rw [if_neg c_68]; first | exact fun _ => b2i_ne c_98 | exact fun h => absurd h (fun h => h.elim c_45 (fun h => h.elim c_50 c_56)))⟩
                    have hin : vp_in ((stF z 39 0 0).F 39 5) 60 := vp_in_iff.mpr ⟨by show 0 ≤ (z.F 39 5).toInt; omega, by show (z.F 39 5).toInt < _; omega⟩
                    refine E_aload_n dX11_node_103 rfl ?_
                    refine E_iload_n dX11_node_104 rfl ?_
                    refine E_iload_n dX11_node_105 rfl ?_
                    refine E_iload dX11_node_106 rfl ?_
                    refine E_if_eq 115 dX11_node_108 (by decide) (fun c_108 => ?_) (fun c_108 => ?_)
                    · exact absurd c_108 (by decide)
                    · refine E_iload_n dX11_node_111 rfl ?_
                      refine E_goto 116 dX11_node_112 (by decide) ?_
                      refine E_V3 dX11_node_116 cv_X11_127 (by decide) (hg_39 _) rfl rfl (Nat.le_of_ble_eq_true rfl) (Nat.le_of_ble_eq_true rfl) (c_adds (stF z 39 0 0) hin g k _) (by decide) (Nat.zero_le _) (Nat.zero_le _) ?_
                      refine E_pop dX11_node_119 rfl ?_
                      refine E_aload_n dX11_node_120 rfl ?_
                      refine E_V0 dX11_node_121 cv_X11_95 (by decide) (hg_39 _) rfl rfl (Nat.le_of_ble_eq_true rfl) (Nat.le_of_ble_eq_true rfl) (c_looks (n := n + 1) (by omega) (by omega) _ (by show z.F 39 5 + 1 = nI (n + 1); rw [hF, nI_1]) (by exact inOK_add hlt hF hI (b2i_ne c_19))) (by decide) (Nat.zero_le _) (Nat.zero_le _) ?_
                      refine E_aload_n dX11_node_124 rfl ?_
                      refine E_iconst (v := 0) dX11_node_125 rfl ?_
                      refine E_V1 dX11_node_126 cv_X11_131 (by decide) (hg_39 _) rfl rfl (Nat.le_of_ble_eq_true rfl) (Nat.le_of_ble_eq_true rfl) (c_comes _ 0) (by decide) (Nat.zero_le _) (Nat.zero_le _) ?_
                      refine E_aload_n dX11_node_129 rfl ?_
                      refine E_getf 5 dX11_node_130 fl_X11_22 (by decide) (hg_39 _) rfl ?_
                      refine E_iconst (v := 1) dX11_node_133 rfl ?_
                      refine E_isub dX11_node_134 ?_
                      exact E_iret dX11_node_135 rfl rfl ⟨by rw [if_pos hok]; show some (Value.int ((zlk (n + 1) (zad (stF z 39 0 0) g k _)).F 39 5 - 1)) = _; rw [F_zlk]; show some (Value.int (z.F 39 5 + 1 - 1)) = _; rw [i32_ac], by rw [if_pos hok]; first | rw [if_pos (show hasV k from Or.inl c_45)]; rfl | rw [if_pos (show hasV k from Or.inr (Or.inl c_50))]; rfl | rw [if_pos (show hasV k from Or.inr (Or.inr c_56))]; rfl | rw [if_neg (show ¬ hasV k from fun h => h.elim c_45 (fun h => h.elim c_50 c_56))]; rfl⟩
                  · refine E_iload_n dX11_node_78 rfl ?_
                    refine E_bipush (v := 32) dX11_node_79 rfl ?_
                    refine E_icmp_eq 103 dX11_node_81 (by decide) (fun c_81 => ?_) (fun c_81 => ?_)
                    · have hlt : n < 60 := by
                        rcases Nat.lt_or_ge n 60 with h | h
                        · exact h
                        · exact absurd (by rw [hF, show n = 60 by omega]; rfl) c_11
                      have hok : nodeOK z g k v := ⟨c_11, b2i_ne c_19, c_28, b2i_ne c_38, by first | (rw [if_pos c_68]; first | exact Or.inl (b2i_ne c_75) | exact Or.inr c_81) | (rw [if_neg c_68]; first | exact fun _ => b2i_ne c_98 | exact fun h => absurd h (fun h => h.elim c_45 (fun h => h.elim c_50 c_56)))⟩
                      have hin : vp_in ((stF z 39 0 0).F 39 5) 60 := vp_in_iff.mpr ⟨by show 0 ≤ (z.F 39 5).toInt; omega, by show (z.F 39 5).toInt < _; omega⟩
                      refine E_aload_n dX11_node_103 rfl ?_
                      refine E_iload_n dX11_node_104 rfl ?_
                      refine E_iload_n dX11_node_105 rfl ?_
                      refine E_iload dX11_node_106 rfl ?_
                      refine E_if_eq 115 dX11_node_108 (by decide) (fun c_108 => ?_) (fun c_108 => ?_)
                      · exact absurd c_108 (by decide)
                      · refine E_iload_n dX11_node_111 rfl ?_
                        refine E_goto 116 dX11_node_112 (by decide) ?_
                        refine E_V3 dX11_node_116 cv_X11_127 (by decide) (hg_39 _) rfl rfl (Nat.le_of_ble_eq_true rfl) (Nat.le_of_ble_eq_true rfl) (c_adds (stF z 39 0 0) hin g k _) (by decide) (Nat.zero_le _) (Nat.zero_le _) ?_
                        refine E_pop dX11_node_119 rfl ?_
                        refine E_aload_n dX11_node_120 rfl ?_
                        refine E_V0 dX11_node_121 cv_X11_95 (by decide) (hg_39 _) rfl rfl (Nat.le_of_ble_eq_true rfl) (Nat.le_of_ble_eq_true rfl) (c_looks (n := n + 1) (by omega) (by omega) _ (by show z.F 39 5 + 1 = nI (n + 1); rw [hF, nI_1]) (by exact inOK_add hlt hF hI (b2i_ne c_19))) (by decide) (Nat.zero_le _) (Nat.zero_le _) ?_
                        refine E_aload_n dX11_node_124 rfl ?_
                        refine E_iconst (v := 0) dX11_node_125 rfl ?_
                        refine E_V1 dX11_node_126 cv_X11_131 (by decide) (hg_39 _) rfl rfl (Nat.le_of_ble_eq_true rfl) (Nat.le_of_ble_eq_true rfl) (c_comes _ 0) (by decide) (Nat.zero_le _) (Nat.zero_le _) ?_
                        refine E_aload_n dX11_node_129 rfl ?_
                        refine E_getf 5 dX11_node_130 fl_X11_22 (by decide) (hg_39 _) rfl ?_
                        refine E_iconst (v := 1) dX11_node_133 rfl ?_
                        refine E_isub dX11_node_134 ?_
                        exact E_iret dX11_node_135 rfl rfl ⟨by rw [if_pos hok]; show some (Value.int ((zlk (n + 1) (zad (stF z 39 0 0) g k _)).F 39 5 - 1)) = _; rw [F_zlk]; show some (Value.int (z.F 39 5 + 1 - 1)) = _; rw [i32_ac], by rw [if_pos hok]; first | rw [if_pos (show hasV k from Or.inl c_45)]; rfl | rw [if_pos (show hasV k from Or.inr (Or.inl c_50))]; rfl | rw [if_pos (show hasV k from Or.inr (Or.inr c_56))]; rfl | rw [if_neg (show ¬ hasV k from fun h => h.elim c_45 (fun h => h.elim c_50 c_56))]; rfl⟩
                    · refine E_goto 101 dX11_node_84 (by decide) ?_
                      refine E_iconst (v := (-1)) dX11_node_101 rfl ?_
                      exact E_iret dX11_node_102 rfl rfl (by first | exact hno True (fun h => by have h9 := h.2.2.2.2; rw [if_pos c_68] at h9; exact h9.elim (b2i_e0 c_75) c_81) | exact hno True (fun h => by have h9 := h.2.2.2.2; rw [if_neg c_68] at h9; exact b2i_e0 c_98 (h9 (by first | exact Or.inl c_45 | exact Or.inr (Or.inl c_50) | exact Or.inr (Or.inr c_56)))))
        · refine E_iconst (v := (-1)) dX11_node_41 rfl ?_
          exact E_iret dX11_node_42 rfl rfl (by first | exact hno True (fun h => h.1 c_11) | exact hno True (fun h => b2i_e0 c_19 h.2.1) | exact hno True (fun h => c_28 h.2.2.1) | exact hno True (fun h => b2i_e0 c_38 h.2.2.2.1))
