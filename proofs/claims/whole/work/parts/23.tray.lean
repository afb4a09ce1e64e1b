/-! THE TRAY: add, join, standBehind, findLighted, findLights, areNeighbours -/
theorem i32_ac (a b : Int32) : a + b - b = a := by
  apply Int32.toBitVec_inj.mp
  simp
abbrev addOK (z : Sg) (g k v : Int32) : Prop := (z.F 6 10).toInt < 60 ∧ tg z 7 g (-1) = 0 ∧ takesP k v
def zadd (z : Sg) (g k v : Int32) : Sg :=
  stF (stA (stA (stA z 7 (upd (z.A 7) (z.F 6 10).toNatClampNeg k)) 8 (upd (z.A 8) (z.F 6 10).toNatClampNeg (if hasV k then v else -1))) 9 (upd (z.A 9) (z.F 6 10).toNatClampNeg g)) 6 10 (z.F 6 10 + 1)
theorem c_add (z : Sg) (h0 : 0 ≤ (z.F 6 10).toInt) (hs : (z.F 6 10).toInt ≤ 60) (g k v : Int32) : EM mTray_add 2 0 0 [.ref 6, .int g, .int k, .int v] (hp z) (Det (some (.int (if addOK z g k v then z.F 6 10 else (-1)))) (hp (if addOK z g k v then zadd z g k v else z))) := by
  refine E_aload_n dX9_add_0 rfl ?_
  refine E_getf 10 dX9_add_1 fl_X9_49 (by decide) (hg_6 _) rfl ?_
  refine E_bipush (v := 60) dX9_add_4 rfl ?_
  refine E_icmp_ge 25 dX9_add_6 (by decide) (fun c_6 => ?_) (fun c_6 => ?_)
  · refine E_iconst (v := (-1)) dX9_add_25 rfl ?_
    exact E_iret dX9_add_26 rfl rfl (by first | exact ⟨sv_el (fun h => by have := h.1; rw [i32_le] at c_6; simp only [Int32.reduceToInt] at c_6; omega), by rw [if_neg (fun h : addOK z g k v => by have := h.1; rw [i32_le] at c_6; simp only [Int32.reduceToInt] at c_6; omega)]⟩ | exact ⟨sv_el (fun h => c_14 h.2.1), by rw [if_neg (fun h : addOK z g k v => c_14 h.2.1)]⟩ | exact ⟨sv_el (fun h => b2i_e0 c_22 h.2.2), by rw [if_neg (fun h : addOK z g k v => b2i_e0 c_22 h.2.2)]⟩)
  · refine E_aload_n dX9_add_9 rfl ?_
    refine E_iload_n dX9_add_10 rfl ?_
    refine E_V1 dX9_add_11 cv_X9_53 (by decide) (hg_6 _) rfl rfl (Nat.le_of_ble_eq_true rfl) (Nat.le_of_ble_eq_true rfl) (c_kindOf z hs g) (by decide) (Nat.zero_le _) (Nat.zero_le _) ?_
    refine E_if_ne 25 dX9_add_14 (by decide) (fun c_14 => ?_) (fun c_14 => ?_)
    · refine E_iconst (v := (-1)) dX9_add_25 rfl ?_
      exact E_iret dX9_add_26 rfl rfl (by first | exact ⟨sv_el (fun h => by have := h.1; rw [i32_le] at c_6; simp only [Int32.reduceToInt] at c_6; omega), by rw [if_neg (fun h : addOK z g k v => by have := h.1; rw [i32_le] at c_6; simp only [Int32.reduceToInt] at c_6; omega)]⟩ | exact ⟨sv_el (fun h => c_14 h.2.1), by rw [if_neg (fun h : addOK z g k v => c_14 h.2.1)]⟩ | exact ⟨sv_el (fun h => b2i_e0 c_22 h.2.2), by rw [if_neg (fun h : addOK z g k v => b2i_e0 c_22 h.2.2)]⟩)
    · refine E_iload_n dX9_add_17 rfl ?_
      refine E_iload_n dX9_add_18 rfl ?_
      refine E_S2 dX9_add_19 cs_X9_57 (Nat.le_of_ble_eq_true rfl) (Nat.le_of_ble_eq_true rfl) (c_takes (hp z) k v) (by decide) (Nat.zero_le _) (Nat.zero_le _) ?_
      refine E_if_ne 27 dX9_add_22 (by decide) (fun c_22 => ?_) (fun c_22 => ?_)
      · have hlt : (z.F 6 10).toInt < 60 := by rw [i32_le] at c_6; simp only [Int32.reduceToInt] at c_6; omega
        have hin : vp_in (z.F 6 10) 60 := vp_in_iff.mpr ⟨h0, by omega⟩
        have hok : addOK z g k v := ⟨hlt, c_14, b2i_ne c_22⟩
        refine E_aload_n dX9_add_27 rfl ?_
        refine E_getf 0 dX9_add_28 fl_X9_11 (by decide) (hg_6 _) rfl ?_
        refine E_aload_n dX9_add_31 rfl ?_
        refine E_getf 10 dX9_add_32 fl_X9_49 (by decide) (hg_6 _) rfl ?_
        refine E_iload_n dX9_add_35 rfl ?_
        refine E_iast dX9_add_36 (by decide) (hg_7 _) (hin) ?_
        rw [hs_7]
        refine E_aload_n dX9_add_37 rfl ?_
        refine E_getf 1 dX9_add_38 fl_X9_15 (by decide) (hg_6 _) rfl ?_
        refine E_aload_n dX9_add_41 rfl ?_
        refine E_getf 10 (v := .int (z.F 6 10)) dX9_add_42 fl_X9_49 (by decide) (hg_6 _) rfl ?_
        refine E_iload_n dX9_add_45 rfl ?_
        refine E_S1 dX9_add_46 cs_X9_61 (Nat.le_of_ble_eq_true rfl) (Nat.le_of_ble_eq_true rfl) (c_hasValue _ k) (by decide) (Nat.zero_le _) (Nat.zero_le _) ?_
        refine E_if_eq 56 dX9_add_49 (by decide) (fun c_49 => ?_) (fun c_49 => ?_)
        · refine E_iconst (v := (-1)) dX9_add_56 rfl ?_
          refine E_iast (f := z.A 8) dX9_add_57 (by decide) (hg_8 _) (hin) ?_
          rw [hs_8]
          refine E_aload_n dX9_add_58 rfl ?_
          refine E_getf 2 dX9_add_59 fl_X9_18 (by decide) (hg_6 _) rfl ?_
          refine E_aload_n dX9_add_62 rfl ?_
          refine E_getf 10 (v := .int (z.F 6 10)) dX9_add_63 fl_X9_49 (by decide) (hg_6 _) rfl ?_
          refine E_iload_n dX9_add_66 rfl ?_
          refine E_iast (f := z.A 9) dX9_add_67 (by decide) (hg_9 _) (hin) ?_
          rw [hs_9]
          refine E_aload_n dX9_add_68 rfl ?_
          refine E_dup dX9_add_69 rfl ?_
          refine E_getf 10 (v := .int (z.F 6 10)) dX9_add_70 fl_X9_49 (by decide) (hg_6 _) rfl ?_
          refine E_iconst (v := 1) dX9_add_73 rfl ?_
          refine E_iadd dX9_add_74 ?_
          refine E_put 10 dX9_add_75 fp_X9_49 (fitsV_int _) (by decide) (hg_6 _) (Nat.le_of_ble_eq_true rfl) ?_
          rw [hs_6_10]
          refine E_aload_n dX9_add_78 rfl ?_
          refine E_getf 10 (v := .int (z.F 6 10 + 1)) dX9_add_79 fl_X9_49 (by decide) (hg_6 _) rfl ?_
          refine E_iconst (v := 1) dX9_add_82 rfl ?_
          refine E_isub dX9_add_83 ?_
          exact E_iret dX9_add_84 rfl rfl (by first | exact ⟨by rw [if_pos hok, i32_ac], by rw [if_pos hok, zadd, if_pos (b2i_ne c_49)]⟩ | exact ⟨by rw [if_pos hok, i32_ac], by rw [if_pos hok, zadd, if_neg (b2i_e0 c_49)]⟩)
        · refine E_iload_n dX9_add_52 rfl ?_
          refine E_goto 57 dX9_add_53 (by decide) ?_
          refine E_iast (f := z.A 8) dX9_add_57 (by decide) (hg_8 _) (hin) ?_
          rw [hs_8]
          refine E_aload_n dX9_add_58 rfl ?_
          refine E_getf 2 dX9_add_59 fl_X9_18 (by decide) (hg_6 _) rfl ?_
          refine E_aload_n dX9_add_62 rfl ?_
          refine E_getf 10 (v := .int (z.F 6 10)) dX9_add_63 fl_X9_49 (by decide) (hg_6 _) rfl ?_
          refine E_iload_n dX9_add_66 rfl ?_
          refine E_iast (f := z.A 9) dX9_add_67 (by decide) (hg_9 _) (hin) ?_
          rw [hs_9]
          refine E_aload_n dX9_add_68 rfl ?_
          refine E_dup dX9_add_69 rfl ?_
          refine E_getf 10 (v := .int (z.F 6 10)) dX9_add_70 fl_X9_49 (by decide) (hg_6 _) rfl ?_
          refine E_iconst (v := 1) dX9_add_73 rfl ?_
          refine E_iadd dX9_add_74 ?_
          refine E_put 10 dX9_add_75 fp_X9_49 (fitsV_int _) (by decide) (hg_6 _) (Nat.le_of_ble_eq_true rfl) ?_
          rw [hs_6_10]
          refine E_aload_n dX9_add_78 rfl ?_
          refine E_getf 10 (v := .int (z.F 6 10 + 1)) dX9_add_79 fl_X9_49 (by decide) (hg_6 _) rfl ?_
          refine E_iconst (v := 1) dX9_add_82 rfl ?_
          refine E_isub dX9_add_83 ?_
          exact E_iret dX9_add_84 rfl rfl (by first | exact ⟨by rw [if_pos hok, i32_ac], by rw [if_pos hok, zadd, if_pos (b2i_ne c_49)]⟩ | exact ⟨by rw [if_pos hok, i32_ac], by rw [if_pos hok, zadd, if_neg (b2i_e0 c_49)]⟩)
      · refine E_iconst (v := (-1)) dX9_add_25 rfl ?_
        exact E_iret dX9_add_26 rfl rfl (by first | exact ⟨sv_el (fun h => by have := h.1; rw [i32_le] at c_6; simp only [Int32.reduceToInt] at c_6; omega), by rw [if_neg (fun h : addOK z g k v => by have := h.1; rw [i32_le] at c_6; simp only [Int32.reduceToInt] at c_6; omega)]⟩ | exact ⟨sv_el (fun h => c_14 h.2.1), by rw [if_neg (fun h : addOK z g k v => c_14 h.2.1)]⟩ | exact ⟨sv_el (fun h => b2i_e0 c_22 h.2.2), by rw [if_neg (fun h : addOK z g k v => b2i_e0 c_22 h.2.2)]⟩)
abbrev jnOK (z : Sg) (o t : Int32) : Prop := z.A 7 o.toNatClampNeg = 1 ∧ z.A 7 t.toNatClampNeg = 1 ∧ isL (z.A 8 o.toNatClampNeg) ∧ isL (z.A 8 t.toNatClampNeg)
def jnF (f : Nat → Int32) (a b : Int32) : Nat → Int32 := upd f a.toNatClampNeg (f a.toNatClampNeg ||| (1 <<< (b &&& 31)))
def jn (z : Sg) (o t : Int32) : Sg := if jnOK z o t then
    stA (stA z 16 (jnF (z.A 16) (z.A 8 o.toNatClampNeg - 97) (z.A 8 t.toNatClampNeg - 97))) 16 (jnF (jnF (z.A 16) (z.A 8 o.toNatClampNeg - 97) (z.A 8 t.toNatClampNeg - 97)) (z.A 8 t.toNatClampNeg - 97) (z.A 8 o.toNatClampNeg - 97))
  else z
theorem c_join (z : Sg) (o t : Int32) (ho : vp_in o 60) (ht : vp_in t 60) : EM mTray_join 1 0 0 [.ref 6, .int o, .int t] (hp z) (Det none (hp (jn z o t))) := by
  refine E_aload_n dX9_join_0 rfl ?_
  refine E_getf 0 dX9_join_1 fl_X9_11 (by decide) (hg_6 _) rfl ?_
  refine E_iload_n dX9_join_4 rfl ?_
  refine E_iald dX9_join_5 (by decide) (hg_7 _) (ho) ?_
  refine E_iconst (v := 1) dX9_join_6 rfl ?_
  refine E_icmp_ne 91 dX9_join_7 (by decide) (fun c_7 => ?_) (fun c_7 => ?_)
  · exact E_vret dX9_join_91 rfl (by first | exact ⟨rfl, by rw [jn, if_neg (fun h => c_7 h.1)]⟩ | exact ⟨rfl, by rw [jn, if_neg (fun h => c_17 h.2.1)]⟩ | exact ⟨rfl, by rw [jn, if_neg (fun h => b2i_e0 c_29 h.2.2.1)]⟩ | exact ⟨rfl, by rw [jn, if_neg (fun h => b2i_e0 c_41 h.2.2.2)]⟩ | exact ⟨rfl, by rw [jn, if_pos ⟨c_7, c_17, b2i_ne c_29, b2i_ne c_41⟩]; rfl⟩)
  · refine E_aload_n dX9_join_10 rfl ?_
    refine E_getf 0 dX9_join_11 fl_X9_11 (by decide) (hg_6 _) rfl ?_
    refine E_iload_n dX9_join_14 rfl ?_
    refine E_iald dX9_join_15 (by decide) (hg_7 _) (ht) ?_
    refine E_iconst (v := 1) dX9_join_16 rfl ?_
    refine E_icmp_ne 91 dX9_join_17 (by decide) (fun c_17 => ?_) (fun c_17 => ?_)
    · exact E_vret dX9_join_91 rfl (by first | exact ⟨rfl, by rw [jn, if_neg (fun h => c_7 h.1)]⟩ | exact ⟨rfl, by rw [jn, if_neg (fun h => c_17 h.2.1)]⟩ | exact ⟨rfl, by rw [jn, if_neg (fun h => b2i_e0 c_29 h.2.2.1)]⟩ | exact ⟨rfl, by rw [jn, if_neg (fun h => b2i_e0 c_41 h.2.2.2)]⟩ | exact ⟨rfl, by rw [jn, if_pos ⟨c_7, c_17, b2i_ne c_29, b2i_ne c_41⟩]; rfl⟩)
    · refine E_aload_n dX9_join_20 rfl ?_
      refine E_getf 1 dX9_join_21 fl_X9_15 (by decide) (hg_6 _) rfl ?_
      refine E_iload_n dX9_join_24 rfl ?_
      refine E_iald dX9_join_25 (by decide) (hg_8 _) (ho) ?_
      refine E_S1 dX9_join_26 cs_X9_65 (Nat.le_of_ble_eq_true rfl) (Nat.le_of_ble_eq_true rfl) (c_isLetter _ _) (by decide) (Nat.zero_le _) (Nat.zero_le _) ?_
      refine E_if_eq 91 dX9_join_29 (by decide) (fun c_29 => ?_) (fun c_29 => ?_)
      · exact E_vret dX9_join_91 rfl (by first | exact ⟨rfl, by rw [jn, if_neg (fun h => c_7 h.1)]⟩ | exact ⟨rfl, by rw [jn, if_neg (fun h => c_17 h.2.1)]⟩ | exact ⟨rfl, by rw [jn, if_neg (fun h => b2i_e0 c_29 h.2.2.1)]⟩ | exact ⟨rfl, by rw [jn, if_neg (fun h => b2i_e0 c_41 h.2.2.2)]⟩ | exact ⟨rfl, by rw [jn, if_pos ⟨c_7, c_17, b2i_ne c_29, b2i_ne c_41⟩]; rfl⟩)
      · refine E_aload_n dX9_join_32 rfl ?_
        refine E_getf 1 dX9_join_33 fl_X9_15 (by decide) (hg_6 _) rfl ?_
        refine E_iload_n dX9_join_36 rfl ?_
        refine E_iald dX9_join_37 (by decide) (hg_8 _) (ht) ?_
        refine E_S1 dX9_join_38 cs_X9_65 (Nat.le_of_ble_eq_true rfl) (Nat.le_of_ble_eq_true rfl) (c_isLetter _ _) (by decide) (Nat.zero_le _) (Nat.zero_le _) ?_
        refine E_if_eq 91 dX9_join_41 (by decide) (fun c_41 => ?_) (fun c_41 => ?_)
        · exact E_vret dX9_join_91 rfl (by first | exact ⟨rfl, by rw [jn, if_neg (fun h => c_7 h.1)]⟩ | exact ⟨rfl, by rw [jn, if_neg (fun h => c_17 h.2.1)]⟩ | exact ⟨rfl, by rw [jn, if_neg (fun h => b2i_e0 c_29 h.2.2.1)]⟩ | exact ⟨rfl, by rw [jn, if_neg (fun h => b2i_e0 c_41 h.2.2.2)]⟩ | exact ⟨rfl, by rw [jn, if_pos ⟨c_7, c_17, b2i_ne c_29, b2i_ne c_41⟩]; rfl⟩)
        · refine E_aload_n dX9_join_44 rfl ?_
          refine E_getf 1 dX9_join_45 fl_X9_15 (by decide) (hg_6 _) rfl ?_
          refine E_iload_n dX9_join_48 rfl ?_
          refine E_iald dX9_join_49 (by decide) (hg_8 _) (ho) ?_
          refine E_bipush (v := 97) dX9_join_50 rfl ?_
          refine E_isub dX9_join_52 ?_
          refine E_istore_n dX9_join_53 (by decide) rfl ?_
          refine E_aload_n dX9_join_54 rfl ?_
          refine E_getf 1 dX9_join_55 fl_X9_15 (by decide) (hg_6 _) rfl ?_
          refine E_iload_n dX9_join_58 rfl ?_
          refine E_iald dX9_join_59 (by decide) (hg_8 _) (ht) ?_
          refine E_bipush (v := 97) dX9_join_60 rfl ?_
          refine E_isub dX9_join_62 ?_
          refine E_istore dX9_join_63 (by decide) rfl ?_
          refine E_aload_n dX9_join_65 rfl ?_
          refine E_getf 9 dX9_join_66 fl_X9_40 (by decide) (hg_6 _) rfl ?_
          refine E_iload_n dX9_join_69 rfl ?_
          refine E_dup2 dX9_join_70 rfl rfl ?_
          refine E_iald dX9_join_71 (by decide) (hg_16 _) (letter_in (b2i_ne c_29)) ?_
          refine E_iconst (v := 1) dX9_join_72 rfl ?_
          refine E_iload dX9_join_73 rfl ?_
          refine E_ishl dX9_join_75 ?_
          refine E_ior dX9_join_76 ?_
          refine E_iast dX9_join_77 (by decide) (hg_16 _) (letter_in (b2i_ne c_29)) ?_
          rw [hs_16]
          refine E_aload_n dX9_join_78 rfl ?_
          refine E_getf 9 dX9_join_79 fl_X9_40 (by decide) (hg_6 _) rfl ?_
          refine E_iload dX9_join_82 rfl ?_
          refine E_dup2 dX9_join_84 rfl rfl ?_
          refine E_iald dX9_join_85 (by decide) (hg_16 _) (letter_in (b2i_ne c_41)) ?_
          refine E_iconst (v := 1) dX9_join_86 rfl ?_
          refine E_iload_n dX9_join_87 rfl ?_
          refine E_ishl dX9_join_88 ?_
          refine E_ior dX9_join_89 ?_
          refine E_iast dX9_join_90 (by decide) (hg_16 _) (letter_in (b2i_ne c_41)) ?_
          rw [hs_16]
          exact E_vret dX9_join_91 rfl (by first | exact ⟨rfl, by rw [jn, if_neg (fun h => c_7 h.1)]⟩ | exact ⟨rfl, by rw [jn, if_neg (fun h => c_17 h.2.1)]⟩ | exact ⟨rfl, by rw [jn, if_neg (fun h => b2i_e0 c_29 h.2.2.1)]⟩ | exact ⟨rfl, by rw [jn, if_neg (fun h => b2i_e0 c_41 h.2.2.2)]⟩ | exact ⟨rfl, by rw [jn, if_pos ⟨c_7, c_17, b2i_ne c_29, b2i_ne c_41⟩]; rfl⟩)
