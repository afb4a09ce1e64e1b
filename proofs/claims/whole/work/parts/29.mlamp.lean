/-! THE MODEL'S LAMP, its numbers; set on both sides -/
theorem c_set (z : Sg) (w v : Int32) : EM mDesk_set 2 0 0 [.ref 3, .int w, .int v] (hp z) (Det (some (.int (b2i (setOK w v)))) (hp (if setOK w v then stA z 5 (upd (z.A 5) w.toNatClampNeg v) else z))) := by
  refine E_aload_n dX10_set_0 rfl ?_
  refine E_getf 0 dX10_set_1 fl_X10_10 (by decide) (hg_3 _) rfl ?_
  refine E_iload_n dX10_set_4 rfl ?_
  refine E_iload_n dX10_set_5 rfl ?_
  refine E_V2 dX10_set_6 cv_X10_108 (by decide) (hg_4 _) rfl rfl (Nat.le_of_ble_eq_true rfl) (Nat.le_of_ble_eq_true rfl) (c_change z w v) (by decide) (Nat.zero_le _) (Nat.zero_le _) ?_
  exact E_iret dX10_set_9 rfl b2i_nar ⟨rfl, rfl⟩
theorem dyn_get (z : Sg) (w : HP) (c : PCell) : (hp (stD z (w ++ [c])))[64 + w.length]? = some c := by
  rw [hp_dyn, D_stD, List.getElem?_append_right (Nat.le_refl _), Nat.sub_self]
  rfl
theorem dyn_get1 (z : Sg) (w : HP) (c c' : PCell) : (hp (stD z (w ++ [c] ++ [c'])))[64 + w.length]? = some c := by
  rw [hp_dyn, D_stD, List.getElem?_append_left (by simp), List.getElem?_append_right (Nat.le_refl _), Nat.sub_self]
  rfl
theorem hp_set_dyn (z : Sg) (i : Nat) (c : PCell) : (hp z).set (64 + i) c = hp (stD z (z.D.set i c)) := by
  unfold hp
  rw [List.set_append_right _ _ (Nat.le_add_right 64 i)]
  exact congrArg (fun w => _ ++ w) (congrArg (fun j => z.D.set j c) (Nat.add_sub_cancel_left 64 i))
theorem stD_stD (z : Sg) (a b : HP) : stD (stD z a) b = stD z b := rfl
theorem dyn_set (z : Sg) (w : HP) (c c' : PCell) : (hp (stD z (w ++ [c]))).set (64 + w.length) c' = hp (stD z (w ++ [c'])) := by
  rw [hp_set_dyn, D_stD, List.set_append_right _ _ (Nat.le_refl _), Nat.sub_self]
  rfl
def lowU : Nat → Int32 := upd (upd (upd (upd (upd (fun _ => 0) 0 1) 1 1) 2 0) 3 0) 4 0
def highU : Nat → Int32 := upd (upd (upd (upd (upd (fun _ => 0) 0 50) 1 9) 2 20) 3 20) 4 50
theorem lowU_eq {j : Nat} (h : j < 5) : lowU j = lowF j := by
  match j, h with
  | 0, _ => rfl
  | 1, _ => rfl
  | 2, _ => rfl
  | 3, _ => rfl
  | 4, _ => rfl
theorem highU_eq {j : Nat} (h : j < 5) : highU j = highF j := by
  match j, h with
  | 0, _ => rfl
  | 1, _ => rfl
  | 2, _ => rfl
  | 3, _ => rfl
  | 4, _ => rfl
def gset (z : Sg) : Sg := stD (stF z 39 0 0) (z.D ++ [.inl (0, 5, .inl lowU)] ++ [.inl (0, 5, .inl highU)])
theorem c_Mod_set (z : Sg) (w v : Int32) : EM mMod_set 1 2 10 [.ref 39, .int w, .int v] (hp z) (Det (some (.int (b2i (setOK w v)))) (hp (if setOK w v then stA (gset z) 43 (upd (z.A 43) w.toNatClampNeg v) else gset z))) := by
  refine E_aload_n dX11_set_0 rfl ?_
  refine E_iconst (v := 0) dX11_set_1 rfl ?_
  refine E_put 0 dX11_set_2 fp_X11_98 (fitsV_int _) (by decide) (hg_39 _) (Nat.le_of_ble_eq_true rfl) ?_
  rw [hs_39_0]
  refine E_iconst (v := 5) dX11_set_5 rfl ?_
  refine E_newa (kk := 0) (nn := 5) (a0 := (5, .inl fun _ => 0)) dX11_set_6 a_int rfl (by decide) (fun cA => rfl) (fun a => rfl) (by decide) rfl (by decide) (by decide) (by decide) ?_
  rw [hp_push, hp_len, D_stF]
  refine E_dup dX11_set_8 rfl ?_
  refine E_iconst (v := 0) dX11_set_9 rfl ?_
  refine E_iconst (v := 1) dX11_set_10 rfl ?_
  refine E_iast (f := fun _ => 0) dX11_set_11 (by omega) (dyn_get _ _ _) (vp_in_nI (n := 0) (by decide) (by decide)) ?_
  rw [dyn_set]
  refine E_dup dX11_set_12 rfl ?_
  refine E_iconst (v := 1) dX11_set_13 rfl ?_
  refine E_iconst (v := 1) dX11_set_14 rfl ?_
  refine E_iast (f := upd (fun _ => 0) 0 1) dX11_set_15 (by omega) (dyn_get _ _ _) (vp_in_nI (n := 1) (by decide) (by decide)) ?_
  rw [dyn_set]
  refine E_dup dX11_set_16 rfl ?_
  refine E_iconst (v := 2) dX11_set_17 rfl ?_
  refine E_iconst (v := 0) dX11_set_18 rfl ?_
  refine E_iast (f := upd (upd (fun _ => 0) 0 1) 1 1) dX11_set_19 (by omega) (dyn_get _ _ _) (vp_in_nI (n := 2) (by decide) (by decide)) ?_
  rw [dyn_set]
  refine E_dup dX11_set_20 rfl ?_
  refine E_iconst (v := 3) dX11_set_21 rfl ?_
  refine E_iconst (v := 0) dX11_set_22 rfl ?_
  refine E_iast (f := upd (upd (upd (fun _ => 0) 0 1) 1 1) 2 0) dX11_set_23 (by omega) (dyn_get _ _ _) (vp_in_nI (n := 3) (by decide) (by decide)) ?_
  rw [dyn_set]
  refine E_dup dX11_set_24 rfl ?_
  refine E_iconst (v := 4) dX11_set_25 rfl ?_
  refine E_iconst (v := 0) dX11_set_26 rfl ?_
  refine E_iast (f := upd (upd (upd (upd (fun _ => 0) 0 1) 1 1) 2 0) 3 0) dX11_set_27 (by omega) (dyn_get _ _ _) (vp_in_nI (n := 4) (by decide) (by decide)) ?_
  rw [dyn_set]
  refine E_astore_n dX11_set_28 (by decide) rfl ?_
  refine E_iconst (v := 5) dX11_set_29 rfl ?_
  refine E_newa (kk := 0) (nn := 5) (a0 := (5, .inl fun _ => 0)) dX11_set_30 a_int rfl (by decide) (fun cA => rfl) (fun a => rfl) (by decide) rfl (by decide) (by decide) (by decide) ?_
  rw [hp_push, hp_len, D_stD, stD_stD]
  refine E_dup dX11_set_32 rfl ?_
  refine E_iconst (v := 0) dX11_set_33 rfl ?_
  refine E_bipush (v := 50) dX11_set_34 rfl ?_
  refine E_iast (f := fun _ => 0) dX11_set_36 (by omega) (dyn_get _ _ _) (vp_in_nI (n := 0) (by decide) (by decide)) ?_
  rw [dyn_set]
  refine E_dup dX11_set_37 rfl ?_
  refine E_iconst (v := 1) dX11_set_38 rfl ?_
  refine E_bipush (v := 9) dX11_set_39 rfl ?_
  refine E_iast (f := upd (fun _ => 0) 0 50) dX11_set_41 (by omega) (dyn_get _ _ _) (vp_in_nI (n := 1) (by decide) (by decide)) ?_
  rw [dyn_set]
  refine E_dup dX11_set_42 rfl ?_
  refine E_iconst (v := 2) dX11_set_43 rfl ?_
  refine E_bipush (v := 20) dX11_set_44 rfl ?_
  refine E_iast (f := upd (upd (fun _ => 0) 0 50) 1 9) dX11_set_46 (by omega) (dyn_get _ _ _) (vp_in_nI (n := 2) (by decide) (by decide)) ?_
  rw [dyn_set]
  refine E_dup dX11_set_47 rfl ?_
  refine E_iconst (v := 3) dX11_set_48 rfl ?_
  refine E_bipush (v := 20) dX11_set_49 rfl ?_
  refine E_iast (f := upd (upd (upd (fun _ => 0) 0 50) 1 9) 2 20) dX11_set_51 (by omega) (dyn_get _ _ _) (vp_in_nI (n := 3) (by decide) (by decide)) ?_
  rw [dyn_set]
  refine E_dup dX11_set_52 rfl ?_
  refine E_iconst (v := 4) dX11_set_53 rfl ?_
  refine E_bipush (v := 50) dX11_set_54 rfl ?_
  refine E_iast (f := upd (upd (upd (upd (fun _ => 0) 0 50) 1 9) 2 20) 3 20) dX11_set_56 (by omega) (dyn_get _ _ _) (vp_in_nI (n := 4) (by decide) (by decide)) ?_
  rw [dyn_set]
  refine E_astore dX11_set_57 (by decide) rfl ?_
  refine E_iload_n dX11_set_59 rfl ?_
  refine E_iconst (v := 0) dX11_set_60 rfl ?_
  refine E_iconst (v := 4) dX11_set_61 rfl ?_
  refine E_S3 dX11_set_62 cs_X11_120 (Nat.le_of_ble_eq_true rfl) (Nat.le_of_ble_eq_true rfl) (c_isIn _ w 0 4) (by decide) (Nat.zero_le _) (Nat.zero_le _) ?_
  refine E_if_eq 82 dX11_set_65 (by decide) (fun c_65 => ?_) (fun c_65 => ?_)
  · refine E_iconst (v := 0) dX11_set_82 rfl ?_
    exact E_iret dX11_set_83 rfl rfl (by first | exact det_f (fun h => b2i_e0 c_65 h.1) | exact det_f (fun h => b2i_e0 c_79 h.2))
  · have hw : vp_in w 5 := vp_in_iff.mpr ⟨(b2i_ne c_65).1, by have := (b2i_ne c_65).2; simp only [Int32.reduceToInt] at this; omega⟩
    have hwl : w.toNatClampNeg < 5 := Nat.not_le.mp fun q => hw (Or.inr q)
    refine E_iload_n dX11_set_68 rfl ?_
    refine E_aload_n dX11_set_69 rfl ?_
    refine E_iload_n dX11_set_70 rfl ?_
    refine E_iald (f := lowU) dX11_set_71 (by omega) (dyn_get1 _ _ _ _) hw ?_
    rw [lowU_eq hwl]
    refine E_aload dX11_set_72 rfl ?_
    refine E_iload_n dX11_set_74 rfl ?_
    refine E_iald (f := highU) dX11_set_75 (by omega) (dyn_get _ _ _) hw ?_
    rw [highU_eq hwl]
    refine E_S3 dX11_set_76 cs_X11_120 (Nat.le_of_ble_eq_true rfl) (Nat.le_of_ble_eq_true rfl) (c_isIn _ v _ _) (by decide) (Nat.zero_le _) (Nat.zero_le _) ?_
    refine E_if_ne 84 dX11_set_79 (by decide) (fun c_79 => ?_) (fun c_79 => ?_)
    · refine E_aload_n dX11_set_84 rfl ?_
      refine E_getf 4 dX11_set_85 fl_X11_19 (by decide) (hg_39 _) rfl ?_
      refine E_iload_n dX11_set_88 rfl ?_
      refine E_iload_n dX11_set_89 rfl ?_
      refine E_iast (f := z.A 43) dX11_set_90 (by decide) (hg_43 _) (hw) ?_
      rw [hs_43]
      refine E_iconst (v := 1) dX11_set_91 rfl ?_
      exact E_iret dX11_set_92 rfl rfl (det_t ⟨b2i_ne c_65, b2i_ne c_79⟩)
    · refine E_iconst (v := 0) dX11_set_82 rfl ?_
      exact E_iret dX11_set_83 rfl rfl (by first | exact det_f (fun h => b2i_e0 c_65 h.1) | exact det_f (fun h => b2i_e0 c_79 h.2))
def lgt (z : Sg) (g k : Int32) : Int32 := if z.A 46 g.toNatClampNeg ≤ k then (-1) else z.A 45 (60 * g + k).toNatClampNeg
theorem c_light (z : Sg) (g k : Int32) (hg : vp_in g 60) (hk : ¬ z.A 46 g.toNatClampNeg ≤ k → vp_in (60 * g + k) 3600) : EM mMod_light 0 0 0 [.ref 39, .int g, .int k] (hp z) (Det (some (.int (lgt z g k))) (hp z)) := by
  refine E_iload_n dX11_light_0 rfl ?_
  refine E_aload_n dX11_light_1 rfl ?_
  refine E_getf 8 dX11_light_2 fl_X11_33 (by decide) (hg_39 _) rfl ?_
  refine E_iload_n dX11_light_5 rfl ?_
  refine E_iald dX11_light_6 (by decide) (hg_46 _) (hg) ?_
  refine E_icmp_ge 24 dX11_light_7 (by decide) (fun c_7 => ?_) (fun c_7 => ?_)
  · refine E_iconst (v := (-1)) dX11_light_24 rfl ?_
    exact E_iret dX11_light_25 rfl rfl ⟨by first | exact sv_if c_7 | exact sv_el c_7, rfl⟩
  · refine E_aload_n dX11_light_10 rfl ?_
    refine E_getf 7 dX11_light_11 fl_X11_30 (by decide) (hg_39 _) rfl ?_
    refine E_bipush (v := 60) dX11_light_14 rfl ?_
    refine E_iload_n dX11_light_16 rfl ?_
    refine E_imul dX11_light_17 ?_
    refine E_iload_n dX11_light_18 rfl ?_
    refine E_iadd dX11_light_19 ?_
    refine E_iald dX11_light_20 (by decide) (hg_45 _) (hk c_7) ?_
    refine E_goto 25 dX11_light_21 (by decide) ?_
    exact E_iret dX11_light_25 rfl rfl ⟨by first | exact sv_if c_7 | exact sv_el c_7, rfl⟩
/-- what bounds the model's lamp -/
def mlOK (z : Sg) : Prop := (∃ a, a < 60 ∧ z.F 39 11 = nI a) ∧ (∃ k, k < 60 ∧ z.F 39 12 = nI k) ∧ ∀ g, g < 60 → ∃ c, c < 60 ∧ z.A 46 g = nI c
theorem mlOK_in {z : Sg} (h : mlOK z) : vp_in (z.F 39 11) 60 := by
  obtain ⟨⟨a, h1, h2⟩, -⟩ := h
  rw [h2]
  exact vp_in_nI h1 (by omega)
theorem mlOK_row {z : Sg} (h : mlOK z) : vp_in (60 * z.F 39 11 + z.F 39 12) 3600 := by
  obtain ⟨⟨a, h1, h2⟩, ⟨k, h3, h4⟩, -⟩ := h
  rw [h2, h4, show (60 : Int32) = nI 60 from rfl, pk_mul, nI_add]
  exact vp_in_nI (by omega) (by omega)
def litM (z : Sg) : Int32 := lgt z (z.F 39 11) (z.F 39 12)
abbrev tkI (z : Sg) : Prop := z.A 46 (z.F 39 11).toNatClampNeg = 0 ∨ z.F 39 10 + 1 - z.F 39 14 < z.A 43 0
def tk1 (z : Sg) : Sg := stF (stF (stF (stF z 39 10 (z.F 39 10 + 1)) 39 13 (litM z)) 39 14 (z.F 39 10 + 1)) 39 12 (z.F 39 12 + 1)
abbrev rdM (z : Sg) : Prop := ¬ z.F 39 11 = 0 ∧ ¬ z.F 39 15 + 1 < z.A 43 1
def tk2 (z : Sg) : Sg := stF (stF (tk1 z) 39 12 0) 39 15 (z.F 39 15 + 1)
def tk (z : Sg) : Sg := if tkI z then stF z 39 10 (z.F 39 10 + 1) else if z.F 39 12 + 1 < z.A 46 (z.F 39 11).toNatClampNeg then tk1 z else if rdM z then zcm (tk2 z) 0 else tk2 z
theorem c_ticks (z : Sg) (hm : mlOK z) : EM mMod_ticks 1 0 0 [.ref 39] (hp z) (Det none (hp (tk z))) := by
  refine E_aload_n dX11_ticks_0 rfl ?_
  refine E_dup dX11_ticks_1 rfl ?_
  refine E_getf 10 dX11_ticks_2 fl_X11_107 (by decide) (hg_39 _) rfl ?_
  refine E_iconst (v := 1) dX11_ticks_5 rfl ?_
  refine E_iadd dX11_ticks_6 ?_
  refine E_put 10 dX11_ticks_7 fp_X11_107 (fitsV_int _) (by decide) (hg_39 _) (Nat.le_of_ble_eq_true rfl) ?_
  rw [hs_39_10]
  refine E_aload_n dX11_ticks_10 rfl ?_
  refine E_aload_n dX11_ticks_11 rfl ?_
  refine E_getf 11 (v := .int (z.F 39 11)) dX11_ticks_12 fl_X11_101 (by decide) (hg_39 _) rfl ?_
  refine E_V1 (r := some (.int (z.A 46 (z.F 39 11).toNatClampNeg))) dX11_ticks_15 cv_X11_139 (by decide) (hg_39 _) rfl rfl (Nat.le_of_ble_eq_true rfl) (Nat.le_of_ble_eq_true rfl) (c_Mod_lights _ _ (mlOK_in hm)) (by decide) (Nat.zero_le _) (Nat.zero_le _) ?_
  refine E_istore_n dX11_ticks_18 (by decide) rfl ?_
  refine E_iload_n dX11_ticks_19 rfl ?_
  refine E_if_eq 41 dX11_ticks_20 (by decide) (fun c_20 => ?_) (fun c_20 => ?_)
  · exact E_vret dX11_ticks_41 rfl ⟨rfl, by first | rw [tk, if_pos (show tkI z from Or.inl c_20)] | rw [tk, if_pos (show tkI z from Or.inr (by rw [i32_lt]; rw [i32_le] at c_38; exact Int.not_le.mp c_38))]⟩
  · refine E_aload_n dX11_ticks_23 rfl ?_
    refine E_getf 10 (v := .int (z.F 39 10 + 1)) dX11_ticks_24 fl_X11_107 (by decide) (hg_39 _) rfl ?_
    refine E_aload_n dX11_ticks_27 rfl ?_
    refine E_getf 14 (v := .int (z.F 39 14)) dX11_ticks_28 fl_X11_110 (by decide) (hg_39 _) rfl ?_
    refine E_isub dX11_ticks_31 ?_
    refine E_aload_n dX11_ticks_32 rfl ?_
    refine E_getf 4 dX11_ticks_33 fl_X11_19 (by decide) (hg_39 _) rfl ?_
    refine E_iconst (v := 0) dX11_ticks_36 rfl ?_
    refine E_iald (f := z.A 43) dX11_ticks_37 (by decide) (hg_43 _) (vp_in_nI (n := 0) (by decide) (by decide)) ?_
    refine E_icmp_ge 42 dX11_ticks_38 (by decide) (fun c_38 => ?_) (fun c_38 => ?_)
    · have hno : ¬ tkI z := fun h => h.elim c_20 (fun h => by rw [i32_lt] at h; rw [i32_le] at c_38; exact absurd c_38 (Int.not_le.mpr h))
      refine E_aload_n dX11_ticks_42 rfl ?_
      refine E_aload_n dX11_ticks_43 rfl ?_
      refine E_aload_n dX11_ticks_44 rfl ?_
      refine E_getf 11 (v := .int (z.F 39 11)) dX11_ticks_45 fl_X11_101 (by decide) (hg_39 _) rfl ?_
      refine E_aload_n dX11_ticks_48 rfl ?_
      refine E_getf 12 (v := .int (z.F 39 12)) dX11_ticks_49 fl_X11_104 (by decide) (hg_39 _) rfl ?_
      refine E_V2 (r := some (.int (litM z))) dX11_ticks_52 cv_X11_146 (by decide) (hg_39 _) rfl rfl (Nat.le_of_ble_eq_true rfl) (Nat.le_of_ble_eq_true rfl) (c_light _ _ _ (mlOK_in hm) (fun _ => mlOK_row hm)) (by decide) (Nat.zero_le _) (Nat.zero_le _) ?_
      refine E_put 13 dX11_ticks_55 fp_X11_39 (fitsV_int _) (by decide) (hg_39 _) (Nat.le_of_ble_eq_true rfl) ?_
      rw [hs_39_13]
      refine E_aload_n dX11_ticks_58 rfl ?_
      refine E_aload_n dX11_ticks_59 rfl ?_
      refine E_getf 10 (v := .int (z.F 39 10 + 1)) dX11_ticks_60 fl_X11_107 (by decide) (hg_39 _) rfl ?_
      refine E_put 14 dX11_ticks_63 fp_X11_110 (fitsV_int _) (by decide) (hg_39 _) (Nat.le_of_ble_eq_true rfl) ?_
      rw [hs_39_14]
      refine E_aload_n dX11_ticks_66 rfl ?_
      refine E_dup dX11_ticks_67 rfl ?_
      refine E_getf 12 (v := .int (z.F 39 12)) dX11_ticks_68 fl_X11_104 (by decide) (hg_39 _) rfl ?_
      refine E_iconst (v := 1) dX11_ticks_71 rfl ?_
      refine E_iadd dX11_ticks_72 ?_
      refine E_put 12 dX11_ticks_73 fp_X11_104 (fitsV_int _) (by decide) (hg_39 _) (Nat.le_of_ble_eq_true rfl) ?_
      rw [hs_39_12]
      refine E_aload_n dX11_ticks_76 rfl ?_
      refine E_getf 12 (v := .int (z.F 39 12 + 1)) dX11_ticks_77 fl_X11_104 (by decide) (hg_39 _) rfl ?_
      refine E_iload_n dX11_ticks_80 rfl ?_
      refine E_icmp_ge 85 dX11_ticks_81 (by decide) (fun c_81 => ?_) (fun c_81 => ?_)
      · have hno2 : ¬ z.F 39 12 + 1 < z.A 46 (z.F 39 11).toNatClampNeg := by rw [i32_lt]; rw [i32_le] at c_81; exact Int.not_lt.mpr c_81
        refine E_aload_n dX11_ticks_85 rfl ?_
        refine E_iconst (v := 0) dX11_ticks_86 rfl ?_
        refine E_put 12 dX11_ticks_87 fp_X11_104 (fitsV_int _) (by decide) (hg_39 _) (Nat.le_of_ble_eq_true rfl) ?_
        rw [hs_39_12]
        refine E_aload_n dX11_ticks_90 rfl ?_
        refine E_dup dX11_ticks_91 rfl ?_
        refine E_getf 15 (v := .int (z.F 39 15)) dX11_ticks_92 fl_X11_113 (by decide) (hg_39 _) rfl ?_
        refine E_iconst (v := 1) dX11_ticks_95 rfl ?_
        refine E_iadd dX11_ticks_96 ?_
        refine E_put 15 dX11_ticks_97 fp_X11_113 (fitsV_int _) (by decide) (hg_39 _) (Nat.le_of_ble_eq_true rfl) ?_
        rw [hs_39_15]
        refine E_aload_n dX11_ticks_100 rfl ?_
        refine E_getf 11 (v := .int (z.F 39 11)) dX11_ticks_101 fl_X11_101 (by decide) (hg_39 _) rfl ?_
        refine E_if_eq 125 dX11_ticks_104 (by decide) (fun c_104 => ?_) (fun c_104 => ?_)
        · exact E_vret dX11_ticks_125 rfl ⟨rfl, by first | rw [tk, if_neg hno, if_neg hno2, if_neg (show ¬ rdM z from fun h => h.1 c_104)]; rfl | rw [tk, if_neg hno, if_neg hno2, if_neg (show ¬ rdM z from fun h => h.2 c_117)]; rfl | rw [tk, if_neg hno, if_neg hno2, if_pos (show rdM z from ⟨c_104, c_117⟩)]⟩
        · refine E_aload_n dX11_ticks_107 rfl ?_
          refine E_getf 15 (v := .int (z.F 39 15 + 1)) dX11_ticks_108 fl_X11_113 (by decide) (hg_39 _) rfl ?_
          refine E_aload_n dX11_ticks_111 rfl ?_
          refine E_getf 4 dX11_ticks_112 fl_X11_19 (by decide) (hg_39 _) rfl ?_
          refine E_iconst (v := 1) dX11_ticks_115 rfl ?_
          refine E_iald (f := z.A 43) dX11_ticks_116 (by decide) (hg_43 _) (vp_in_nI (n := 1) (by decide) (by decide)) ?_
          refine E_icmp_lt 125 dX11_ticks_117 (by decide) (fun c_117 => ?_) (fun c_117 => ?_)
          · exact E_vret dX11_ticks_125 rfl ⟨rfl, by first | rw [tk, if_neg hno, if_neg hno2, if_neg (show ¬ rdM z from fun h => h.1 c_104)]; rfl | rw [tk, if_neg hno, if_neg hno2, if_neg (show ¬ rdM z from fun h => h.2 c_117)]; rfl | rw [tk, if_neg hno, if_neg hno2, if_pos (show rdM z from ⟨c_104, c_117⟩)]⟩
          · refine E_aload_n dX11_ticks_120 rfl ?_
            refine E_iconst (v := 0) dX11_ticks_121 rfl ?_
            refine E_V1 dX11_ticks_122 cv_X11_131 (by decide) (hg_39 _) rfl rfl (Nat.le_of_ble_eq_true rfl) (Nat.le_of_ble_eq_true rfl) (c_comes (tk2 z) 0) (by decide) (Nat.zero_le _) (Nat.zero_le _) ?_
            exact E_vret dX11_ticks_125 rfl ⟨rfl, by first | rw [tk, if_neg hno, if_neg hno2, if_neg (show ¬ rdM z from fun h => h.1 c_104)]; rfl | rw [tk, if_neg hno, if_neg hno2, if_neg (show ¬ rdM z from fun h => h.2 c_117)]; rfl | rw [tk, if_neg hno, if_neg hno2, if_pos (show rdM z from ⟨c_104, c_117⟩)]⟩
      · exact E_vret dX11_ticks_84 rfl ⟨rfl, by rw [tk, if_neg hno, if_pos (show z.F 39 12 + 1 < z.A 46 (z.F 39 11).toNatClampNeg by rw [i32_lt]; rw [i32_le] at c_81; exact Int.not_le.mp c_81)]; rfl⟩
    · exact E_vret dX11_ticks_41 rfl ⟨rfl, by first | rw [tk, if_pos (show tkI z from Or.inl c_20)] | rw [tk, if_pos (show tkI z from Or.inr (by rw [i32_lt]; rw [i32_le] at c_38; exact Int.not_le.mp c_38))]⟩
