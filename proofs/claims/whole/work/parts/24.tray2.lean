/-! THE TRAY, on -/
def sb1 (z : Sg) (nd g : Int32) : Sg :=
  stA (stA (stA z 11 (upd (z.A 11) g.toNatClampNeg (z.A 11 g.toNatClampNeg + 1))) 10 (upd (z.A 10) nd.toNatClampNeg (upd (z.A 11) g.toNatClampNeg (z.A 11 g.toNatClampNeg + 1) g.toNatClampNeg))) 13 (upd (z.A 13) g.toNatClampNeg nd)
def sb (z : Sg) (nd g : Int32) : Sg :=
  if ltN (z.A 13 g.toNatClampNeg) (z.F 6 10) then jn (stA (sb1 z nd g) 14 (upd (z.A 14) (z.A 13 g.toNatClampNeg).toNatClampNeg nd)) (z.A 13 g.toNatClampNeg) nd
  else stA (sb1 z nd g) 12 (upd (z.A 12) g.toNatClampNeg nd)
theorem c_standBehind (z : Sg) (hs : (z.F 6 10).toInt ≤ 60) (nd g : Int32) (hn : vp_in nd 60) (hg : vp_in g 60) : EM mTray_standBehind 2 0 0 [.ref 6, .int nd, .int g] (hp z) (Det none (hp (sb z nd g))) := by
  refine E_aload_n dX9_standBehind_0 rfl ?_
  refine E_getf 6 dX9_standBehind_1 fl_X9_30 (by decide) (hg_6 _) rfl ?_
  refine E_iload_n dX9_standBehind_4 rfl ?_
  refine E_iald dX9_standBehind_5 (by decide) (hg_13 _) (hg) ?_
  refine E_istore_n dX9_standBehind_6 (by decide) rfl ?_
  refine E_aload_n dX9_standBehind_7 rfl ?_
  refine E_getf 4 dX9_standBehind_8 fl_X9_24 (by decide) (hg_6 _) rfl ?_
  refine E_iload_n dX9_standBehind_11 rfl ?_
  refine E_dup2 dX9_standBehind_12 rfl rfl ?_
  refine E_iald dX9_standBehind_13 (by decide) (hg_11 _) (hg) ?_
  refine E_iconst (v := 1) dX9_standBehind_14 rfl ?_
  refine E_iadd dX9_standBehind_15 ?_
  refine E_iast dX9_standBehind_16 (by decide) (hg_11 _) (hg) ?_
  rw [hs_11]
  refine E_aload_n dX9_standBehind_17 rfl ?_
  refine E_getf 3 dX9_standBehind_18 fl_X9_21 (by decide) (hg_6 _) rfl ?_
  refine E_iload_n dX9_standBehind_21 rfl ?_
  refine E_aload_n dX9_standBehind_22 rfl ?_
  refine E_getf 4 dX9_standBehind_23 fl_X9_24 (by decide) (hg_6 _) rfl ?_
  refine E_iload_n dX9_standBehind_26 rfl ?_
  refine E_iald (f := upd (z.A 11) g.toNatClampNeg (z.A 11 g.toNatClampNeg + 1)) dX9_standBehind_27 (by decide) (hg_11 _) (hg) ?_
  refine E_iast (f := z.A 10) dX9_standBehind_28 (by decide) (hg_10 _) (hn) ?_
  rw [hs_10]
  refine E_aload_n dX9_standBehind_29 rfl ?_
  refine E_getf 6 dX9_standBehind_30 fl_X9_30 (by decide) (hg_6 _) rfl ?_
  refine E_iload_n dX9_standBehind_33 rfl ?_
  refine E_iload_n dX9_standBehind_34 rfl ?_
  refine E_iast (f := z.A 13) dX9_standBehind_35 (by decide) (hg_13 _) (hg) ?_
  rw [hs_13]
  refine E_aload_n dX9_standBehind_36 rfl ?_
  refine E_iload_n dX9_standBehind_37 rfl ?_
  refine E_V1 (r := some (.int (b2i (ltN (z.A 13 g.toNatClampNeg) (z.F 6 10))))) dX9_standBehind_38 cv_X9_81 (by decide) (hg_6 _) rfl rfl (Nat.le_of_ble_eq_true rfl) (Nat.le_of_ble_eq_true rfl) (c_has _ _) (by decide) (Nat.zero_le _) (Nat.zero_le _) ?_
  refine E_if_eq 60 dX9_standBehind_41 (by decide) (fun c_41 => ?_) (fun c_41 => ?_)
  · refine E_aload_n dX9_standBehind_60 rfl ?_
    refine E_getf 5 dX9_standBehind_61 fl_X9_27 (by decide) (hg_6 _) rfl ?_
    refine E_iload_n dX9_standBehind_64 rfl ?_
    refine E_iload_n dX9_standBehind_65 rfl ?_
    refine E_iast (f := z.A 12) dX9_standBehind_66 (by decide) (hg_12 _) (hg) ?_
    rw [hs_12]
    exact E_vret dX9_standBehind_67 rfl (by first | exact ⟨rfl, by rw [sb, if_pos (b2i_ne c_41)]; rfl⟩ | exact ⟨rfl, by rw [sb, if_neg (b2i_e0 c_41)]; rfl⟩)
  · refine E_aload_n dX9_standBehind_44 rfl ?_
    refine E_getf 7 dX9_standBehind_45 fl_X9_33 (by decide) (hg_6 _) rfl ?_
    refine E_iload_n dX9_standBehind_48 rfl ?_
    refine E_iload_n dX9_standBehind_49 rfl ?_
    refine E_iast (f := z.A 14) dX9_standBehind_50 (by decide) (hg_14 _) (tg_in (b2i_ne c_41) hs) ?_
    rw [hs_14]
    refine E_aload_n dX9_standBehind_51 rfl ?_
    refine E_iload_n dX9_standBehind_52 rfl ?_
    refine E_iload_n dX9_standBehind_53 rfl ?_
    refine E_V2 dX9_standBehind_54 cv_X9_88 (by decide) (hg_6 _) rfl rfl (Nat.le_of_ble_eq_true rfl) (Nat.le_of_ble_eq_true rfl) (c_join _ _ _ (tg_in (b2i_ne c_41) hs) hn) (by decide) (Nat.zero_le _) (Nat.zero_le _) ?_
    refine E_goto 67 dX9_standBehind_57 (by decide) ?_
    exact E_vret dX9_standBehind_67 rfl (by first | exact ⟨rfl, by rw [sb, if_pos (b2i_ne c_41)]; rfl⟩ | exact ⟨rfl, by rw [sb, if_neg (b2i_e0 c_41)]; rfl⟩)
theorem c_areNeighbours (z : Sg) (x v : Int32) : EM mTray_areNeighbours 1 0 0 [.ref 6, .int x, .int v] (hp z) (Det (some (.int (b2i (isL x ∧ isL v ∧ ((z.A 16 (x - 97).toNatClampNeg >>> ((v - 97) &&& 31)) &&& 1) = 1)))) (hp z)) := by
  refine E_iload_n dX9_areNeighbours_0 rfl ?_
  refine E_S1 dX9_areNeighbours_1 cs_X9_65 (Nat.le_of_ble_eq_true rfl) (Nat.le_of_ble_eq_true rfl) (c_isLetter _ _) (by decide) (Nat.zero_le _) (Nat.zero_le _) ?_
  refine E_if_eq 38 dX9_areNeighbours_4 (by decide) (fun c_4 => ?_) (fun c_4 => ?_)
  · refine E_iconst (v := 0) dX9_areNeighbours_38 rfl ?_
    exact E_iret dX9_areNeighbours_39 rfl rfl (by first | exact ⟨si_f (fun h => b2i_e0 c_4 h.1), rfl⟩ | exact ⟨si_f (fun h => b2i_e0 c_11 h.2.1), rfl⟩ | exact ⟨si_f (fun h => c_31 h.2.2), rfl⟩ | exact ⟨si_t ⟨b2i_ne c_4, b2i_ne c_11, c_31⟩, rfl⟩)
  · refine E_iload_n dX9_areNeighbours_7 rfl ?_
    refine E_S1 dX9_areNeighbours_8 cs_X9_65 (Nat.le_of_ble_eq_true rfl) (Nat.le_of_ble_eq_true rfl) (c_isLetter _ _) (by decide) (Nat.zero_le _) (Nat.zero_le _) ?_
    refine E_if_eq 38 dX9_areNeighbours_11 (by decide) (fun c_11 => ?_) (fun c_11 => ?_)
    · refine E_iconst (v := 0) dX9_areNeighbours_38 rfl ?_
      exact E_iret dX9_areNeighbours_39 rfl rfl (by first | exact ⟨si_f (fun h => b2i_e0 c_4 h.1), rfl⟩ | exact ⟨si_f (fun h => b2i_e0 c_11 h.2.1), rfl⟩ | exact ⟨si_f (fun h => c_31 h.2.2), rfl⟩ | exact ⟨si_t ⟨b2i_ne c_4, b2i_ne c_11, c_31⟩, rfl⟩)
    · refine E_aload_n dX9_areNeighbours_14 rfl ?_
      refine E_getf 9 dX9_areNeighbours_15 fl_X9_40 (by decide) (hg_6 _) rfl ?_
      refine E_iload_n dX9_areNeighbours_18 rfl ?_
      refine E_bipush (v := 97) dX9_areNeighbours_19 rfl ?_
      refine E_isub dX9_areNeighbours_21 ?_
      refine E_iald dX9_areNeighbours_22 (by decide) (hg_16 _) (letter_in (b2i_ne c_4)) ?_
      refine E_iload_n dX9_areNeighbours_23 rfl ?_
      refine E_bipush (v := 97) dX9_areNeighbours_24 rfl ?_
      refine E_isub dX9_areNeighbours_26 ?_
      refine E_ishr dX9_areNeighbours_27 ?_
      refine E_iconst (v := 1) dX9_areNeighbours_28 rfl ?_
      refine E_iand dX9_areNeighbours_29 ?_
      refine E_iconst (v := 1) dX9_areNeighbours_30 rfl ?_
      refine E_icmp_ne 38 dX9_areNeighbours_31 (by decide) (fun c_31 => ?_) (fun c_31 => ?_)
      · refine E_iconst (v := 0) dX9_areNeighbours_38 rfl ?_
        exact E_iret dX9_areNeighbours_39 rfl rfl (by first | exact ⟨si_f (fun h => b2i_e0 c_4 h.1), rfl⟩ | exact ⟨si_f (fun h => b2i_e0 c_11 h.2.1), rfl⟩ | exact ⟨si_f (fun h => c_31 h.2.2), rfl⟩ | exact ⟨si_t ⟨b2i_ne c_4, b2i_ne c_11, c_31⟩, rfl⟩)
      · refine E_iconst (v := 1) dX9_areNeighbours_34 rfl ?_
        refine E_goto 39 dX9_areNeighbours_35 (by decide) ?_
        exact E_iret dX9_areNeighbours_39 rfl rfl (by first | exact ⟨si_f (fun h => b2i_e0 c_4 h.1), rfl⟩ | exact ⟨si_f (fun h => b2i_e0 c_11 h.2.1), rfl⟩ | exact ⟨si_f (fun h => c_31 h.2.2), rfl⟩ | exact ⟨si_t ⟨b2i_ne c_4, b2i_ne c_11, c_31⟩, rfl⟩)
