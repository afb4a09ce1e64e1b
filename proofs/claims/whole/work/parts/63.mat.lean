/-! THE MODEL: letter, at -/
section Mat
variable {n t s : Nat} {z : Sg}
abbrev ltP (z : Sg) (w i : Int32) : Prop := inB w 0 (z.F 39 32 - 1) ∧ 0 ≤ i ∧ i < z.A 56 w.toNatClampNeg
def ltZ (z : Sg) (w i : Int32) : Sg := stF z 39 0 (if ltP z w i then 0 else 1)
def ltR (z : Sg) (w i : Int32) : Int32 := if ltP z w i then z.A 55 (12 * w + i).toNatClampNeg else 0
theorem lt_in (hd : mdOK z n) {w : Int32} (h : inB w 0 (z.F 39 32 - 1)) : ∃ W, W < n ∧ w = nI W := by
  obtain ⟨h1, h2⟩ := h
  have hn := hd.2.1
  rw [hd.1] at h2
  rcases Nat.eq_zero_or_pos n with h0 | h0
  · rw [h0] at h2
    have h3 : (nI 0 - 1 : Int32).toInt = -1 := by decide
    rw [h3] at h2
    simp only [Int32.reduceToInt] at h1
    omega
  · rw [show nI n - 1 = nI (n - 1) from pk_sub (b := 1) h0, nI_toInt (by omega)] at h2
    refine ⟨w.toInt.toNat, by omega, ?_⟩
    rw [i32_eq, nI_toInt (by simp only [Int32.reduceToInt] at h1; omega)]
    simp only [Int32.reduceToInt] at h1
    omega
theorem c_Mod_letter (hd : mdOK z n) (w i : Int32) : EM mMod_letter 1 0 0 [.ref 39, .int w, .int i] (hp z) (Det (some (.int (ltR z w i))) (hp (ltZ z w i))) := by
  have hn := hd.2.1
  have yes : ltP z w i → E mMod_letter 1 0 0 33 [(0, .ref 39), (1, .int w), (2, .int i)] [.ref 39] (hp z) (Det (some (.int (ltR z w i))) (hp (ltZ z w i))) := by
    intro h
    obtain ⟨W, hW, hw⟩ := lt_in hd h.1
    obtain ⟨L, hL1, hL2, hL⟩ := hd.2.2 W hW
    have h2 := h.2.1
    have h3 := h.2.2
    rw [hw, nI_clamp (by omega), hL, i32_lt, nI_toInt (by omega)] at h3
    rw [i32_le] at h2
    simp only [Int32.reduceToInt] at h2
    have hi : i = nI i.toInt.toNat := by rw [i32_eq, nI_toInt (by omega)]; omega
    have he : (12 : Int32) * w + i = nI (12 * W + i.toInt.toNat) := by rw [hw, show (12 : Int32) = nI 12 from rfl, pk_mul]; conv => lhs; rw [hi]; rw [nI_add]
    rw [ltR, ltZ, if_pos h, if_pos h]
    refine E_iconst (v := 0) dX11_letter_33 rfl ?_
    refine E_put 0 dX11_letter_34 fp_X11_98 (fitsV_int _) (by decide) (hg_39 _) (Nat.le_of_ble_eq_true rfl) ?_
    rw [hs_39_0]
    refine E_aload_n dX11_letter_37 rfl ?_
    refine E_getf 0 dX11_letter_38 fl_X11_98 (by decide) (hg_39 _) rfl ?_
    refine E_if_le 48 dX11_letter_41 (by decide) (fun c_41 => ?_) (fun c_41 => ?_)
    · refine E_aload_n dX11_letter_48 rfl ?_
      refine E_getf 28 dX11_letter_49 fl_X11_70 (by decide) (hg_39 _) rfl ?_
      refine E_bipush (v := 12) dX11_letter_52 rfl ?_
      refine E_iload_n dX11_letter_54 rfl ?_
      refine E_imul dX11_letter_55 ?_
      refine E_iload_n dX11_letter_56 rfl ?_
      refine E_iadd dX11_letter_57 ?_
      refine E_bald (f := z.A 55) dX11_letter_58 (by decide) (hg_55 _) (by rw [he]; exact vp_in_nI (by omega) (by omega)) ?_
      exact E_iret dX11_letter_59 rfl rfl ⟨rfl, rfl⟩
    · exact absurd (show (0 : Int32) ≤ 0 by decide) c_41
  have no : ¬ ltP z w i → E mMod_letter 1 0 0 29 [(0, .ref 39), (1, .int w), (2, .int i)] [.ref 39] (hp z) (Det (some (.int (ltR z w i))) (hp (ltZ z w i))) := by
    intro h
    rw [ltR, ltZ, if_neg h, if_neg h]
    refine E_iconst (v := 1) dX11_letter_29 rfl ?_
    refine E_goto 34 dX11_letter_30 (by decide) ?_
    refine E_put 0 dX11_letter_34 fp_X11_98 (fitsV_int _) (by decide) (hg_39 _) (Nat.le_of_ble_eq_true rfl) ?_
    rw [hs_39_0]
    refine E_aload_n dX11_letter_37 rfl ?_
    refine E_getf 0 dX11_letter_38 fl_X11_98 (by decide) (hg_39 _) rfl ?_
    refine E_if_le 48 dX11_letter_41 (by decide) (fun c_41 => ?_) (fun c_41 => ?_)
    · exact absurd c_41 (show ¬ (1 : Int32) ≤ 0 by decide)
    · refine E_iconst (v := 0) dX11_letter_44 rfl ?_
      refine E_goto 59 dX11_letter_45 (by decide) ?_
      exact E_iret dX11_letter_59 rfl rfl ⟨rfl, rfl⟩
  refine E_aload_n dX11_letter_0 rfl ?_
  refine E_iload_n dX11_letter_1 rfl ?_
  refine E_iconst (v := 0) dX11_letter_2 rfl ?_
  refine E_aload_n dX11_letter_3 rfl ?_
  refine E_getf 32 dX11_letter_4 fl_X11_191 (by decide) (hg_39 _) rfl ?_
  refine E_iconst (v := 1) dX11_letter_7 rfl ?_
  refine E_isub dX11_letter_8 ?_
  refine E_S3 dX11_letter_9 cs_X11_120 (Nat.le_of_ble_eq_true rfl) (Nat.le_of_ble_eq_true rfl) (c_isIn _ w 0 _) (by decide) (Nat.zero_le _) (Nat.zero_le _) ?_
  refine E_if_eq 29 dX11_letter_12 (by decide) (fun c_12 => ?_) (fun c_12 => ?_)
  · first | exact no (fun h => b2i_e0 c_12 h.1) | exact no (fun h => by have h2 := h.2.1; rw [i32_le] at h2; rw [i32_lt] at c_16; omega) | exact no (fun h => c_26 h.2.2)
  · refine E_iload_n dX11_letter_15 rfl ?_
    refine E_if_lt 29 dX11_letter_16 (by decide) (fun c_16 => ?_) (fun c_16 => ?_)
    · first | exact no (fun h => b2i_e0 c_12 h.1) | exact no (fun h => by have h2 := h.2.1; rw [i32_le] at h2; rw [i32_lt] at c_16; omega) | exact no (fun h => c_26 h.2.2)
    · refine E_iload_n dX11_letter_19 rfl ?_
      refine E_aload_n dX11_letter_20 rfl ?_
      refine E_getf 29 dX11_letter_21 fl_X11_73 (by decide) (hg_39 _) rfl ?_
      refine E_iload_n dX11_letter_24 rfl ?_
      refine E_iald dX11_letter_25 (by decide) (hg_56 _) (by obtain ⟨W, hW, hw⟩ := lt_in hd (b2i_ne c_12); rw [hw]; exact vp_in_nI (by omega) (by omega)) ?_
      refine E_icmp_lt 33 dX11_letter_26 (by decide) (fun c_26 => ?_) (fun c_26 => ?_)
      · exact yes ⟨b2i_ne c_12, by rw [i32_le]; rw [i32_lt] at c_16; omega, c_26⟩
      · first | exact no (fun h => b2i_e0 c_12 h.1) | exact no (fun h => by have h2 := h.2.1; rw [i32_le] at h2; rw [i32_lt] at c_16; omega) | exact no (fun h => c_26 h.2.2)
abbrev atP (z : Sg) (w i : Int32) : Prop := inB w 0 1 ∧ 0 ≤ i ∧ i < (if w = 0 then z.F 39 24 else z.F 39 25)
def atZ (z : Sg) (w i : Int32) : Sg := stF z 39 0 (if atP z w i then 0 else 1)
def atR (z : Sg) (w i : Int32) : Int32 := if atP z w i then (if w = 0 then z.A 48 i.toNatClampNeg else z.A 49 i.toNatClampNeg) else 0
theorem vp_in_i {i : Int32} {k : Nat} (h1 : (0 : Int32).toInt ≤ i.toInt) (h2 : i.toInt < (k : Int)) (hk : k < 2 ^ 31) : vp_in i k := by
  simp only [Int32.reduceToInt] at h1
  have hi : i = nI i.toInt.toNat := by rw [i32_eq, nI_toInt (by omega)]; omega
  rw [hi]
  exact vp_in_nI (by omega) (by omega)
theorem c_Mod_at (hx : (z.F 39 24).toInt ≤ 200) (hs : (z.F 39 25).toInt ≤ 200) (w i : Int32) : EM mMod_at 1 0 0 [.ref 39, .int w, .int i] (hp z) (Det (some (.int (atR z w i))) (hp (atZ z w i))) := by
  have yes : atP z w i → E mMod_at 1 0 0 37 [(0, .ref 39), (1, .int w), (2, .int i)] [.ref 39] (hp z) (Det (some (.int (atR z w i))) (hp (atZ z w i))) := by
    intro h
    have h2 := h.2.1
    have h3 := h.2.2
    rw [i32_le] at h2
    rw [i32_lt] at h3
    have h4 : i.toInt < 200 := by
      split at h3 <;> omega
    rw [atR, atZ, if_pos h, if_pos h]
    refine E_iconst (v := 0) dX11_at_37 rfl ?_
    refine E_put 0 dX11_at_38 fp_X11_98 (fitsV_int _) (by decide) (hg_39 _) (Nat.le_of_ble_eq_true rfl) ?_
    rw [hs_39_0]
    refine E_aload_n dX11_at_41 rfl ?_
    refine E_getf 0 dX11_at_42 fl_X11_98 (by decide) (hg_39 _) rfl ?_
    refine E_if_le 52 dX11_at_45 (by decide) (fun c_45 => ?_) (fun c_45 => ?_)
    · refine E_iload_n dX11_at_52 rfl ?_
      refine E_if_ne 65 dX11_at_53 (by decide) (fun c_53 => ?_) (fun c_53 => ?_)
      · refine E_aload_n dX11_at_65 rfl ?_
        refine E_getf 19 dX11_at_66 fl_X11_49 (by decide) (hg_39 _) rfl ?_
        refine E_iload_n dX11_at_69 rfl ?_
        refine E_bald (f := z.A 49) dX11_at_70 (by decide) (hg_49 _) (vp_in_i h2 h4 (by decide)) ?_
        exact E_iret dX11_at_71 rfl rfl (by first | exact ⟨by rw [if_pos c_53], rfl⟩ | exact ⟨by rw [if_neg c_53], rfl⟩)
      · refine E_aload_n dX11_at_56 rfl ?_
        refine E_getf 18 dX11_at_57 fl_X11_45 (by decide) (hg_39 _) rfl ?_
        refine E_iload_n dX11_at_60 rfl ?_
        refine E_bald (f := z.A 48) dX11_at_61 (by decide) (hg_48 _) (vp_in_i h2 h4 (by decide)) ?_
        refine E_goto 71 dX11_at_62 (by decide) ?_
        exact E_iret dX11_at_71 rfl rfl (by first | exact ⟨by rw [if_pos c_53], rfl⟩ | exact ⟨by rw [if_neg c_53], rfl⟩)
    · exact absurd (show (0 : Int32) ≤ 0 by decide) c_45
  have no : ¬ atP z w i → E mMod_at 1 0 0 33 [(0, .ref 39), (1, .int w), (2, .int i)] [.ref 39] (hp z) (Det (some (.int (atR z w i))) (hp (atZ z w i))) := by
    intro h
    rw [atR, atZ, if_neg h, if_neg h]
    refine E_iconst (v := 1) dX11_at_33 rfl ?_
    refine E_goto 38 dX11_at_34 (by decide) ?_
    refine E_put 0 dX11_at_38 fp_X11_98 (fitsV_int _) (by decide) (hg_39 _) (Nat.le_of_ble_eq_true rfl) ?_
    rw [hs_39_0]
    refine E_aload_n dX11_at_41 rfl ?_
    refine E_getf 0 dX11_at_42 fl_X11_98 (by decide) (hg_39 _) rfl ?_
    refine E_if_le 52 dX11_at_45 (by decide) (fun c_45 => ?_) (fun c_45 => ?_)
    · exact absurd c_45 (show ¬ (1 : Int32) ≤ 0 by decide)
    · refine E_iconst (v := 0) dX11_at_48 rfl ?_
      refine E_goto 71 dX11_at_49 (by decide) ?_
      exact E_iret dX11_at_71 rfl rfl ⟨rfl, rfl⟩
  refine E_aload_n dX11_at_0 rfl ?_
  refine E_iload_n dX11_at_1 rfl ?_
  refine E_iconst (v := 0) dX11_at_2 rfl ?_
  refine E_iconst (v := 1) dX11_at_3 rfl ?_
  refine E_S3 dX11_at_4 cs_X11_120 (Nat.le_of_ble_eq_true rfl) (Nat.le_of_ble_eq_true rfl) (c_isIn _ w 0 1) (by decide) (Nat.zero_le _) (Nat.zero_le _) ?_
  refine E_if_eq 33 dX11_at_7 (by decide) (fun c_7 => ?_) (fun c_7 => ?_)
  · first | exact no (fun h => b2i_e0 c_7 h.1) | exact no (fun h => by have h2 := h.2.1; rw [i32_le] at h2; rw [i32_lt] at c_11; omega) | exact no (fun h => c_30 (by have h3 := h.2.2; rw [if_pos c_16] at h3; exact h3)) | exact no (fun h => c_30 (by have h3 := h.2.2; rw [if_neg c_16] at h3; exact h3))
  · refine E_iload_n dX11_at_10 rfl ?_
    refine E_if_lt 33 dX11_at_11 (by decide) (fun c_11 => ?_) (fun c_11 => ?_)
    · first | exact no (fun h => b2i_e0 c_7 h.1) | exact no (fun h => by have h2 := h.2.1; rw [i32_le] at h2; rw [i32_lt] at c_11; omega) | exact no (fun h => c_30 (by have h3 := h.2.2; rw [if_pos c_16] at h3; exact h3)) | exact no (fun h => c_30 (by have h3 := h.2.2; rw [if_neg c_16] at h3; exact h3))
    · refine E_iload_n dX11_at_14 rfl ?_
      refine E_iload_n dX11_at_15 rfl ?_
      refine E_if_ne 26 dX11_at_16 (by decide) (fun c_16 => ?_) (fun c_16 => ?_)
      · refine E_aload_n dX11_at_26 rfl ?_
        refine E_getf 25 dX11_at_27 fl_X11_64 (by decide) (hg_39 _) rfl ?_
        refine E_icmp_lt 37 dX11_at_30 (by decide) (fun c_30 => ?_) (fun c_30 => ?_)
        · first | exact yes ⟨b2i_ne c_7, by rw [i32_le]; rw [i32_lt] at c_11; omega, by rw [if_pos c_16]; exact c_30⟩ | exact yes ⟨b2i_ne c_7, by rw [i32_le]; rw [i32_lt] at c_11; omega, by rw [if_neg c_16]; exact c_30⟩
        · first | exact no (fun h => b2i_e0 c_7 h.1) | exact no (fun h => by have h2 := h.2.1; rw [i32_le] at h2; rw [i32_lt] at c_11; omega) | exact no (fun h => c_30 (by have h3 := h.2.2; rw [if_pos c_16] at h3; exact h3)) | exact no (fun h => c_30 (by have h3 := h.2.2; rw [if_neg c_16] at h3; exact h3))
      · refine E_aload_n dX11_at_19 rfl ?_
        refine E_getf 24 dX11_at_20 fl_X11_159 (by decide) (hg_39 _) rfl ?_
        refine E_goto 30 dX11_at_23 (by decide) ?_
        refine E_icmp_lt 37 dX11_at_30 (by decide) (fun c_30 => ?_) (fun c_30 => ?_)
        · first | exact yes ⟨b2i_ne c_7, by rw [i32_le]; rw [i32_lt] at c_11; omega, by rw [if_pos c_16]; exact c_30⟩ | exact yes ⟨b2i_ne c_7, by rw [i32_le]; rw [i32_lt] at c_11; omega, by rw [if_neg c_16]; exact c_30⟩
        · first | exact no (fun h => b2i_e0 c_7 h.1) | exact no (fun h => by have h2 := h.2.1; rw [i32_le] at h2; rw [i32_lt] at c_11; omega) | exact no (fun h => c_30 (by have h3 := h.2.2; rw [if_pos c_16] at h3; exact h3)) | exact no (fun h => c_30 (by have h3 := h.2.2; rw [if_neg c_16] at h3; exact h3))
end Mat
