/-! THE PLAN: solve, build; lay -/
abbrev ptP (i j : Nat) : Prop := i < j ∧ j < 27
theorem isPt_nat {i j : Nat} (hi : i < 2 ^ 31) (hj : j < 2 ^ 31) : isPt (nI i) (nI j) ↔ ptP i j := by
  unfold isPt ptP
  rw [nI_toInt hi, nI_toInt hj]
  omega
def sumZ (z : Sg) (i j : Nat) : Int32 := if ptP i j then z.A 36 j - z.A 36 i else 0
def lstZ (z : Sg) (i j : Nat) : Int32 := if ptP i j then z.A 37 (27 * i + j) else 0
theorem c_sumOfN (z : Sg) {i j : Nat} (hi : i < 2 ^ 31) (hj : j < 2 ^ 31) : EM mPlan_sumOf 1 0 0 [.ref 35, .int (nI i), .int (nI j)] (hp z) (Det (some (.int (sumZ z i j))) (hp z)) := by
  have h9 := c_sumOf z (nI i) (nI j)
  rw [nI_clamp hi, nI_clamp hj] at h9
  unfold sumZ
  by_cases h : ptP i j
  · rw [if_pos h]
    rw [if_pos ((isPt_nat hi hj).mpr h)] at h9
    exact h9
  · rw [if_neg h]
    rw [if_neg (fun q => h ((isPt_nat hi hj).mp q))] at h9
    exact h9
theorem c_leastOf (z : Sg) {i j : Nat} (hi : i < 2 ^ 31) (hj : j < 2 ^ 31) : EM mPlan_leastOf 1 0 0 [.ref 35, .int (nI i), .int (nI j)] (hp z) (Det (some (.int (lstZ z i j))) (hp z)) := by
  have hb : b2i (isPt (nI i) (nI j)) = b2i (ptP i j) := by
    by_cases h : ptP i j
    · rw [b2i_t h, b2i_t ((isPt_nat hi hj).mpr h)]
    · rw [b2i_f h, b2i_f (fun q => h ((isPt_nat hi hj).mp q))]
  have he : nI i * 27 + nI j = nI (27 * i + j) := by rw [show (27 : Int32) = nI 27 from rfl, pk_mul, nI_add, Nat.mul_comm]
  refine E_iload_n dX5_leastOf_0 rfl ?_
  refine E_iload_n dX5_leastOf_1 rfl ?_
  refine E_S2 dX5_leastOf_2 cs_X5_65 (Nat.le_of_ble_eq_true rfl) (Nat.le_of_ble_eq_true rfl) (c_isPart (hp z) (nI i) (nI j)) (by decide) (Nat.zero_le _) (Nat.zero_le _) ?_
  rw [hb]
  refine E_if_eq 22 dX5_leastOf_5 (by decide) (fun c_5 => ?_) (fun c_5 => ?_)
  · refine E_iconst (v := 0) dX5_leastOf_22 rfl ?_
    exact E_iret dX5_leastOf_23 rfl rfl ⟨by first | exact sv_if (b2i_ne c_5) | exact sv_el (b2i_e0 c_5), rfl⟩
  · refine E_aload_n dX5_leastOf_8 rfl ?_
    refine E_getf 3 dX5_leastOf_9 fl_X5_17 (by decide) (hg_35 _) rfl ?_
    refine E_iload_n dX5_leastOf_12 rfl ?_
    refine E_bipush (v := 27) dX5_leastOf_13 rfl ?_
    refine E_imul dX5_leastOf_15 ?_
    refine E_iload_n dX5_leastOf_16 rfl ?_
    refine E_iadd dX5_leastOf_17 ?_
    rw [he]
    refine E_iald dX5_leastOf_18 (by decide) (hg_37 _) (vp_in_nI (by have := b2i_ne c_5; omega) (by omega)) ?_
    rw [nI_clamp (by have := b2i_ne c_5; omega)]
    refine E_goto 23 dX5_leastOf_19 (by decide) ?_
    exact E_iret dX5_leastOf_23 rfl rfl ⟨by first | exact sv_if (b2i_ne c_5) | exact sv_el (b2i_e0 c_5), rfl⟩
def cwZ (z : Sg) (i f j : Nat) : Int32 := z.A 5 0 * sumZ z i j + z.A 5 4 * sumZ z i f + (if 1 < f - i then lstZ z i f else 0) + lstZ z f j
theorem c_costWith (z : Sg) {i f j : Nat} (hif : i ≤ f) (hf : f < 2 ^ 30) (hj : j < 2 ^ 30) : EM mPlan_costWith 2 0 0 [.ref 35, .int (nI i), .int (nI f), .int (nI j)] (hp z) (Det (some (.int (cwZ z i f j))) (hp z)) := by
  refine E_iload_n dX5_costWith_0 rfl ?_
  refine E_iload_n dX5_costWith_1 rfl ?_
  refine E_isub dX5_costWith_2 ?_
  rw [pk_sub hif]
  refine E_iconst (v := 1) dX5_costWith_3 rfl ?_
  refine E_icmp_le 16 dX5_costWith_4 (by decide) (fun c_4 => ?_) (fun c_4 => ?_)
  · refine E_iconst (v := 0) dX5_costWith_16 rfl ?_
    refine E_istore dX5_costWith_17 (by decide) rfl ?_
    refine E_aload_n dX5_costWith_19 rfl ?_
    refine E_getf 1 dX5_costWith_20 fl_X5_29 (by decide) (hg_35 _) rfl ?_
    refine E_iconst (v := 0) dX5_costWith_23 rfl ?_
    refine E_V1 dX5_costWith_24 cv_X5_57 (by decide) (hg_4 _) rfl rfl (Nat.le_of_ble_eq_true rfl) (Nat.le_of_ble_eq_true rfl) (c_get z 0 (by decide)) (by decide) (Nat.zero_le _) (Nat.zero_le _) ?_
    refine E_aload_n dX5_costWith_27 rfl ?_
    refine E_iload_n dX5_costWith_28 rfl ?_
    refine E_iload_n dX5_costWith_29 rfl ?_
    refine E_V2 dX5_costWith_30 cv_X5_62 (by decide) (hg_35 _) rfl rfl (Nat.le_of_ble_eq_true rfl) (Nat.le_of_ble_eq_true rfl) (c_sumOfN z (by omega) (by omega)) (by decide) (Nat.zero_le _) (Nat.zero_le _) ?_
    refine E_imul dX5_costWith_33 ?_
    refine E_aload_n dX5_costWith_34 rfl ?_
    refine E_getf 1 dX5_costWith_35 fl_X5_29 (by decide) (hg_35 _) rfl ?_
    refine E_iconst (v := 4) dX5_costWith_38 rfl ?_
    refine E_V1 dX5_costWith_39 cv_X5_57 (by decide) (hg_4 _) rfl rfl (Nat.le_of_ble_eq_true rfl) (Nat.le_of_ble_eq_true rfl) (c_get z 4 (by decide)) (by decide) (Nat.zero_le _) (Nat.zero_le _) ?_
    refine E_aload_n dX5_costWith_42 rfl ?_
    refine E_iload_n dX5_costWith_43 rfl ?_
    refine E_iload_n dX5_costWith_44 rfl ?_
    refine E_V2 dX5_costWith_45 cv_X5_62 (by decide) (hg_35 _) rfl rfl (Nat.le_of_ble_eq_true rfl) (Nat.le_of_ble_eq_true rfl) (c_sumOfN z (by omega) (by omega)) (by decide) (Nat.zero_le _) (Nat.zero_le _) ?_
    refine E_imul dX5_costWith_48 ?_
    refine E_iadd dX5_costWith_49 ?_
    refine E_iload dX5_costWith_50 rfl ?_
    refine E_iadd dX5_costWith_52 ?_
    refine E_aload_n dX5_costWith_53 rfl ?_
    refine E_iload_n dX5_costWith_54 rfl ?_
    refine E_iload_n dX5_costWith_55 rfl ?_
    refine E_V2 dX5_costWith_56 cv_X5_54 (by decide) (hg_35 _) rfl rfl (Nat.le_of_ble_eq_true rfl) (Nat.le_of_ble_eq_true rfl) (c_leastOf z (by omega) (by omega)) (by decide) (Nat.zero_le _) (Nat.zero_le _) ?_
    refine E_iadd dX5_costWith_59 ?_
    exact E_iret dX5_costWith_60 rfl rfl ⟨by first | (rw [cwZ, if_neg (show ¬ 1 < f - i from fun h9 => nI_ge (a := 1) h9 (by omega) c_4)]) | (rw [cwZ, if_pos (show 1 < f - i by rcases Nat.lt_or_ge 1 (f - i) with h9 | h9; exact h9; exact absurd (nI_le (b := 1) h9 (by omega)) c_4)]), rfl⟩
  · refine E_aload_n dX5_costWith_7 rfl ?_
    refine E_iload_n dX5_costWith_8 rfl ?_
    refine E_iload_n dX5_costWith_9 rfl ?_
    refine E_V2 dX5_costWith_10 cv_X5_54 (by decide) (hg_35 _) rfl rfl (Nat.le_of_ble_eq_true rfl) (Nat.le_of_ble_eq_true rfl) (c_leastOf z (by omega) (by omega)) (by decide) (Nat.zero_le _) (Nat.zero_le _) ?_
    refine E_goto 17 dX5_costWith_13 (by decide) ?_
    refine E_istore dX5_costWith_17 (by decide) rfl ?_
    refine E_aload_n dX5_costWith_19 rfl ?_
    refine E_getf 1 dX5_costWith_20 fl_X5_29 (by decide) (hg_35 _) rfl ?_
    refine E_iconst (v := 0) dX5_costWith_23 rfl ?_
    refine E_V1 dX5_costWith_24 cv_X5_57 (by decide) (hg_4 _) rfl rfl (Nat.le_of_ble_eq_true rfl) (Nat.le_of_ble_eq_true rfl) (c_get z 0 (by decide)) (by decide) (Nat.zero_le _) (Nat.zero_le _) ?_
    refine E_aload_n dX5_costWith_27 rfl ?_
    refine E_iload_n dX5_costWith_28 rfl ?_
    refine E_iload_n dX5_costWith_29 rfl ?_
    refine E_V2 dX5_costWith_30 cv_X5_62 (by decide) (hg_35 _) rfl rfl (Nat.le_of_ble_eq_true rfl) (Nat.le_of_ble_eq_true rfl) (c_sumOfN z (by omega) (by omega)) (by decide) (Nat.zero_le _) (Nat.zero_le _) ?_
    refine E_imul dX5_costWith_33 ?_
    refine E_aload_n dX5_costWith_34 rfl ?_
    refine E_getf 1 dX5_costWith_35 fl_X5_29 (by decide) (hg_35 _) rfl ?_
    refine E_iconst (v := 4) dX5_costWith_38 rfl ?_
    refine E_V1 dX5_costWith_39 cv_X5_57 (by decide) (hg_4 _) rfl rfl (Nat.le_of_ble_eq_true rfl) (Nat.le_of_ble_eq_true rfl) (c_get z 4 (by decide)) (by decide) (Nat.zero_le _) (Nat.zero_le _) ?_
    refine E_aload_n dX5_costWith_42 rfl ?_
    refine E_iload_n dX5_costWith_43 rfl ?_
    refine E_iload_n dX5_costWith_44 rfl ?_
    refine E_V2 dX5_costWith_45 cv_X5_62 (by decide) (hg_35 _) rfl rfl (Nat.le_of_ble_eq_true rfl) (Nat.le_of_ble_eq_true rfl) (c_sumOfN z (by omega) (by omega)) (by decide) (Nat.zero_le _) (Nat.zero_le _) ?_
    refine E_imul dX5_costWith_48 ?_
    refine E_iadd dX5_costWith_49 ?_
    refine E_iload dX5_costWith_50 rfl ?_
    refine E_iadd dX5_costWith_52 ?_
    refine E_aload_n dX5_costWith_53 rfl ?_
    refine E_iload_n dX5_costWith_54 rfl ?_
    refine E_iload_n dX5_costWith_55 rfl ?_
    refine E_V2 dX5_costWith_56 cv_X5_54 (by decide) (hg_35 _) rfl rfl (Nat.le_of_ble_eq_true rfl) (Nat.le_of_ble_eq_true rfl) (c_leastOf z (by omega) (by omega)) (by decide) (Nat.zero_le _) (Nat.zero_le _) ?_
    refine E_iadd dX5_costWith_59 ?_
    exact E_iret dX5_costWith_60 rfl rfl ⟨by first | (rw [cwZ, if_neg (show ¬ 1 < f - i from fun h9 => nI_ge (a := 1) h9 (by omega) c_4)]) | (rw [cwZ, if_pos (show 1 < f - i by rcases Nat.lt_or_ge 1 (f - i) with h9 | h9; exact h9; exact absurd (nI_le (b := 1) h9 (by omega)) c_4)]), rfl⟩
def fel (z : Sg) (i j : Nat) : Nat → Nat → Nat → Int32 → Nat
  | 0, _, b, _ => b
  | m + 1, f, b, l => if cwZ z i f j < l then fel z i j m (f + 1) f (cwZ z i f j) else fel z i j m (f + 1) b l
def feZ (z : Sg) (i j : Nat) : Nat := fel z i j (j - (i + 2)) (i + 2) (i + 1) (cwZ z i (i + 1) j)
theorem l_fel (z : Sg) {i j : Nat} (hi : i ≤ 26) (hj : j ≤ 26) : ∀ (m f b : Nat) (l : Int32), (j ≤ f → m = 0) → (f < j → f + m = j) → i ≤ f → f ≤ 28 → E mPlan_firstEnd 3 0 0 18 [(0, .ref 35), (1, .int (nI i)), (2, .int (nI j)), (3, .int (nI b)), (4, .int l), (5, .int (nI f))] [] (hp z) (Det (some (.int (nI (fel z i j m f b l)))) (hp z)) := by
  intro m
  induction m with
  | zero =>
    intro f b l h1 h2 h3 h4
    refine E_iload dX5_firstEnd_18 rfl ?_
    refine E_iload_n dX5_firstEnd_20 rfl ?_
    refine E_icmp_ge 54 dX5_firstEnd_21 (by decide) (fun c_21 => ?_) (fun c_21 => ?_)
    · refine E_iload_n dX5_firstEnd_54 rfl ?_
      exact E_iret dX5_firstEnd_55 rfl rfl ⟨rfl, rfl⟩
    · exact absurd (nI_le (by omega) (by omega)) c_21
  | succ m ih =>
    intro f b l h1 h2 h3 h4
    have hlt : f < j := by rcases Nat.lt_or_ge f j with h | h; exact h; exact absurd (h1 h) (by omega)
    refine E_iload dX5_firstEnd_18 rfl ?_
    refine E_iload_n dX5_firstEnd_20 rfl ?_
    refine E_icmp_ge 54 dX5_firstEnd_21 (by decide) (fun c_21 => ?_) (fun c_21 => ?_)
    · exact absurd c_21 (nI_ge hlt (by omega))
    · refine E_aload_n dX5_firstEnd_24 rfl ?_
      refine E_iload_n dX5_firstEnd_25 rfl ?_
      refine E_iload dX5_firstEnd_26 rfl ?_
      refine E_iload_n dX5_firstEnd_28 rfl ?_
      refine E_V3 dX5_firstEnd_29 cv_X5_50 (by decide) (hg_35 _) rfl rfl (Nat.le_of_ble_eq_true rfl) (Nat.le_of_ble_eq_true rfl) (c_costWith z h3 (by omega) (by omega)) (by decide) (Nat.zero_le _) (Nat.zero_le _) ?_
      refine E_istore dX5_firstEnd_32 (by decide) rfl ?_
      refine E_iload dX5_firstEnd_34 rfl ?_
      refine E_iload dX5_firstEnd_36 rfl ?_
      refine E_icmp_ge 48 dX5_firstEnd_38 (by decide) (fun c_38 => ?_) (fun c_38 => ?_)
      · refine E_iincL 1 dX5_firstEnd_48 rfl rfl (by decide) rfl ?_
        rw [nI_1]
        refine E_goto 18 dX5_firstEnd_51 (by decide) ?_
        refine E.pick [2, 3, 4, 5, 6, 0] rfl ?_
        rw [fel]
        first | exact (by rw [if_neg (show ¬ cwZ z i f j < l by rw [i32_lt]; rw [i32_le] at c_38; exact Int.not_lt.mpr c_38)]; exact ih (f + 1) b l (by omega) (by omega) (by omega) (by omega)) | exact (by rw [if_pos (show cwZ z i f j < l by rw [i32_lt]; rw [i32_le] at c_38; exact Int.not_le.mp c_38)]; exact ih (f + 1) f (cwZ z i f j) (by omega) (by omega) (by omega) (by omega))
      · refine E_iload dX5_firstEnd_41 rfl ?_
        refine E_istore_n dX5_firstEnd_43 (by decide) rfl ?_
        refine E_iload dX5_firstEnd_44 rfl ?_
        refine E_istore dX5_firstEnd_46 (by decide) rfl ?_
        refine E_iincL 1 dX5_firstEnd_48 rfl rfl (by decide) rfl ?_
        rw [nI_1]
        refine E_goto 18 dX5_firstEnd_51 (by decide) ?_
        refine E.pick [4, 5, 6, 2, 1, 0] rfl ?_
        rw [fel]
        first | exact (by rw [if_neg (show ¬ cwZ z i f j < l by rw [i32_lt]; rw [i32_le] at c_38; exact Int.not_lt.mpr c_38)]; exact ih (f + 1) b l (by omega) (by omega) (by omega) (by omega)) | exact (by rw [if_pos (show cwZ z i f j < l by rw [i32_lt]; rw [i32_le] at c_38; exact Int.not_le.mp c_38)]; exact ih (f + 1) f (cwZ z i f j) (by omega) (by omega) (by omega) (by omega))
theorem c_firstEnd (z : Sg) {i j : Nat} (hi : i ≤ 26) (hj : j ≤ 26) : EM mPlan_firstEnd 3 0 0 [.ref 35, .int (nI i), .int (nI j)] (hp z) (Det (some (.int (nI (feZ z i j)))) (hp z)) := by
  refine E_iload_n dX5_firstEnd_0 rfl ?_
  refine E_iconst (v := 1) dX5_firstEnd_1 rfl ?_
  refine E_iadd dX5_firstEnd_2 ?_
  rw [nI_1]
  refine E_istore_n dX5_firstEnd_3 (by decide) rfl ?_
  refine E_aload_n dX5_firstEnd_4 rfl ?_
  refine E_iload_n dX5_firstEnd_5 rfl ?_
  refine E_iload_n dX5_firstEnd_6 rfl ?_
  refine E_iload_n dX5_firstEnd_7 rfl ?_
  refine E_V3 dX5_firstEnd_8 cv_X5_50 (by decide) (hg_35 _) rfl rfl (Nat.le_of_ble_eq_true rfl) (Nat.le_of_ble_eq_true rfl) (c_costWith z (show i ≤ i + 1 by omega) (by omega) (by omega)) (by decide) (Nat.zero_le _) (Nat.zero_le _) ?_
  refine E_istore dX5_firstEnd_11 (by decide) rfl ?_
  refine E_iload_n dX5_firstEnd_13 rfl ?_
  refine E_iconst (v := 2) dX5_firstEnd_14 rfl ?_
  refine E_iadd dX5_firstEnd_15 ?_
  rw [show nI i + 2 = nI (i + 2) from nI_add i 2]
  refine E_istore dX5_firstEnd_16 (by decide) rfl ?_
  refine E.pick [3, 4, 5, 2, 1, 0] rfl ?_
  exact l_fel z hi hj (j - (i + 2)) (i + 2) (i + 1) _ (by omega) (by omega) (by omega) (by omega)
theorem fel_le (z : Sg) (i j : Nat) : ∀ (m f b : Nat) (l : Int32), fel z i j m f b l < f + m ∨ fel z i j m f b l = b
  | 0, f, b, l => Or.inr rfl
  | m + 1, f, b, l => by
    rw [fel]
    split
    · rcases fel_le z i j m (f + 1) f (cwZ z i f j) with h | h
      · exact Or.inl (by omega)
      · exact Or.inl (by omega)
    · rcases fel_le z i j m (f + 1) b l with h | h
      · exact Or.inl (by omega)
      · exact Or.inr h
theorem fel_ge (z : Sg) (i j : Nat) : ∀ (m f b : Nat) (l : Int32), b ≤ f → b ≤ fel z i j m f b l
  | 0, f, b, l, _ => Nat.le_refl b
  | m + 1, f, b, l, h => by
    rw [fel]
    split
    · exact Nat.le_trans h (fel_ge z i j m (f + 1) f _ (by omega))
    · exact fel_ge z i j m (f + 1) b l (by omega)
theorem feZ_gt (z : Sg) (i j : Nat) : i < feZ z i j := by
  have := fel_ge z i j (j - (i + 2)) (i + 2) (i + 1) (cwZ z i (i + 1) j) (by omega)
  unfold feZ
  omega
theorem feZ_le (z : Sg) {i j : Nat} (h : i < j) : feZ z i j ≤ j := by
  unfold feZ
  rcases fel_le z i j (j - (i + 2)) (i + 2) (i + 1) (cwZ z i (i + 1) j) with h1 | h1
  · by_cases h2 : i + 2 ≤ j
    · omega
    · rw [show j - (i + 2) = 0 by omega] at h1 ⊢
      rw [fel]
      omega
  · omega
def s1V (z : Sg) (i : Nat) : Int32 := z.A 36 i + (if isL (z.A 23 i) then z.A 33 (z.A 23 i - 97).toNatClampNeg else 0) + 1
def sl1 : Nat → Nat → Sg → Sg
  | 0, _, z => z
  | m + 1, i, z => sl1 m (i + 1) (stA z 36 (upd (z.A 36) (i + 1) (s1V z i)))
def sl3 (i : Nat) : Nat → Nat → Sg → Sg
  | 0, _, z => z
  | m + 1, j, z => sl3 i m (j + 1) (stA z 37 (upd (z.A 37) (27 * i + j) (cwZ z i (feZ z i j) j)))
def sl2 (n : Nat) : Nat → Sg → Sg
  | 0, z => z
  | i + 1, z => sl2 n i (sl3 i (n - i) (i + 1) z)
theorem F_sl3 (i : Nat) : ∀ (m j : Nat) (z : Sg), (sl3 i m j z).F = z.F
  | 0, _, _ => rfl
  | m + 1, j, z => by rw [sl3, F_sl3]; rfl
theorem l_sl2 {n : Nat} (h1 : 1 ≤ n) (hn : n ≤ 26) : ∀ (i : Nat) (z : Sg), i ≤ n → E mPlan_solve 4 0 0 60 [(0, .ref 35), (1, .ref 32), (2, .int (nI n)), (3, .int (nI i - 1))] [] (hp z) (Det (some (.int (lstZ (sl2 n i z) 0 n))) (hp (sl2 n i z))) := by
  intro i
  induction i with
  | zero =>
    intro z hi
    refine E_iload_n dX5_solve_60 rfl ?_
    refine E_if_lt 124 dX5_solve_61 (by decide) (fun c_61 => ?_) (fun c_61 => ?_)
    · refine E_aload_n dX5_solve_124 rfl ?_
      refine E_iconst (v := 0) dX5_solve_125 rfl ?_
      refine E_iload_n dX5_solve_126 rfl ?_
      refine E_V2 dX5_solve_127 cv_X5_54 (by decide) (hg_35 _) rfl rfl (Nat.le_of_ble_eq_true rfl) (Nat.le_of_ble_eq_true rfl) (c_leastOf z (i := 0) (by omega) (by omega)) (by decide) (Nat.zero_le _) (Nat.zero_le _) ?_
      exact E_iret dX5_solve_130 rfl rfl ⟨rfl, rfl⟩
    · exact absurd (by decide) c_61
  | succ i ih =>
    intro z hi
    rw [nI_pred]
    have inner : ∀ (m j : Nat) (z : Sg), j + m = n + 1 → i < j → E mPlan_solve 4 0 0 69 [(0, .ref 35), (1, .ref 32), (2, .int (nI n)), (3, .int (nI i)), (4, .int (nI j))] [] (hp z) (Det (some (.int (lstZ (sl2 n i (sl3 i m j z)) 0 n))) (hp (sl2 n i (sl3 i m j z)))) := by
      intro m
      induction m with
      | zero =>
        intro j z hj hij
        refine E_iload dX5_solve_69 rfl ?_
        refine E_iload_n dX5_solve_71 rfl ?_
        refine E_icmp_gt 118 dX5_solve_72 (by decide) (fun c_72 => ?_) (fun c_72 => ?_)
        · refine E_iincL (-1) dX5_solve_118 rfl rfl (by decide) rfl ?_
          rw [i32_m1]
          refine E_goto 60 dX5_solve_121 (by decide) ?_
          refine E.pick [1, 2, 3, 0] rfl ?_
          exact ih z (by omega)
        · exact absurd (by rw [i32_lt, nI_toInt (by omega), nI_toInt (by omega)]; omega) c_72
      | succ m ih2 =>
        intro j z hj hij
        have he : nI i * 27 + nI j = nI (27 * i + j) := by rw [show (27 : Int32) = nI 27 from rfl, pk_mul, nI_add, Nat.mul_comm]
        refine E_iload dX5_solve_69 rfl ?_
        refine E_iload_n dX5_solve_71 rfl ?_
        refine E_icmp_gt 118 dX5_solve_72 (by decide) (fun c_72 => ?_) (fun c_72 => ?_)
        · exact absurd c_72 (by rw [i32_lt, nI_toInt (by omega), nI_toInt (by omega)]; omega)
        · refine E_iload dX5_solve_75 rfl ?_
          refine E_bipush (v := 27) dX5_solve_77 rfl ?_
          refine E_icmp_ge 118 dX5_solve_79 (by decide) (fun c_79 => ?_) (fun c_79 => ?_)
          · exact absurd c_79 (nI_ge (b := 27) (by omega) (by omega))
          · refine E_aload_n dX5_solve_82 rfl ?_
            refine E_iload_n dX5_solve_83 rfl ?_
            refine E_iload dX5_solve_84 rfl ?_
            refine E_V2 dX5_solve_86 cv_X5_46 (by decide) (hg_35 _) rfl rfl (Nat.le_of_ble_eq_true rfl) (Nat.le_of_ble_eq_true rfl) (c_firstEnd z (by omega) (by omega)) (by decide) (Nat.zero_le _) (Nat.zero_le _) ?_
            refine E_istore dX5_solve_89 (by decide) rfl ?_
            refine E_aload_n dX5_solve_91 rfl ?_
            refine E_getf 3 dX5_solve_92 fl_X5_17 (by decide) (hg_35 _) rfl ?_
            refine E_iload_n dX5_solve_95 rfl ?_
            refine E_bipush (v := 27) dX5_solve_96 rfl ?_
            refine E_imul dX5_solve_98 ?_
            refine E_iload dX5_solve_99 rfl ?_
            refine E_iadd dX5_solve_101 ?_
            rw [he]
            refine E_aload_n dX5_solve_102 rfl ?_
            refine E_iload_n dX5_solve_103 rfl ?_
            refine E_iload dX5_solve_104 rfl ?_
            refine E_iload dX5_solve_106 rfl ?_
            refine E_V3 dX5_solve_108 cv_X5_50 (by decide) (hg_35 _) rfl rfl (Nat.le_of_ble_eq_true rfl) (Nat.le_of_ble_eq_true rfl) (c_costWith z (Nat.le_of_lt (feZ_gt z i j)) (by have := feZ_le z hij; omega) (by omega)) (by decide) (Nat.zero_le _) (Nat.zero_le _) ?_
            refine E_iast dX5_solve_111 (by decide) (hg_37 _) (vp_in_nI (by omega) (by omega)) ?_
            rw [hs_37]
            rw [nI_clamp (by omega)]
            refine E_iincL 1 dX5_solve_112 rfl rfl (by decide) rfl ?_
            rw [nI_1]
            refine E_goto 69 dX5_solve_115 (by decide) ?_
            refine E.pick [2, 3, 4, 5, 0] rfl ?_
            rw [sl3]
            exact ih2 (j + 1) _ (by omega) (by omega)
    refine E_iload_n dX5_solve_60 rfl ?_
    refine E_if_lt 124 dX5_solve_61 (by decide) (fun c_61 => ?_) (fun c_61 => ?_)
    · exact absurd c_61 (nI_pos (by omega))
    · refine E_iload_n dX5_solve_64 rfl ?_
      refine E_iconst (v := 1) dX5_solve_65 rfl ?_
      refine E_iadd dX5_solve_66 ?_
      rw [nI_1]
      refine E_istore dX5_solve_67 (by decide) rfl ?_
      refine E.pick [1, 2, 3, 4, 0] rfl ?_
      rw [sl2]
      exact inner (n - i) (i + 1) z (by omega) (by omega)
theorem l_sl1 {n : Nat} (h1 : 1 ≤ n) (hn : n ≤ 26) : ∀ (m i : Nat) (z : Sg), i + m = n → z.F 22 1 = nI n → E mPlan_solve 4 0 0 10 [(0, .ref 35), (1, .ref 32), (2, .int (nI n)), (3, .int (nI i))] [] (hp z) (Det (some (.int (lstZ (sl2 n n (sl1 m i z)) 0 n))) (hp (sl2 n n (sl1 m i z)))) := by
  intro m
  induction m with
  | zero =>
    intro i z hi hF
    refine E_iload_n dX5_solve_10 rfl ?_
    refine E_iload_n dX5_solve_11 rfl ?_
    refine E_icmp_ge 56 dX5_solve_12 (by decide) (fun c_12 => ?_) (fun c_12 => ?_)
    · refine E_iload_n dX5_solve_56 rfl ?_
      refine E_iconst (v := 1) dX5_solve_57 rfl ?_
      refine E_isub dX5_solve_58 ?_
      refine E_istore_n dX5_solve_59 (by decide) rfl ?_
      refine E.pick [1, 2, 3, 0] rfl ?_
      exact l_sl2 h1 hn n z (Nat.le_refl n)
    · exact absurd (nI_le (by omega) (by omega)) c_12
  | succ m ih =>
    intro i z hi hF
    have hcl : (nI i).toNatClampNeg = i := nI_clamp (by omega)
    have hsa := c_signAt z (by rw [hF, nI_toInt (by omega)]; omega) (nI i)
    rw [if_pos (show ltN (nI i) (z.F 22 1) from ⟨by rw [nI_toInt (by omega)]; omega, by rw [hF, nI_toInt (by omega), nI_toInt (by omega)]; omega⟩), hcl] at hsa
    refine E_iload_n dX5_solve_10 rfl ?_
    refine E_iload_n dX5_solve_11 rfl ?_
    refine E_icmp_ge 56 dX5_solve_12 (by decide) (fun c_12 => ?_) (fun c_12 => ?_)
    · exact absurd c_12 (nI_ge (by omega) (by omega))
    · refine E_iload_n dX5_solve_15 rfl ?_
      refine E_bipush (v := 26) dX5_solve_16 rfl ?_
      refine E_icmp_ge 56 dX5_solve_18 (by decide) (fun c_18 => ?_) (fun c_18 => ?_)
      · exact absurd c_18 (nI_ge (b := 26) (by omega) (by omega))
      · refine E_aload_n dX5_solve_21 rfl ?_
        refine E_getf 2 dX5_solve_22 fl_X5_13 (by decide) (hg_35 _) rfl ?_
        refine E_iload_n dX5_solve_25 rfl ?_
        refine E_iconst (v := 1) dX5_solve_26 rfl ?_
        refine E_iadd dX5_solve_27 ?_
        rw [nI_1]
        refine E_aload_n dX5_solve_28 rfl ?_
        refine E_getf 2 dX5_solve_29 fl_X5_13 (by decide) (hg_35 _) rfl ?_
        refine E_iload_n dX5_solve_32 rfl ?_
        refine E_iald dX5_solve_33 (by decide) (hg_36 _) (vp_in_nI (by omega) (by omega)) ?_
        rw [hcl]
        refine E_aload_n dX5_solve_34 rfl ?_
        refine E_aload_n dX5_solve_35 rfl ?_
        refine E_getf 0 dX5_solve_36 fl_X5_25 (by decide) (hg_35 _) rfl ?_
        refine E_iload_n dX5_solve_39 rfl ?_
        refine E_V1 dX5_solve_40 cv_X5_37 (by decide) (hg_22 _) rfl rfl (Nat.le_of_ble_eq_true rfl) (Nat.le_of_ble_eq_true rfl) (hsa) (by decide) (Nat.zero_le _) (Nat.zero_le _) ?_
        refine E_V1 dX5_solve_43 cv_X5_41 (by decide) (hg_32 _) rfl rfl (Nat.le_of_ble_eq_true rfl) (Nat.le_of_ble_eq_true rfl) (c_shareOf z _) (by decide) (Nat.zero_le _) (Nat.zero_le _) ?_
        refine E_iadd dX5_solve_46 ?_
        refine E_iconst (v := 1) dX5_solve_47 rfl ?_
        refine E_iadd dX5_solve_48 ?_
        refine E_iast dX5_solve_49 (by decide) (hg_36 _) (vp_in_nI (by omega) (by omega)) ?_
        rw [hs_36]
        rw [nI_clamp (by omega)]
        refine E_iincL 1 dX5_solve_50 rfl rfl (by decide) rfl ?_
        rw [nI_1]
        refine E_goto 10 dX5_solve_53 (by decide) ?_
        refine E.pick [1, 2, 3, 0] rfl ?_
        rw [sl1]
        exact ih (i + 1) _ (by omega) hF
def zsol (n : Nat) (z : Sg) : Sg := sl2 n n (sl1 n 0 z)
theorem c_solve {n : Nat} (h1 : 1 ≤ n) (hn : n ≤ 26) (z : Sg) (hF : z.F 22 1 = nI n) : EM mPlan_solve 4 0 0 [.ref 35, .ref 32] (hp z) (Det (some (.int (lstZ (zsol n z) 0 n))) (hp (zsol n z))) := by
  refine E_aload_n dX5_solve_0 rfl ?_
  refine E_getf 0 dX5_solve_1 fl_X5_25 (by decide) (hg_35 _) rfl ?_
  refine E_V0 dX5_solve_4 cv_X5_33 (by decide) (hg_22 _) rfl rfl (Nat.le_of_ble_eq_true rfl) (Nat.le_of_ble_eq_true rfl) (c_Tape_size z) (by decide) (Nat.zero_le _) (Nat.zero_le _) ?_
  rw [hF]
  refine E_istore_n dX5_solve_7 (by decide) rfl ?_
  refine E_iconst (v := 0) dX5_solve_8 rfl ?_
  refine E_istore_n dX5_solve_9 (by decide) rfl ?_
  refine E.pick [2, 3, 1, 0] rfl ?_
  exact l_sl1 h1 hn n 0 z (by omega) hF
