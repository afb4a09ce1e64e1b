/-! THE MODEL: weight, item, sums -/
theorem c_index (h : HP) {i j p : Nat} (hi : i ≤ 27) (hj : j ≤ 27) (hp' : p ≤ 28) : EM mMod_index 0 0 0 [.int (nI i), .int (nI j), .int (nI p)] h (Det (some (.int (nI ((27 * i + j) * 28 + p)))) h) := by
  have he : ((27 : Int32) * nI i + nI j) * 28 + nI p = nI ((27 * i + j) * 28 + p) := by
    rw [show (27 : Int32) = nI 27 from rfl, show (28 : Int32) = nI 28 from rfl, pk_mul, nI_add, pk_mul, nI_add]
  refine E_bipush (v := 27) dX11_index_0 rfl ?_
  refine E_iload_n dX11_index_2 rfl ?_
  refine E_imul dX11_index_3 ?_
  refine E_iload_n dX11_index_4 rfl ?_
  refine E_iadd dX11_index_5 ?_
  refine E_bipush (v := 28) dX11_index_6 rfl ?_
  refine E_imul dX11_index_8 ?_
  refine E_iload_n dX11_index_9 rfl ?_
  refine E_iadd dX11_index_10 ?_
  exact E_iret dX11_index_11 rfl rfl ⟨by rw [← he], rfl⟩
/-- the row's letters -/
def rwOK (z : Sg) (n : Nat) : Prop := n ≤ 26 ∧ ∀ j, j < n → isL (z.A 62 j)
def wgs (z : Sg) : Nat → Nat → Int64 → Int64
  | 0, _, s => s
  | m + 1, k, s => wgs z m (k + 1) (s + (z.A 59 (z.A 62 k - 97).toNatClampNeg + 1).toInt64)
theorem l_wgs {z : Sg} {n i j : Nat} (h : rwOK z n) (hj : j ≤ n) : ∀ (m k : Nat) (s : Int64), k + m = j → E mMod_weight 0 0 0 5 [(0, .ref 39), (1, .int (nI i)), (2, .int (nI j)), (3, .long s), (5, .int (nI k))] [] (hp z) (Det (some (.long (wgs z m k s))) (hp z)) := by
  have hn := h.1
  intro m
  induction m with
  | zero =>
    intro k s hk
    refine E_iload dX11_weight_5 rfl ?_
    refine E_iload_n dX11_weight_7 rfl ?_
    refine E_icmp_ge 38 dX11_weight_8 (by decide) (fun c_8 => ?_) (fun c_8 => ?_)
    · refine E_lload_n dX11_weight_38 rfl ?_
      exact E_lret dX11_weight_39 rfl ⟨rfl, rfl⟩
    · exact absurd (nI_le (by omega) (by omega)) c_8
  | succ m ih =>
    intro k s hk
    refine E_iload dX11_weight_5 rfl ?_
    refine E_iload_n dX11_weight_7 rfl ?_
    refine E_icmp_ge 38 dX11_weight_8 (by decide) (fun c_8 => ?_) (fun c_8 => ?_)
    · exact absurd c_8 (nI_ge (by omega) (by omega))
    · refine E_lload_n dX11_weight_11 rfl ?_
      refine E_aload_n dX11_weight_12 rfl ?_
      refine E_getf 34 dX11_weight_13 fl_X11_82 (by decide) (hg_39 _) rfl ?_
      refine E_aload_n dX11_weight_16 rfl ?_
      refine E_getf 37 dX11_weight_17 fl_X11_92 (by decide) (hg_39 _) rfl ?_
      refine E_iload dX11_weight_20 rfl ?_
      refine E_bald dX11_weight_22 (by decide) (hg_62 _) (vp_in_nI (by omega) (by omega)) ?_
      rw [nI_clamp (by omega)]
      refine E_bipush (v := 97) dX11_weight_23 rfl ?_
      refine E_isub dX11_weight_25 ?_
      refine E_iald dX11_weight_26 (by decide) (hg_59 _) (letter_in (h.2 k (by omega))) ?_
      refine E_iconst (v := 1) dX11_weight_27 rfl ?_
      refine E_iadd dX11_weight_28 ?_
      refine E_i2l dX11_weight_29 ?_
      refine E_ladd dX11_weight_30 ?_
      refine E_lstore_n dX11_weight_31 (by decide) rfl ?_
      refine E_iincL 1 dX11_weight_32 rfl rfl (by decide) rfl ?_
      rw [nI_1]
      refine E_goto 5 dX11_weight_35 (by decide) ?_
      refine E.pick [2, 3, 4, 1, 0] rfl ?_
      rw [wgs]
      exact ih (k + 1) _ (by omega)
theorem c_weight {z : Sg} {n i j : Nat} (h : rwOK z n) (hij : i ≤ j) (hj : j ≤ n) : EM mMod_weight 0 0 0 [.ref 39, .int (nI i), .int (nI j)] (hp z) (Det (some (.long (wgs z (j - i) i 0))) (hp z)) := by
  refine E_lconst (v := 0) dX11_weight_0 rfl ?_
  refine E_lstore_n dX11_weight_1 (by decide) rfl ?_
  refine E_iload_n dX11_weight_2 rfl ?_
  refine E_istore dX11_weight_3 (by decide) rfl ?_
  refine E.pick [2, 3, 4, 1, 0] rfl ?_
  exact l_wgs h hj (j - i) i 0 (by omega)
def itm (z : Sg) (i j p : Nat) : Int64 := wgs z (j - i) i 0 * (z.A 43 0 * nI p + z.A 43 4).toInt64 + (if 1 < j - i then z.L 61 (27 * i + j) else 0)
theorem c_item {z : Sg} {n i j : Nat} (h : rwOK z n) (hij : i ≤ j) (hj : j ≤ n) (p : Nat) : EM mMod_item 1 0 0 [.ref 39, .int (nI i), .int (nI j), .int (nI p)] (hp z) (Det (some (.long (itm z i j p))) (hp z)) := by
  have hn := h.1
  have he : (27 : Int32) * nI i + nI j = nI (27 * i + j) := by rw [show (27 : Int32) = nI 27 from rfl, pk_mul, nI_add]
  refine E_aload_n dX11_item_0 rfl ?_
  refine E_iload_n dX11_item_1 rfl ?_
  refine E_iload_n dX11_item_2 rfl ?_
  refine E_V2 dX11_item_3 cv_X11_212 (by decide) (hg_39 _) rfl rfl (Nat.le_of_ble_eq_true rfl) (Nat.le_of_ble_eq_true rfl) (c_weight h hij hj) (by decide) (Nat.zero_le _) (Nat.zero_le _) ?_
  refine E_aload_n dX11_item_6 rfl ?_
  refine E_getf 4 dX11_item_7 fl_X11_19 (by decide) (hg_39 _) rfl ?_
  refine E_iconst (v := 0) dX11_item_10 rfl ?_
  refine E_iald dX11_item_11 (by decide) (hg_43 _) (vp_in_nI (n := 0) (by decide) (by decide)) ?_
  refine E_iload_n dX11_item_12 rfl ?_
  refine E_imul dX11_item_13 ?_
  refine E_aload_n dX11_item_14 rfl ?_
  refine E_getf 4 dX11_item_15 fl_X11_19 (by decide) (hg_39 _) rfl ?_
  refine E_iconst (v := 4) dX11_item_18 rfl ?_
  refine E_iald dX11_item_19 (by decide) (hg_43 _) (vp_in_nI (n := 4) (by decide) (by decide)) ?_
  refine E_iadd dX11_item_20 ?_
  refine E_i2l dX11_item_21 ?_
  refine E_lmul dX11_item_22 ?_
  refine E_iload_n dX11_item_23 rfl ?_
  refine E_iload_n dX11_item_24 rfl ?_
  refine E_isub dX11_item_25 ?_
  rw [pk_sub hij]
  refine E_iconst (v := 1) dX11_item_26 rfl ?_
  refine E_icmp_le 44 dX11_item_27 (by decide) (fun c_27 => ?_) (fun c_27 => ?_)
  · refine E_lconst (v := 0) dX11_item_44 rfl ?_
    refine E_ladd dX11_item_45 ?_
    exact E_lret dX11_item_46 rfl ⟨by first | (rw [itm, if_neg (show ¬ 1 < j - i from fun h9 => nI_ge (a := 1) h9 (by omega) c_27)]; rfl) | (rw [itm, if_pos (show 1 < j - i by rcases Nat.lt_or_ge 1 (j - i) with h9 | h9; exact h9; exact absurd (nI_le (b := 1) h9 (by omega)) c_27)]; rfl), rfl⟩
  · refine E_aload_n dX11_item_30 rfl ?_
    refine E_getf 36 dX11_item_31 fl_X11_89 (by decide) (hg_39 _) rfl ?_
    refine E_bipush (v := 27) dX11_item_34 rfl ?_
    refine E_iload_n dX11_item_36 rfl ?_
    refine E_imul dX11_item_37 ?_
    refine E_iload_n dX11_item_38 rfl ?_
    refine E_iadd dX11_item_39 ?_
    rw [he]
    refine E_lald dX11_item_40 (by decide) (hg_61 _) (vp_in_nI (by omega) (by omega)) ?_
    rw [nI_clamp (by omega)]
    refine E_goto 45 dX11_item_41 (by decide) ?_
    refine E_ladd dX11_item_45 ?_
    exact E_lret dX11_item_46 rfl ⟨by first | (rw [itm, if_neg (show ¬ 1 < j - i from fun h9 => nI_ge (a := 1) h9 (by omega) c_27)]; rfl) | (rw [itm, if_pos (show 1 < j - i by rcases Nat.lt_or_ge 1 (j - i) with h9 | h9; exact h9; exact absurd (nI_le (b := 1) h9 (by omega)) c_27)]; rfl), rfl⟩
abbrev ixR (i j p : Nat) : Nat := (27 * i + j) * 28 + p
def mn64 (a b : Int64) : Int64 := if b < a then b else a
/-- the least over the ends k, k + m the last but one -/
def skm (z : Sg) (i j p : Nat) : Nat → Nat → Int64 → Int64
  | 0, _, b => b
  | m + 1, k, b => skm z i j p m (k + 1) (mn64 b (itm z i k p + z.L 60 (ixR k j (p + 1))))
def inV (z : Sg) (i j : Nat) : Int64 := skm z i j 1 (j - (i + 1)) (i + 1) 9223372036854775807
def rsV (z : Sg) (i j p : Nat) : Int64 := if p = 27 ∧ i < j then 2305843009213693951 else if p = 27 then 0 else skm z i j p (j - i) (i + 1) (if i < j then 9223372036854775807 else 0)
def spl (i j : Nat) : Nat → Sg → Sg
  | 0, z => z
  | p + 1, z => spl i j p (stL z 60 (vp_updL (z.L 60) (ixR i j (p + 1)) (rsV z i j (p + 1))))
def sij (i j : Nat) (z : Sg) : Sg := spl i j 27 (if i + 1 < j then stL z 61 (vp_updL (z.L 61) (27 * i + j) (inV z i j)) else z)
def sis (sz : Nat) : Nat → Nat → Sg → Sg
  | 0, _, z => z
  | m + 1, i, z => sis sz m (i + 1) (sij i (i + sz) z)
def ssz (n : Nat) : Nat → Nat → Sg → Sg
  | 0, _, z => z
  | m + 1, sz, z => ssz n m (sz + 1) (sis sz (n + 1 - sz) 0 z)
section Sums
variable {n i j sz p : Nat} {z : Sg} {Q : Option Value → HP → Prop}
theorem l_sk1 (h : rwOK z n) (hj : j ≤ n) (b0 : Int64) (K : E mMod_sums 2 0 0 78 [(0, .ref 39), (1, .int (nI n)), (2, .int (nI sz)), (3, .int (nI i)), (4, .int (nI j)), (5, .long b0)] [] (hp z) Q) : ∀ (m k : Nat) (b : Int64), k + m = j → i ≤ k → skm z i j 1 m k b = b0 → E mMod_sums 2 0 0 36 [(0, .ref 39), (1, .int (nI n)), (2, .int (nI sz)), (3, .int (nI i)), (4, .int (nI j)), (5, .long b), (7, .int (nI k))] [] (hp z) Q := by
  have hn := h.1
  intro m
  induction m with
  | zero =>
    intro k b hk hik hb
    rw [skm] at hb
    subst hb
    refine E_iload dX11_sums_36 rfl ?_
    refine E_iload dX11_sums_38 rfl ?_
    refine E_icmp_ge 78 dX11_sums_40 (by decide) (fun c_40 => ?_) (fun c_40 => ?_)
    · refine E.pick [0, 1, 2, 3, 4, 5] rfl ?_
      exact K
    · exact absurd (nI_le (by omega) (by omega)) c_40
  | succ m ih =>
    intro k b hk hik hb
    rw [skm] at hb
    refine E_iload dX11_sums_36 rfl ?_
    refine E_iload dX11_sums_38 rfl ?_
    refine E_icmp_ge 78 dX11_sums_40 (by decide) (fun c_40 => ?_) (fun c_40 => ?_)
    · exact absurd c_40 (nI_ge (by omega) (by omega))
    · refine E_lload dX11_sums_43 rfl ?_
      refine E_aload_n dX11_sums_45 rfl ?_
      refine E_iload_n dX11_sums_46 rfl ?_
      refine E_iload dX11_sums_47 rfl ?_
      refine E_iconst (v := 1) dX11_sums_49 rfl ?_
      refine E_V3 dX11_sums_50 cv_X11_220 (by decide) (hg_39 _) rfl rfl (Nat.le_of_ble_eq_true rfl) (Nat.le_of_ble_eq_true rfl) (c_item h hik (by omega) 1) (by decide) (Nat.zero_le _) (Nat.zero_le _) ?_
      refine E_aload_n dX11_sums_53 rfl ?_
      refine E_getf 35 dX11_sums_54 fl_X11_85 (by decide) (hg_39 _) rfl ?_
      refine E_iload dX11_sums_57 rfl ?_
      refine E_iload dX11_sums_59 rfl ?_
      refine E_iconst (v := 2) dX11_sums_61 rfl ?_
      refine E_S3 dX11_sums_62 cs_X11_224 (Nat.le_of_ble_eq_true rfl) (Nat.le_of_ble_eq_true rfl) (c_index _ (i := k) (j := j) (p := 2) (by omega) (by omega) (by omega)) (by decide) (Nat.zero_le _) (Nat.zero_le _) ?_
      refine E_lald dX11_sums_65 (by decide) (hg_60 _) (vp_in_nI (by omega) (by omega)) ?_
      rw [nI_clamp (by omega)]
      refine E_ladd dX11_sums_66 ?_
      refine E_lmin dX11_sums_67 mt_X11_227 (by decide) (Nat.le_of_ble_eq_true rfl) ?_
      refine E_lstore dX11_sums_70 (by decide) rfl ?_
      refine E_iincL 1 dX11_sums_72 rfl rfl (by decide) rfl ?_
      rw [nI_1]
      refine E_goto 36 dX11_sums_75 (by decide) ?_
      refine E.pick [2, 3, 4, 5, 6, 1, 0] rfl ?_
      exact ih (k + 1) _ (by omega) (by omega) hb
theorem l_sk2 (h : rwOK z n) (hj : j ≤ n) (hp27 : p < 27) (b0 : Int64) (K : E mMod_sums 2 0 0 173 [(0, .ref 39), (1, .int (nI n)), (2, .int (nI sz)), (3, .int (nI i)), (4, .int (nI j)), (5, .int (nI p)), (6, .long b0)] [] (hp z) Q) : ∀ (m k : Nat) (b : Int64), k + m = j + 1 → i ≤ k → skm z i j p m k b = b0 → E mMod_sums 2 0 0 120 [(0, .ref 39), (1, .int (nI n)), (2, .int (nI sz)), (3, .int (nI i)), (4, .int (nI j)), (5, .int (nI p)), (6, .long b), (8, .int (nI k))] [] (hp z) Q := by
  have hn := h.1
  intro m
  induction m with
  | zero =>
    intro k b hk hik hb
    rw [skm] at hb
    subst hb
    refine E_iload dX11_sums_120 rfl ?_
    refine E_iload dX11_sums_122 rfl ?_
    refine E_icmp_gt 173 dX11_sums_124 (by decide) (fun c_124 => ?_) (fun c_124 => ?_)
    · refine E.pick [0, 1, 2, 3, 4, 5, 6] rfl ?_
      exact K
    · exact absurd (nI_lt (by omega) (by omega)) c_124
  | succ m ih =>
    intro k b hk hik hb
    rw [skm] at hb
    refine E_iload dX11_sums_120 rfl ?_
    refine E_iload dX11_sums_122 rfl ?_
    refine E_icmp_gt 173 dX11_sums_124 (by decide) (fun c_124 => ?_) (fun c_124 => ?_)
    · exact absurd c_124 (nI_nlt (by omega) (by omega))
    · refine E_iload dX11_sums_127 rfl ?_
      refine E_bipush (v := 27) dX11_sums_129 rfl ?_
      refine E_icmp_ge 173 dX11_sums_131 (by decide) (fun c_131 => ?_) (fun c_131 => ?_)
      · exact absurd c_131 (nI_ge (b := 27) (by omega) (by omega))
      · refine E_lload dX11_sums_134 rfl ?_
        refine E_aload_n dX11_sums_136 rfl ?_
        refine E_iload_n dX11_sums_137 rfl ?_
        refine E_iload dX11_sums_138 rfl ?_
        refine E_iload dX11_sums_140 rfl ?_
        refine E_V3 dX11_sums_142 cv_X11_220 (by decide) (hg_39 _) rfl rfl (Nat.le_of_ble_eq_true rfl) (Nat.le_of_ble_eq_true rfl) (c_item h hik (by omega) p) (by decide) (Nat.zero_le _) (Nat.zero_le _) ?_
        refine E_aload_n dX11_sums_145 rfl ?_
        refine E_getf 35 dX11_sums_146 fl_X11_85 (by decide) (hg_39 _) rfl ?_
        refine E_iload dX11_sums_149 rfl ?_
        refine E_iload dX11_sums_151 rfl ?_
        refine E_iload dX11_sums_153 rfl ?_
        refine E_iconst (v := 1) dX11_sums_155 rfl ?_
        refine E_iadd dX11_sums_156 ?_
        rw [nI_1]
        refine E_S3 dX11_sums_157 cs_X11_224 (Nat.le_of_ble_eq_true rfl) (Nat.le_of_ble_eq_true rfl) (c_index _ (i := k) (j := j) (p := p + 1) (by omega) (by omega) (by omega)) (by decide) (Nat.zero_le _) (Nat.zero_le _) ?_
        refine E_lald dX11_sums_160 (by decide) (hg_60 _) (vp_in_nI (by omega) (by omega)) ?_
        rw [nI_clamp (by omega)]
        refine E_ladd dX11_sums_161 ?_
        refine E_lmin dX11_sums_162 mt_X11_227 (by decide) (Nat.le_of_ble_eq_true rfl) ?_
        refine E_lstore dX11_sums_165 (by decide) rfl ?_
        refine E_iincL 1 dX11_sums_167 rfl rfl (by decide) rfl ?_
        rw [nI_1]
        refine E_goto 120 dX11_sums_170 (by decide) ?_
        refine E.pick [2, 3, 4, 5, 6, 7, 1, 0] rfl ?_
        exact ih (k + 1) _ (by omega) (by omega) hb
end Sums
