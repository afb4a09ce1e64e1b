/-! THE MODEL: sums, on -/
theorem rw_L {z : Sg} {n : Nat} (h : rwOK z n) (a : Nat) (f : Nat → Int64) : rwOK (stL z a f) n := h
theorem rw_spl (i j : Nat) : ∀ (p : Nat) (z : Sg) {n : Nat}, rwOK z n → rwOK (spl i j p z) n
  | 0, _, _, h => h
  | p + 1, z, n, h => by
    rw [spl]
    exact rw_spl i j p _ (rw_L h _ _)
theorem rw_sij (i j : Nat) {z : Sg} {n : Nat} (h : rwOK z n) : rwOK (sij i j z) n := by
  unfold sij
  split
  · exact rw_spl i j 27 _ (rw_L h _ _)
  · exact rw_spl i j 27 _ h
theorem rw_sis (sz : Nat) : ∀ (m i : Nat) (z : Sg) {n : Nat}, rwOK z n → rwOK (sis sz m i z) n
  | 0, _, _, _, h => h
  | m + 1, i, z, n, h => by
    rw [sis]
    exact rw_sis sz m (i + 1) _ (rw_sij i _ h)
section Sums2
variable {n i j sz : Nat} {Q : Option Value → HP → Prop}
theorem l_spl (hij : i ≤ j) (hj : j ≤ n) (hsz : i + sz = j) (zf : Sg) (K : E mMod_sums 2 0 0 211 [(0, .ref 39), (1, .int (nI n)), (2, .int (nI sz)), (3, .int (nI i))] [] (hp zf) Q) : ∀ (p : Nat) (z : Sg), p ≤ 27 → rwOK z n → spl i j p z = zf → E mMod_sums 2 0 0 96 [(0, .ref 39), (1, .int (nI n)), (2, .int (nI sz)), (3, .int (nI i)), (4, .int (nI j)), (5, .int (nI p))] [] (hp z) Q := by
  intro p
  induction p with
  | zero =>
    intro z hpl h hz
    rw [spl] at hz
    subst hz
    refine E_iload dX11_sums_96 rfl ?_
    refine E_iconst (v := 1) dX11_sums_98 rfl ?_
    refine E_icmp_lt 211 dX11_sums_99 (by decide) (fun c_99 => ?_) (fun c_99 => ?_)
    · refine E.pick [0, 1, 2, 3] rfl ?_
      exact K
    · exact absurd (by decide) c_99
  | succ p ih =>
    intro z hpl h hz
    have hn := h.1
    rw [spl] at hz
    have tail : ∀ b : Int64, (if p + 1 = 27 ∧ i < j then 2305843009213693951 else b) = rsV z i j (p + 1) → E mMod_sums 2 0 0 173 [(0, .ref 39), (1, .int (nI n)), (2, .int (nI sz)), (3, .int (nI i)), (4, .int (nI j)), (5, .int (nI (p + 1))), (6, .long b)] [] (hp z) Q := by
      intro b hb
      have h9 := ih _ (by omega) (rw_L h 60 (vp_updL (z.L 60) (ixR i j (p + 1)) (rsV z i j (p + 1)))) hz
      refine E_aload_n dX11_sums_173 rfl ?_
      refine E_getf 35 dX11_sums_174 fl_X11_85 (by decide) (hg_39 _) rfl ?_
      refine E_iload_n dX11_sums_177 rfl ?_
      refine E_iload dX11_sums_178 rfl ?_
      refine E_iload dX11_sums_180 rfl ?_
      refine E_S3 dX11_sums_182 cs_X11_224 (Nat.le_of_ble_eq_true rfl) (Nat.le_of_ble_eq_true rfl) (c_index _ (i := i) (j := j) (p := p + 1) (by omega) (by omega) (by omega)) (by decide) (Nat.zero_le _) (Nat.zero_le _) ?_
      refine E_iload dX11_sums_185 rfl ?_
      refine E_bipush (v := 27) dX11_sums_187 rfl ?_
      refine E_icmp_ne 202 dX11_sums_189 (by decide) (fun c_189 => ?_) (fun c_189 => ?_)
      · refine E_lload dX11_sums_202 rfl ?_
        refine E_last dX11_sums_204 (by decide) (hg_60 _) (vp_in_nI (by omega) (by omega)) ?_
        rw [hs_60]
        rw [nI_clamp (by omega)]
        refine E_iincL (-1) dX11_sums_205 rfl rfl (by decide) rfl ?_
        rw [pk_m1]
        refine E_goto 96 dX11_sums_208 (by decide) ?_
        refine E.pick [1, 2, 3, 4, 5, 0] rfl ?_
        refine E.heq _ ?_ h9
        rw [← hb]
        first | rw [if_neg (fun h8 : p + 1 = 27 ∧ i < j => c_189 (by rw [h8.1]; rfl))] | rw [if_neg (fun h8 : p + 1 = 27 ∧ i < j => nI_nle (n := sz) (by omega) (by omega) c_193)] | rw [if_pos (show p + 1 = 27 ∧ i < j from ⟨(nI_eq (b := 27) (by omega) (by omega)).mp c_189, by rcases Nat.eq_zero_or_pos sz with h8 | h8; exact absurd (by rw [h8]; decide) c_193; omega⟩)]
      · refine E_iload_n dX11_sums_192 rfl ?_
        refine E_if_le 202 dX11_sums_193 (by decide) (fun c_193 => ?_) (fun c_193 => ?_)
        · refine E_lload dX11_sums_202 rfl ?_
          refine E_last dX11_sums_204 (by decide) (hg_60 _) (vp_in_nI (by omega) (by omega)) ?_
          rw [hs_60]
          rw [nI_clamp (by omega)]
          refine E_iincL (-1) dX11_sums_205 rfl rfl (by decide) rfl ?_
          rw [pk_m1]
          refine E_goto 96 dX11_sums_208 (by decide) ?_
          refine E.pick [1, 2, 3, 4, 5, 0] rfl ?_
          refine E.heq _ ?_ h9
          rw [← hb]
          first | rw [if_neg (fun h8 : p + 1 = 27 ∧ i < j => c_189 (by rw [h8.1]; rfl))] | rw [if_neg (fun h8 : p + 1 = 27 ∧ i < j => nI_nle (n := sz) (by omega) (by omega) c_193)] | rw [if_pos (show p + 1 = 27 ∧ i < j from ⟨(nI_eq (b := 27) (by omega) (by omega)).mp c_189, by rcases Nat.eq_zero_or_pos sz with h8 | h8; exact absurd (by rw [h8]; decide) c_193; omega⟩)]
        · refine E_ldc2 dX11_sums_196 k_233 ?_
          refine E_goto 204 dX11_sums_199 (by decide) ?_
          refine E_last dX11_sums_204 (by decide) (hg_60 _) (vp_in_nI (by omega) (by omega)) ?_
          rw [hs_60]
          rw [nI_clamp (by omega)]
          refine E_iincL (-1) dX11_sums_205 rfl rfl (by decide) rfl ?_
          rw [pk_m1]
          refine E_goto 96 dX11_sums_208 (by decide) ?_
          refine E.pick [1, 2, 3, 4, 5, 0] rfl ?_
          refine E.heq _ ?_ h9
          rw [← hb]
          first | rw [if_neg (fun h8 : p + 1 = 27 ∧ i < j => c_189 (by rw [h8.1]; rfl))] | rw [if_neg (fun h8 : p + 1 = 27 ∧ i < j => nI_nle (n := sz) (by omega) (by omega) c_193)] | rw [if_pos (show p + 1 = 27 ∧ i < j from ⟨(nI_eq (b := 27) (by omega) (by omega)).mp c_189, by rcases Nat.eq_zero_or_pos sz with h8 | h8; exact absurd (by rw [h8]; decide) c_193; omega⟩)]
    have mid : ∀ b : Int64, b = (if i < j then 9223372036854775807 else 0) → E mMod_sums 2 0 0 120 [(0, .ref 39), (1, .int (nI n)), (2, .int (nI sz)), (3, .int (nI i)), (4, .int (nI j)), (5, .int (nI (p + 1))), (6, .long b), (8, .int (nI (i + 1)))] [] (hp z) Q := by
      intro b hb
      by_cases h27 : p + 1 = 27
      · have t9 := tail b (by
          unfold rsV
          by_cases hlt : i < j
          · rw [if_pos ⟨h27, hlt⟩, if_pos ⟨h27, hlt⟩]
          · rw [if_neg (fun h8 => hlt h8.2), if_neg (fun h8 => hlt h8.2), if_pos h27, hb, if_neg hlt])
        refine E_iload dX11_sums_120 rfl ?_
        refine E_iload dX11_sums_122 rfl ?_
        refine E_icmp_gt 173 dX11_sums_124 (by decide) (fun c_124 => ?_) (fun c_124 => ?_)
        · refine E.pick [0, 1, 2, 3, 4, 5, 6] rfl ?_
          exact t9
        · refine E_iload dX11_sums_127 rfl ?_
          refine E_bipush (v := 27) dX11_sums_129 rfl ?_
          refine E_icmp_ge 173 dX11_sums_131 (by decide) (fun c_131 => ?_) (fun c_131 => ?_)
          · refine E.pick [0, 1, 2, 3, 4, 5, 6] rfl ?_
            exact t9
          · exact absurd (nI_le (a := 27) (by omega) (by omega)) c_131
      · have t9 := tail (skm z i j (p + 1) (j - i) (i + 1) b) (by
          unfold rsV
          rw [if_neg (fun h8 => h27 h8.1), if_neg (fun h8 => h27 h8.1), if_neg h27, hb])
        exact l_sk2 h hj (by omega) _ t9 (j - i) (i + 1) b (by omega) (by omega) rfl
    refine E_iload dX11_sums_96 rfl ?_
    refine E_iconst (v := 1) dX11_sums_98 rfl ?_
    refine E_icmp_lt 211 dX11_sums_99 (by decide) (fun c_99 => ?_) (fun c_99 => ?_)
    · exact absurd c_99 (nI_nlt (b := 1) (by omega) (by omega))
    · refine E_iload_n dX11_sums_102 rfl ?_
      refine E_if_ne 110 dX11_sums_103 (by decide) (fun c_103 => ?_) (fun c_103 => ?_)
      · refine E_ldc2 dX11_sums_110 k_218 ?_
        refine E_lstore dX11_sums_113 (by decide) rfl ?_
        refine E_iload_n dX11_sums_115 rfl ?_
        refine E_iconst (v := 1) dX11_sums_116 rfl ?_
        refine E_iadd dX11_sums_117 ?_
        rw [nI_1]
        refine E_istore dX11_sums_118 (by decide) rfl ?_
        refine E.pick [2, 3, 4, 5, 6, 7, 1, 0] rfl ?_
        first | exact mid 9223372036854775807 (by rw [if_pos (show i < j by rcases Nat.eq_zero_or_pos sz with h8 | h8; exact absurd (by rw [h8]; rfl) c_103; omega)]) | exact mid 0 (by rw [if_neg (show ¬ i < j from fun h8 => nI_ne0 (n := sz) (by omega) (by omega) c_103)])
      · refine E_lconst (v := 0) dX11_sums_106 rfl ?_
        refine E_goto 113 dX11_sums_107 (by decide) ?_
        refine E_lstore dX11_sums_113 (by decide) rfl ?_
        refine E_iload_n dX11_sums_115 rfl ?_
        refine E_iconst (v := 1) dX11_sums_116 rfl ?_
        refine E_iadd dX11_sums_117 ?_
        rw [nI_1]
        refine E_istore dX11_sums_118 (by decide) rfl ?_
        refine E.pick [2, 3, 4, 5, 6, 7, 1, 0] rfl ?_
        first | exact mid 9223372036854775807 (by rw [if_pos (show i < j by rcases Nat.eq_zero_or_pos sz with h8 | h8; exact absurd (by rw [h8]; rfl) c_103; omega)]) | exact mid 0 (by rw [if_neg (show ¬ i < j from fun h8 => nI_ne0 (n := sz) (by omega) (by omega) c_103)])
theorem l_sij (hn : n ≤ 26) {z : Sg} (h : rwOK z n) (hj : i + sz ≤ n) (K : E mMod_sums 2 0 0 9 [(0, .ref 39), (1, .int (nI n)), (2, .int (nI sz)), (3, .int (nI (i + 1)))] [] (hp (sij i (i + sz) z)) Q) : E mMod_sums 2 0 0 9 [(0, .ref 39), (1, .int (nI n)), (2, .int (nI sz)), (3, .int (nI i))] [] (hp z) Q := by
  have K2 : ∀ zf, zf = sij i (i + sz) z → E mMod_sums 2 0 0 211 [(0, .ref 39), (1, .int (nI n)), (2, .int (nI sz)), (3, .int (nI i))] [] (hp zf) Q := by
    intro zf hzf
    rw [hzf]
    refine E_iincL 1 dX11_sums_211 rfl rfl (by decide) rfl ?_
    rw [nI_1]
    refine E_goto 9 dX11_sums_214 (by decide) ?_
    refine E.pick [1, 2, 3, 0] rfl ?_
    exact K
  have he : (27 : Int32) * nI i + nI (i + sz) = nI (27 * i + (i + sz)) := by rw [show (27 : Int32) = nI 27 from rfl, pk_mul, nI_add]
  by_cases hs : i + 1 < i + sz
  · have hsj : sij i (i + sz) z = spl i (i + sz) 27 (stL z 61 (vp_updL (z.L 61) (27 * i + (i + sz)) (inV z i (i + sz)))) := by rw [sij, if_pos hs]
    have a1 : E mMod_sums 2 0 0 78 [(0, .ref 39), (1, .int (nI n)), (2, .int (nI sz)), (3, .int (nI i)), (4, .int (nI (i + sz))), (5, .long (inV z i (i + sz)))] [] (hp z) Q := by
      refine E_aload_n dX11_sums_78 rfl ?_
      refine E_getf 36 dX11_sums_79 fl_X11_89 (by decide) (hg_39 _) rfl ?_
      refine E_bipush (v := 27) dX11_sums_82 rfl ?_
      refine E_iload_n dX11_sums_84 rfl ?_
      refine E_imul dX11_sums_85 ?_
      refine E_iload dX11_sums_86 rfl ?_
      refine E_iadd dX11_sums_88 ?_
      rw [he]
      refine E_lload dX11_sums_89 rfl ?_
      refine E_last dX11_sums_91 (by decide) (hg_61 _) (vp_in_nI (by omega) (by omega)) ?_
      rw [hs_61]
      rw [nI_clamp (by omega)]
      refine E_bipush (v := 27) dX11_sums_92 rfl ?_
      refine E_istore dX11_sums_94 (by decide) rfl ?_
      refine E.pick [1, 2, 3, 4, 5, 0] rfl ?_
      exact l_spl (by omega) hj rfl (sij i (i + sz) z) (K2 _ rfl) 27 _ (by omega) (rw_L h _ _) hsj.symm
    refine E_iload_n dX11_sums_9 rfl ?_
    refine E_iload_n dX11_sums_10 rfl ?_
    refine E_iadd dX11_sums_11 ?_
    rw [nI_add]
    refine E_iload_n dX11_sums_12 rfl ?_
    refine E_icmp_gt 217 dX11_sums_13 (by decide) (fun c_13 => ?_) (fun c_13 => ?_)
    · exact absurd c_13 (nI_nlt (by omega) (by omega))
    · refine E_iload_n dX11_sums_16 rfl ?_
      refine E_iload_n dX11_sums_17 rfl ?_
      refine E_iadd dX11_sums_18 ?_
      rw [nI_add]
      refine E_istore dX11_sums_19 (by decide) rfl ?_
      refine E_iload_n dX11_sums_21 rfl ?_
      refine E_iconst (v := 1) dX11_sums_22 rfl ?_
      refine E_icmp_le 92 dX11_sums_23 (by decide) (fun c_23 => ?_) (fun c_23 => ?_)
      · exact absurd c_23 (nI_ge (a := 1) (by omega) (by omega))
      · refine E_ldc2 dX11_sums_26 k_218 ?_
        refine E_lstore dX11_sums_29 (by decide) rfl ?_
        refine E_iload_n dX11_sums_31 rfl ?_
        refine E_iconst (v := 1) dX11_sums_32 rfl ?_
        refine E_iadd dX11_sums_33 ?_
        rw [nI_1]
        refine E_istore dX11_sums_34 (by decide) rfl ?_
        refine E.pick [3, 4, 5, 6, 2, 1, 0] rfl ?_
        exact l_sk1 h hj (inV z i (i + sz)) a1 (i + sz - (i + 1)) (i + 1) _ (by omega) (by omega) rfl
  · have hsj : sij i (i + sz) z = spl i (i + sz) 27 z := by rw [sij, if_neg hs]
    refine E_iload_n dX11_sums_9 rfl ?_
    refine E_iload_n dX11_sums_10 rfl ?_
    refine E_iadd dX11_sums_11 ?_
    rw [nI_add]
    refine E_iload_n dX11_sums_12 rfl ?_
    refine E_icmp_gt 217 dX11_sums_13 (by decide) (fun c_13 => ?_) (fun c_13 => ?_)
    · exact absurd c_13 (nI_nlt (by omega) (by omega))
    · refine E_iload_n dX11_sums_16 rfl ?_
      refine E_iload_n dX11_sums_17 rfl ?_
      refine E_iadd dX11_sums_18 ?_
      rw [nI_add]
      refine E_istore dX11_sums_19 (by decide) rfl ?_
      refine E_iload_n dX11_sums_21 rfl ?_
      refine E_iconst (v := 1) dX11_sums_22 rfl ?_
      refine E_icmp_le 92 dX11_sums_23 (by decide) (fun c_23 => ?_) (fun c_23 => ?_)
      · refine E_bipush (v := 27) dX11_sums_92 rfl ?_
        refine E_istore dX11_sums_94 (by decide) rfl ?_
        refine E.pick [2, 3, 4, 5, 1, 0] rfl ?_
        exact l_spl (by omega) hj rfl (sij i (i + sz) z) (K2 _ rfl) 27 z (by omega) h hsj.symm
      · exact absurd (nI_le (b := 1) (by omega) (by omega)) c_23
theorem l_sis (hn : n ≤ 26) (hsz : sz ≤ n) (zf : Sg) (K : E mMod_sums 2 0 0 2 [(0, .ref 39), (1, .int (nI n)), (2, .int (nI (sz + 1)))] [] (hp zf) Q) : ∀ (m i : Nat) (z : Sg), i + m = n + 1 - sz → rwOK z n → sis sz m i z = zf → E mMod_sums 2 0 0 9 [(0, .ref 39), (1, .int (nI n)), (2, .int (nI sz)), (3, .int (nI i))] [] (hp z) Q := by
  intro m
  induction m with
  | zero =>
    intro i z hi h hz
    rw [sis] at hz
    subst hz
    refine E_iload_n dX11_sums_9 rfl ?_
    refine E_iload_n dX11_sums_10 rfl ?_
    refine E_iadd dX11_sums_11 ?_
    rw [nI_add]
    refine E_iload_n dX11_sums_12 rfl ?_
    refine E_icmp_gt 217 dX11_sums_13 (by decide) (fun c_13 => ?_) (fun c_13 => ?_)
    · refine E_iincL 1 dX11_sums_217 rfl rfl (by decide) rfl ?_
      rw [nI_1]
      refine E_goto 2 dX11_sums_220 (by decide) ?_
      refine E.pick [1, 2, 0] rfl ?_
      exact K
    · exact absurd (nI_lt (by omega) (by omega)) c_13
  | succ m ih =>
    intro i z hi h hz
    rw [sis] at hz
    exact l_sij hn h (by omega) (ih (i + 1) _ (by omega) (rw_sij i _ h) hz)
theorem l_ssz (hn : n ≤ 26) : ∀ (m sz : Nat) (z : Sg), sz + m = n + 1 → rwOK z n → E mMod_sums 2 0 0 2 [(0, .ref 39), (1, .int (nI n)), (2, .int (nI sz))] [] (hp z) (Det none (hp (ssz n m sz z))) := by
  intro m
  induction m with
  | zero =>
    intro sz z hs h
    refine E_iload_n dX11_sums_2 rfl ?_
    refine E_iload_n dX11_sums_3 rfl ?_
    refine E_icmp_gt 223 dX11_sums_4 (by decide) (fun c_4 => ?_) (fun c_4 => ?_)
    · exact E_vret dX11_sums_223 rfl ⟨rfl, rfl⟩
    · exact absurd (nI_lt (by omega) (by omega)) c_4
  | succ m ih =>
    intro sz z hs h
    rw [ssz]
    refine E_iload_n dX11_sums_2 rfl ?_
    refine E_iload_n dX11_sums_3 rfl ?_
    refine E_icmp_gt 223 dX11_sums_4 (by decide) (fun c_4 => ?_) (fun c_4 => ?_)
    · exact absurd c_4 (nI_nlt (by omega) (by omega))
    · refine E_iconst (v := 0) dX11_sums_7 rfl ?_
      refine E_istore_n dX11_sums_8 (by decide) rfl ?_
      refine E.pick [1, 2, 3, 0] rfl ?_
      exact l_sis hn (by omega) _ (ih (sz + 1) _ (by omega) (rw_sis sz _ 0 z h)) (n + 1 - sz) 0 z (by omega) h rfl
end Sums2
def zsm (n : Nat) (z : Sg) : Sg := ssz n (n + 1) 0 z
theorem c_sums {n : Nat} (hn : n ≤ 26) {z : Sg} (h : rwOK z n) : EM mMod_sums 2 0 0 [.ref 39, .int (nI n)] (hp z) (Det none (hp (zsm n z))) := by
  refine E_iconst (v := 0) dX11_sums_0 rfl ?_
  refine E_istore_n dX11_sums_1 (by decide) rfl ?_
  refine E.pick [1, 2, 0] rfl ?_
  exact l_ssz hn (n + 1) 0 z (by omega) h
