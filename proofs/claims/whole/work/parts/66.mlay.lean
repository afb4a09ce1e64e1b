/-! THE MODEL: lay -/
theorem ly_in {K : KF} {n : Nat} : ∀ (m g f j p : Nat) (w : Bool) (z : Sg) (N : Nat), hK z K n → j ≤ n → p ≤ f + 1 → 1 ≤ p → (w = true → f + 1 < j ∧ p = 1) → z.F 39 5 = nI N → N + 2 * (j - f) ≤ 60 + (if w = true then 1 else 0) → g < N → inOK N z → ∀ N', N' ≤ 60 → (lyM K m g f j p w z).F 39 5 = nI N' → inOK N' (lyM K m g f j p w z)
  | 0, g, f, j, p, w, z, N, hk, h2, h3, h4, h5, hF, hN, hg, hI, N', hN', hF' => by
    rw [lyM] at hF' ⊢
    have h9 : N = N' := by
      rw [hF] at hF'
      exact (nI_eq (by split at hN <;> omega) (by omega)).mp hF'
    exact h9 ▸ hI
  | m + 1, g, f, j, p, w, z, N, hk, h2, h3, h4, h5, hF, hN, hg, hI, N', hN', hF' => by
    rw [lyM] at hF' ⊢
    by_cases hj : j ≤ f
    · rw [if_pos hj] at hF' ⊢
      have h9 : N = N' := by
        rw [hF] at hF'
        exact (nI_eq (by split at hN <;> omega) (by omega)).mp hF'
      exact h9 ▸ hI
    · rw [if_neg hj] at hF' ⊢
      obtain ⟨a1, a2, a3, -, -⟩ := hk f j p w (by omega) h2 h3 h4 h5
      generalize hkk : K f j p w = k at a1 a2 a3 hF' ⊢
      have hN2 : N + 2 * (j - f) ≤ 60 ∨ (w = true ∧ N + 2 * (j - f) ≤ 61) := by
        by_cases hw : w = true
        · rw [if_pos hw] at hN; exact Or.inr ⟨hw, hN⟩
        · rw [if_neg hw] at hN; exact Or.inl hN
      have hN3 : N + 2 * (k - f) ≤ 60 := by
        rcases hN2 with h | ⟨h, h'⟩
        · omega
        · have := a3 h; omega
      have ha : ∀ q v, (zad z (nI g) q v).F 39 5 = nI (N + 1) := by
        intro q v
        show z.F 39 5 + 1 = nI (N + 1)
        rw [hF, nI_1]
      have hIa : ∀ q v, inOK (N + 1) (zad z (nI g) q v) := fun q v => by
        intro i h1 h2
        show ∃ g', g' < N + 1 ∧ upd (z.A 42) (z.F 39 5).toNatClampNeg (nI g) i = nI g'
        rw [hF, nI_clamp (by omega)]
        by_cases e : i = N
        · rw [e, pk_us]
          exact ⟨g, by omega, rfl⟩
        · obtain ⟨g', a, b⟩ := hI i h1 (by omega)
          exact ⟨g', by omega, by rw [pk_un e, b]⟩
      by_cases h1 : k - f = 1
      · rw [if_pos h1] at hF' ⊢
        exact ly_in m g k j (p + 1) false (zad z (nI g) 1 (z.A 62 f)) (N + 1) (hK_c (smL_zad z _ _ _) hk) h2 (by omega) (by omega) (fun h => absurd h (by decide)) (ha _ _) (by rw [if_neg (by decide)]; omega) (by omega) (hIa _ _) N' hN' hF'
      · rw [if_neg h1] at hF' ⊢
        obtain ⟨N1, b1, b2, b3⟩ := ly_N m (z.F 39 5).toNatClampNeg f k 1 true (zad z (nI g) 0 (-1)) (N + 1) (hK_c (smL_zad z _ _ _) hk) (by omega) (by omega) (by omega) (fun _ => by omega) (ha _ _) (by rw [if_pos rfl]; omega)
        rw [if_pos rfl] at b2
        have t1 := ly_in m (z.F 39 5).toNatClampNeg f k 1 true (zad z (nI g) 0 (-1)) (N + 1) (hK_c (smL_zad z _ _ _) hk) (by omega) (by omega) (by omega) (fun _ => by omega) (ha _ _) (by rw [if_pos rfl]; omega) (by rw [hF, nI_clamp (by omega)]; omega) (hIa _ _) N1 (by omega) b3
        exact ly_in m g k j (p + 1) false (lyM K m (z.F 39 5).toNatClampNeg f k 1 true (zad z (nI g) 0 (-1))) N1 (hK_c (smL_tr (smL_zad z _ _ _) (ly_same K m _ _ _ _ _ _)) hk) h2 (by omega) (by omega) (fun h => absurd h (by decide)) b3 (by rw [if_neg (by decide)]; omega) (by omega) t1 N' hN' hF'
abbrev ndp (z : Sg) (t : Nat) : Prop := ∀ a, a < t → ∀ b, b < a → ¬ z.A 54 a = z.A 54 b
abbrev mlP (z : Sg) (t : Nat) : Prop := mAll z t t ∧ ndp z t
def rcp (z : Sg) (i : Nat) : Sg := stA z 62 (fun j => if j < i then vp_nar .byte (z.A 54 j) else z.A 62 j)
def ml1 (z : Sg) (t : Nat) : Sg := stF (zsm t (stF (rcp (z00 z) t) 39 31 0)) 39 5 1
def ml2 (K : KF) (z : Sg) (t : Nat) : Sg := lyM K 60 0 0 t 1 (decide (1 < t)) (ml1 z t)
def ml3 (K : KF) (z : Sg) (t : Nat) : Sg := zlc ((ml2 K z t).F 39 5).toNatClampNeg (ml2 K z t)
def mlR (z : Sg) (t : Nat) : Int32 := (if 1 < t then (ml1 z t).L 61 t else (ml1 z t).L 60 (ixR 0 1 1)).toInt32
theorem L_lo1 : ∀ (m i : Nat) (z : Sg), (lo1 m i z).L = z.L
  | 0, _, _ => rfl
  | m + 1, i, z => by rw [lo1, L_lo1]; rfl
theorem L_lo2 : ∀ (i : Nat) (z : Sg), (lo2 i z).L = z.L
  | 0, _ => rfl
  | i + 1, z => by rw [lo2, L_lo2]; rfl
theorem L_lo3 : ∀ (m i : Nat) (z : Sg), (lo3 m i z).L = z.L
  | 0, _, _ => rfl
  | m + 1, i, z => by
    rw [lo3, L_lo3]
    split <;> rfl
theorem L_zlc (n : Nat) (z : Sg) : (zlc n z).L = z.L := by
  show (zlk n z).L = z.L
  unfold zlk
  rw [L_lo3, L_lo2, L_lo1]
theorem rw_ssz (n : Nat) : ∀ (m sz : Nat) (z : Sg) {k : Nat}, rwOK z k → rwOK (ssz n m sz z) k
  | 0, _, _, _, h => h
  | m + 1, sz, z, k, h => by
    rw [ssz]
    exact rw_ssz n m (sz + 1) _ (rw_sis sz _ 0 z h)
section Mlay
variable {t : Nat} {z : Sg} {Q : Option Value → HP → Prop}
theorem rcp_s {z : Sg} {i : Nat} : stA (rcp z i) 62 (upd ((rcp z i).A 62) i (vp_nar .byte (z.A 54 i))) = rcp z (i + 1) := by
  have h : (upd ((rcp z i).A 62) i (vp_nar .byte (z.A 54 i))) = (fun j => if j < i + 1 then vp_nar .byte (z.A 54 j) else z.A 62 j) := by
    funext j
    show upd (fun j => if j < i then vp_nar .byte (z.A 54 j) else z.A 62 j) i (vp_nar .byte (z.A 54 i)) j = _
    by_cases e : j = i
    · rw [e, pk_us, if_pos (by omega)]
    · rw [pk_un e]
      by_cases e2 : j < i
      · rw [if_pos e2, if_pos (by omega)]
      · rw [if_neg e2, if_neg (by omega)]
  rw [h]
  unfold rcp
  exact stA_stA _ _ _ _
theorem byI {x : Int32} (h1 : -128 ≤ x.toInt) (h2 : x.toInt < 128) : vp_nar .byte x = x := by
  show x.toInt8.toInt32 = x
  rw [i32_eq, Int8.toInt_toInt32, Int32.toInt_toInt8]
  refine Int.bmod_eq_of_le ?_ ?_ <;> omega
theorem byL {x : Int32} (h : isL x) : vp_nar .byte x = x := byI (by have := h.1; omega) (by have := h.2; omega)
theorem l_rcp (hT : z.F 39 31 = nI t) (ht : t ≤ 26) (K : E mMod_lay 30 0 0 90 [(0, .ref 39), (1, .int (nI t))] [] (hp (rcp z t)) Q) : ∀ (m i : Nat), i + m = t → E mMod_lay 30 0 0 67 [(0, .ref 39), (1, .int (nI t)), (2, .int (nI i))] [] (hp (rcp z i)) Q := by
  intro m
  induction m with
  | zero =>
    intro i hi
    refine E_iload_n dX11_lay_67 rfl ?_
    refine E_iload_n dX11_lay_68 rfl ?_
    refine E_icmp_ge 90 dX11_lay_69 (by decide) (fun c_69 => ?_) (fun c_69 => ?_)
    · refine E.pick [0, 1] rfl ?_
      rw [show i = t by omega]
      exact K
    · exact absurd (nI_le (by omega) (by omega)) c_69
  | succ m ih =>
    intro i hi
    have h9 := ih (i + 1) (by omega)
    refine E_iload_n dX11_lay_67 rfl ?_
    refine E_iload_n dX11_lay_68 rfl ?_
    refine E_icmp_ge 90 dX11_lay_69 (by decide) (fun c_69 => ?_) (fun c_69 => ?_)
    · exact absurd c_69 (nI_ge (by omega) (by omega))
    · refine E_aload_n dX11_lay_72 rfl ?_
      refine E_getf 37 dX11_lay_73 fl_X11_92 (by decide) (hg_39 _) rfl ?_
      refine E_iload_n dX11_lay_76 rfl ?_
      refine E_aload_n dX11_lay_77 rfl ?_
      refine E_getf 27 dX11_lay_78 fl_X11_67 (by decide) (hg_39 _) rfl ?_
      refine E_iload_n dX11_lay_81 rfl ?_
      refine E_bald dX11_lay_82 (by decide) (hg_54 _) (vp_in_nI (by omega) (by omega)) ?_
      refine E_bast (f := (rcp z i).A 62) dX11_lay_83 (by decide) (hg_62 _) (vp_in_nI (by omega) (by omega)) ?_
      rw [hs_62]
      rw [nI_clamp (by omega)]
      refine E_iincL 1 dX11_lay_84 rfl rfl (by decide) rfl ?_
      rw [nI_1]
      refine E_goto 67 dX11_lay_87 (by decide) ?_
      refine E.pick [1, 2, 0] rfl ?_
      exact E.heq _ (congrArg hp rcp_s) h9
theorem l_dpb (hT : z.F 39 31 = nI t) (ht : t ≤ 26) {a : Nat} (ha : a < t) (K1 : (∀ b, b < a → ¬ z.A 54 a = z.A 54 b) → E mMod_lay 30 0 0 54 [(0, .ref 39), (1, .int (nI a))] [] (hp z) Q) (K2 : (∃ b, b < a ∧ z.A 54 a = z.A 54 b) → Q (some (.int (-1))) (hp z)) : ∀ (m b : Nat), b + m = a → (∀ c, c < b → ¬ z.A 54 a = z.A 54 c) → E mMod_lay 30 0 0 26 [(0, .ref 39), (1, .int (nI a)), (2, .int (nI b))] [] (hp z) Q := by
  have hca : (nI a).toNatClampNeg = a := nI_clamp (by omega)
  intro m
  induction m with
  | zero =>
    intro b hb hd
    refine E_iload_n dX11_lay_26 rfl ?_
    refine E_iload_n dX11_lay_27 rfl ?_
    refine E_icmp_ge 54 dX11_lay_28 (by decide) (fun c_28 => ?_) (fun c_28 => ?_)
    · refine E.pick [0, 1] rfl ?_
      exact K1 (fun c hc => hd c (by omega))
    · exact absurd (nI_le (by omega) (by omega)) c_28
  | succ m ih =>
    intro b hb hd
    have hcb : (nI b).toNatClampNeg = b := nI_clamp (by omega)
    refine E_iload_n dX11_lay_26 rfl ?_
    refine E_iload_n dX11_lay_27 rfl ?_
    refine E_icmp_ge 54 dX11_lay_28 (by decide) (fun c_28 => ?_) (fun c_28 => ?_)
    · exact absurd c_28 (nI_ge (by omega) (by omega))
    · refine E_aload_n dX11_lay_31 rfl ?_
      refine E_getf 27 dX11_lay_32 fl_X11_67 (by decide) (hg_39 _) rfl ?_
      refine E_iload_n dX11_lay_35 rfl ?_
      refine E_bald dX11_lay_36 (by decide) (hg_54 _) (vp_in_nI (by omega) (by omega)) ?_
      refine E_aload_n dX11_lay_37 rfl ?_
      refine E_getf 27 dX11_lay_38 fl_X11_67 (by decide) (hg_39 _) rfl ?_
      refine E_iload_n dX11_lay_41 rfl ?_
      refine E_bald dX11_lay_42 (by decide) (hg_54 _) (vp_in_nI (by omega) (by omega)) ?_
      rw [hca, hcb]
      refine E_icmp_ne 48 dX11_lay_43 (by decide) (fun c_43 => ?_) (fun c_43 => ?_)
      · refine E_iincL 1 dX11_lay_48 rfl rfl (by decide) rfl ?_
        rw [nI_1]
        refine E_goto 26 dX11_lay_51 (by decide) ?_
        refine E.pick [1, 2, 0] rfl ?_
        exact ih (b + 1) (by omega) (fun c hc => by by_cases e : c = b; exact e ▸ c_43; exact hd c (by omega))
      · refine E_iconst (v := (-1)) dX11_lay_46 rfl ?_
        exact E_iret dX11_lay_47 rfl rfl (K2 ⟨b, by omega, c_43⟩)
theorem l_dpa (hT : z.F 39 31 = nI t) (ht : t ≤ 26) (K1 : ndp z t → E mMod_lay 30 0 0 60 [(0, .ref 39)] [] (hp z) Q) (K2 : ¬ ndp z t → Q (some (.int (-1))) (hp z)) : ∀ (m a : Nat), a + m = t → ndp z a → E mMod_lay 30 0 0 16 [(0, .ref 39), (1, .int (nI a))] [] (hp z) Q := by
  intro m
  induction m with
  | zero =>
    intro a ha hd
    refine E_iload_n dX11_lay_16 rfl ?_
    refine E_aload_n dX11_lay_17 rfl ?_
    refine E_getf 31 dX11_lay_18 fl_X11_181 (by decide) (hg_39 _) rfl ?_
    rw [hT]
    refine E_icmp_ge 60 dX11_lay_21 (by decide) (fun c_21 => ?_) (fun c_21 => ?_)
    · refine E.pick [0] rfl ?_
      exact K1 (show ndp z t by rw [show t = a by omega]; exact hd)
    · exact absurd (nI_le (by omega) (by omega)) c_21
  | succ m ih =>
    intro a ha hd
    have st : (∀ b, b < a → ¬ z.A 54 a = z.A 54 b) → E mMod_lay 30 0 0 54 [(0, .ref 39), (1, .int (nI a))] [] (hp z) Q := by
      intro h9
      refine E_iincL 1 dX11_lay_54 rfl rfl (by decide) rfl ?_
      rw [nI_1]
      refine E_goto 16 dX11_lay_57 (by decide) ?_
      refine E.pick [1, 0] rfl ?_
      exact ih (a + 1) (by omega) (fun a2 h2 b hb => by by_cases e : a2 = a; exact e ▸ h9 b (by omega); exact hd a2 (by omega) b hb)
    refine E_iload_n dX11_lay_16 rfl ?_
    refine E_aload_n dX11_lay_17 rfl ?_
    refine E_getf 31 dX11_lay_18 fl_X11_181 (by decide) (hg_39 _) rfl ?_
    rw [hT]
    refine E_icmp_ge 60 dX11_lay_21 (by decide) (fun c_21 => ?_) (fun c_21 => ?_)
    · exact absurd c_21 (nI_ge (by omega) (by omega))
    · refine E_iconst (v := 0) dX11_lay_24 rfl ?_
      refine E_istore_n dX11_lay_25 (by decide) rfl ?_
      refine E.pick [1, 2, 0] rfl ?_
      exact l_dpb hT ht (by omega) st (fun h8 => K2 (fun h7 => by obtain ⟨b, hb, e⟩ := h8; exact h7 a (by omega) b hb e)) a 0 (by omega) (fun c hc => absurd hc (Nat.not_lt_zero c))
theorem c_Mod_lay (K : KF) (hT : z.F 39 31 = nI t) (ht : t ≤ 26) (hk : mlP z t → hK (ml1 z t) K t) : EM mMod_lay 30 0 0 [.ref 39] (hp z) (Det (some (.int (if mlP z t then mlR z t else (-1)))) (hp (if mlP z t then ml3 K z t else z00 z))) := by
  by_cases hm : mlP z t
  · rw [if_pos hm, if_pos hm]
    have h1t : 1 ≤ t := hm.1.1
    have hrw : rwOK (stF (rcp (z00 z) t) 39 31 0) t := by
      refine ⟨ht, fun j hj => ?_⟩
      show isL (if j < t then vp_nar .byte (z.A 54 j) else z.A 62 j)
      rw [if_pos hj, byL (hm.1.2 j hj)]
      exact hm.1.2 j hj
    have hrw1 : rwOK (ml1 z t) t := rw_ssz t (t + 1) 0 _ hrw
    have hkk := hk hm
    obtain ⟨N, b1, b2, b3⟩ := ly_N (K := K) 60 0 0 t 1 (decide (1 < t)) (ml1 z t) 1 hkk (Nat.le_refl t) (by omega) (by omega) (fun h => by have := of_decide_eq_true h; omega) rfl (by split <;> omega)
    have hN : N ≤ 60 := by split at b2 <;> (try split at b2) <;> omega
    have hin := ly_in (K := K) 60 0 0 t 1 (decide (1 < t)) (ml1 z t) 1 hkk (Nat.le_refl t) (by omega) (by omega) (fun h => by have := of_decide_eq_true h; omega) rfl (by split <;> omega) (by omega) (fun i h1 h2 => absurd h2 (by omega)) N hN b3
    have hsm := ly_same K 60 0 0 t 1 (decide (1 < t)) (ml1 z t)
    have hb3 : ((ml2 K z t).F 39 5).toNatClampNeg = N := by
      show ((lyM K 60 0 0 t 1 (decide (1 < t)) (ml1 z t)).F 39 5).toNatClampNeg = N
      rw [b3, nI_clamp (by omega)]
    have hlk := c_looks (n := N) (by omega) hN (ml2 K z t) b3 hin
    have hly : ∀ b : Int32, b = b2i (decide (1 < t) = true) → EM mMod_lays 29 0 0 [.ref 39, .int 0, .int 0, .int (nI t), .int 1, .int b] (hp (ml1 z t)) (Det none (hp (ml2 K z t))) := by
      intro b hb
      have t9 := l_ly (K := K) (n := t) 60 29 0 0 t 1 (decide (1 < t)) (ml1 z t) 1 0 1 b hrw1 hkk (Nat.le_refl t) (by omega) (by omega) (by omega) (fun h => by have := of_decide_eq_true h; omega) rfl (by split <;> omega) (by split <;> omega) (by split <;> omega)
      rw [← hb] at t9
      refine E_iload_n dX11_lays_0 rfl ?_
      refine E_istore dX11_lays_1 (by decide) rfl ?_
      refine E_iload dX11_lays_3 rfl ?_
      refine E_istore dX11_lays_5 (by decide) rfl ?_
      refine E_iload dX11_lays_7 rfl ?_
      refine E_istore dX11_lays_9 (by decide) rfl ?_
      refine E.pick [3, 4, 5, 6, 7, 8, 2, 1, 0] rfl ?_
      exact t9
    have hL : (zlc N (ml2 K z t)).L = (ml1 z t).L := by rw [L_zlc]; exact hsm.2.2.2
    have fin : E mMod_lay 30 0 0 132 [(0, .ref 39), (1, .int (nI t))] [] (hp (zlc N (ml2 K z t))) (Det (some (.int (mlR z t))) (hp (ml3 K z t))) := by
      refine E_iload_n dX11_lay_132 rfl ?_
      refine E_iconst (v := 1) dX11_lay_133 rfl ?_
      refine E_icmp_le 146 dX11_lay_134 (by decide) (fun c_134 => ?_) (fun c_134 => ?_)
      · refine E_aload_n dX11_lay_146 rfl ?_
        refine E_getf 35 dX11_lay_147 fl_X11_85 (by decide) (hg_39 _) rfl ?_
        refine E_iconst (v := 0) dX11_lay_150 rfl ?_
        refine E_iconst (v := 1) dX11_lay_151 rfl ?_
        refine E_iconst (v := 1) dX11_lay_152 rfl ?_
        refine E_S3 dX11_lay_153 cs_X11_224 (Nat.le_of_ble_eq_true rfl) (Nat.le_of_ble_eq_true rfl) (c_index _ (i := 0) (j := 1) (p := 1) (by omega) (by omega) (by omega)) (by decide) (Nat.zero_le _) (Nat.zero_le _) ?_
        refine E_lald dX11_lay_156 (by decide) (hg_60 _) (vp_in_nI (by omega) (by omega)) ?_
        try rw [nI_clamp (by omega), hL]
        refine E_l2i dX11_lay_157 ?_
        exact E_iret dX11_lay_158 rfl rfl ⟨by first | (rw [mlR, if_neg (show ¬ 1 < t from fun h9 => nI_ge (a := 1) h9 (by omega) c_134)]) | (rw [mlR, if_pos (show 1 < t by rcases Nat.lt_or_ge 1 t with h9 | h9; exact h9; exact absurd (nI_le (b := 1) h9 (by omega)) c_134)]), by rw [ml3, hb3]⟩
      · refine E_aload_n dX11_lay_137 rfl ?_
        refine E_getf 36 dX11_lay_138 fl_X11_89 (by decide) (hg_39 _) rfl ?_
        refine E_iload_n dX11_lay_141 rfl ?_
        refine E_lald dX11_lay_142 (by decide) (hg_61 _) (vp_in_nI (by omega) (by omega)) ?_
        rw [nI_clamp (by omega), hL]
        refine E_goto 157 dX11_lay_143 (by decide) ?_
        try rw [nI_clamp (by omega), hL]
        refine E_l2i dX11_lay_157 ?_
        exact E_iret dX11_lay_158 rfl rfl ⟨by first | (rw [mlR, if_neg (show ¬ 1 < t from fun h9 => nI_ge (a := 1) h9 (by omega) c_134)]) | (rw [mlR, if_pos (show 1 < t by rcases Nat.lt_or_ge 1 t with h9 | h9; exact h9; exact absurd (nI_le (b := 1) h9 (by omega)) c_134)]), by rw [ml3, hb3]⟩
    have cpd : E mMod_lay 30 0 0 90 [(0, .ref 39), (1, .int (nI t))] [] (hp (rcp (z00 z) t)) (Det (some (.int (mlR z t))) (hp (ml3 K z t))) := by
      refine E_aload_n dX11_lay_90 rfl ?_
      refine E_iconst (v := 0) dX11_lay_91 rfl ?_
      refine E_put 31 dX11_lay_92 fp_X11_181 (fitsV_int _) (by decide) (hg_39 _) (Nat.le_of_ble_eq_true rfl) ?_
      rw [hs_39_31]
      refine E_aload_n dX11_lay_95 rfl ?_
      refine E_iload_n dX11_lay_96 rfl ?_
      refine E_V1 dX11_lay_97 cv_X11_239 (by decide) (hg_39 _) rfl rfl (Nat.le_of_ble_eq_true rfl) (Nat.le_of_ble_eq_true rfl) (c_sums ht hrw) (by decide) (Nat.zero_le _) (Nat.zero_le _) ?_
      refine E_aload_n dX11_lay_100 rfl ?_
      refine E_iconst (v := 1) dX11_lay_101 rfl ?_
      refine E_put 5 dX11_lay_102 fp_X11_22 (fitsV_int _) (by decide) (hg_39 _) (Nat.le_of_ble_eq_true rfl) ?_
      rw [hs_39_5]
      refine E_aload_n dX11_lay_105 rfl ?_
      refine E_iconst (v := 0) dX11_lay_106 rfl ?_
      refine E_iconst (v := 0) dX11_lay_107 rfl ?_
      refine E_iload_n dX11_lay_108 rfl ?_
      refine E_iconst (v := 1) dX11_lay_109 rfl ?_
      refine E_iload_n dX11_lay_110 rfl ?_
      refine E_iconst (v := 1) dX11_lay_111 rfl ?_
      refine E_icmp_le 119 dX11_lay_112 (by decide) (fun c_112 => ?_) (fun c_112 => ?_)
      · refine E_iconst (v := 0) dX11_lay_119 rfl ?_
        refine E_V5 dX11_lay_120 cv_X11_235 (by decide) (hg_39 _) rfl rfl (Nat.le_of_ble_eq_true rfl) (Nat.le_of_ble_eq_true rfl) (hly _ (by first | rw [b2i_f (show ¬ decide (1 < t) = true from fun h9 => nI_ge (a := 1) (of_decide_eq_true h9) (by omega) c_112)] | rw [b2i_t (show decide (1 < t) = true from decide_eq_true (by rcases Nat.lt_or_ge 1 t with h9 | h9; exact h9; exact absurd (nI_le (b := 1) h9 (by omega)) c_112))])) (by decide) (Nat.zero_le _) (Nat.zero_le _) ?_
        refine E_aload_n dX11_lay_123 rfl ?_
        refine E_V0 dX11_lay_124 cv_X11_95 (by decide) (hg_39 _) rfl rfl (Nat.le_of_ble_eq_true rfl) (Nat.le_of_ble_eq_true rfl) (hlk) (by decide) (Nat.zero_le _) (Nat.zero_le _) ?_
        refine E_aload_n dX11_lay_127 rfl ?_
        refine E_iconst (v := 0) dX11_lay_128 rfl ?_
        refine E_V1 dX11_lay_129 cv_X11_131 (by decide) (hg_39 _) rfl rfl (Nat.le_of_ble_eq_true rfl) (Nat.le_of_ble_eq_true rfl) (c_comes _ 0) (by decide) (Nat.zero_le _) (Nat.zero_le _) ?_
        exact fin
      · refine E_iconst (v := 1) dX11_lay_115 rfl ?_
        refine E_goto 120 dX11_lay_116 (by decide) ?_
        refine E_V5 dX11_lay_120 cv_X11_235 (by decide) (hg_39 _) rfl rfl (Nat.le_of_ble_eq_true rfl) (Nat.le_of_ble_eq_true rfl) (hly _ (by first | rw [b2i_f (show ¬ decide (1 < t) = true from fun h9 => nI_ge (a := 1) (of_decide_eq_true h9) (by omega) c_112)] | rw [b2i_t (show decide (1 < t) = true from decide_eq_true (by rcases Nat.lt_or_ge 1 t with h9 | h9; exact h9; exact absurd (nI_le (b := 1) h9 (by omega)) c_112))])) (by decide) (Nat.zero_le _) (Nat.zero_le _) ?_
        refine E_aload_n dX11_lay_123 rfl ?_
        refine E_V0 dX11_lay_124 cv_X11_95 (by decide) (hg_39 _) rfl rfl (Nat.le_of_ble_eq_true rfl) (Nat.le_of_ble_eq_true rfl) (hlk) (by decide) (Nat.zero_le _) (Nat.zero_le _) ?_
        refine E_aload_n dX11_lay_127 rfl ?_
        refine E_iconst (v := 0) dX11_lay_128 rfl ?_
        refine E_V1 dX11_lay_129 cv_X11_131 (by decide) (hg_39 _) rfl rfl (Nat.le_of_ble_eq_true rfl) (Nat.le_of_ble_eq_true rfl) (c_comes _ 0) (by decide) (Nat.zero_le _) (Nat.zero_le _) ?_
        exact fin
    have dp := l_dpa (z := z00 z) (t := t) (Q := Det (some (.int (mlR z t))) (hp (ml3 K z t))) hT ht (fun _ => by
      refine E_aload_n dX11_lay_60 rfl ?_
      refine E_getf 31 dX11_lay_61 fl_X11_181 (by decide) (hg_39 _) rfl ?_
      rw [show (z00 z).F 39 31 = nI t from hT]
      refine E_istore_n dX11_lay_64 (by decide) rfl ?_
      refine E_iconst (v := 0) dX11_lay_65 rfl ?_
      refine E_istore_n dX11_lay_66 (by decide) rfl ?_
      refine E.pick [2, 1, 0] rfl ?_
      exact E.heq _ (congrArg hp (show z00 z = rcp (z00 z) 0 from (stA_self _ _).symm)) (l_rcp (z := z00 z) hT ht cpd t 0 (by omega))
      ) (fun h9 => absurd hm.2 h9) t 0 (by omega) (fun a ha => absurd ha (Nat.not_lt_zero a))
    refine E_aload_n dX11_lay_0 rfl ?_
    refine E_iconst (v := 0) dX11_lay_1 rfl ?_
    refine E_put 0 dX11_lay_2 fp_X11_98 (fitsV_int _) (by decide) (hg_39 _) (Nat.le_of_ble_eq_true rfl) ?_
    rw [hs_39_0]
    refine E_aload_n dX11_lay_5 rfl ?_
    refine E_V0 dX11_lay_6 cv_X11_187 (by decide) (hg_39 _) rfl rfl (Nat.le_of_ble_eq_true rfl) (Nat.le_of_ble_eq_true rfl) (c_Mod_isRow (z := z00 z) ht hT) (by decide) (Nat.zero_le _) (Nat.zero_le _) ?_
    refine E_if_ne 14 dX11_lay_9 (by decide) (fun c_9 => ?_) (fun c_9 => ?_)
    · refine E_iconst (v := 0) dX11_lay_14 rfl ?_
      refine E_istore_n dX11_lay_15 (by decide) rfl ?_
      refine E.pick [1, 0] rfl ?_
      exact dp
    · exact absurd hm.1 (b2i_e0 c_9)
  · rw [if_neg hm, if_neg hm]
    refine E_aload_n dX11_lay_0 rfl ?_
    refine E_iconst (v := 0) dX11_lay_1 rfl ?_
    refine E_put 0 dX11_lay_2 fp_X11_98 (fitsV_int _) (by decide) (hg_39 _) (Nat.le_of_ble_eq_true rfl) ?_
    rw [hs_39_0]
    refine E_aload_n dX11_lay_5 rfl ?_
    refine E_V0 dX11_lay_6 cv_X11_187 (by decide) (hg_39 _) rfl rfl (Nat.le_of_ble_eq_true rfl) (Nat.le_of_ble_eq_true rfl) (c_Mod_isRow (z := z00 z) ht hT) (by decide) (Nat.zero_le _) (Nat.zero_le _) ?_
    refine E_if_ne 14 dX11_lay_9 (by decide) (fun c_9 => ?_) (fun c_9 => ?_)
    · refine E_iconst (v := 0) dX11_lay_14 rfl ?_
      refine E_istore_n dX11_lay_15 (by decide) rfl ?_
      refine E.pick [1, 0] rfl ?_
      exact l_dpa (z := z00 z) hT ht (fun h9 => absurd ⟨b2i_ne c_9, h9⟩ hm) (fun _ => ⟨rfl, rfl⟩) t 0 (by omega) (fun a ha => absurd ha (Nat.not_lt_zero a))
    · refine E_iconst (v := (-1)) dX11_lay_12 rfl ?_
      exact E_iret dX11_lay_13 rfl rfl ⟨rfl, rfl⟩
end Mlay
