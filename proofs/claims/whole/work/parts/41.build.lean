/-! THE PLAN: build; lay -/
/-- a tray: its size, and each node's group below it -/
def trOK (z : Sg) (n : Nat) : Prop := z.F 6 10 = nI n ∧ 1 ≤ n ∧ n ≤ 60 ∧ ∀ x, 0 < x → x < n → ∃ g, g < x ∧ z.A 9 x = nI g
def enOK (z : Sg) : Prop := ∀ x, x < 60 → ∃ e, e ≤ 26 ∧ z.A 38 x = nI e
def opn (z : Sg) (s : Nat) : Nat → Nat → Nat
  | 0, o => o
  | m + 1, o => if o = 0 ∨ ¬ z.A 38 o ≤ nI s then o else opn z s m (z.A 9 o).toNatClampNeg
theorem opn_le {z : Sg} {n : Nat} (h : trOK z n) (s : Nat) : ∀ (m o : Nat), o < n → opn z s m o ≤ o
  | 0, o, _ => Nat.le_refl o
  | m + 1, o, ho => by
    rw [opn]
    split
    · exact Nat.le_refl o
    · next hc =>
      have h0 : 0 < o := by omega
      obtain ⟨g, h1, h2⟩ := h.2.2.2 o h0 ho
      have hn := h.2.2.1
      rw [h2, nI_clamp (by omega)]
      have := opn_le h s m g (by omega)
      omega
theorem l_opn {z : Sg} {n : Nat} (h : trOK z n) (s g0 : Nat) : ∀ (m i o : Nat), i + m = 60 → o < n → E mPlan_openAt 2 0 0 6 [(0, .ref 35), (1, .int (nI s)), (2, .int (nI g0)), (3, .ref 6), (4, .int (nI o)), (5, .int (nI i))] [] (hp z) (Det (some (.int (nI (opn z s m o)))) (hp z)) := by
  have hn := h.2.2.1
  have hs : (z.F 6 10).toInt ≤ 60 := by rw [h.1, nI_toInt (by omega)]; omega
  intro m
  induction m with
  | zero =>
    intro i o hi ho
    refine E_iload dX5_openAt_6 rfl ?_
    refine E_bipush (v := 60) dX5_openAt_8 rfl ?_
    refine E_icmp_ge 43 dX5_openAt_10 (by decide) (fun c_10 => ?_) (fun c_10 => ?_)
    · refine E_iload dX5_openAt_43 rfl ?_
      refine E_iconst (v := 0) dX5_openAt_45 rfl ?_
      refine E_mmax dX5_openAt_46 mt_X5_79 (by decide) (Nat.le_of_ble_eq_true rfl) ?_
      rw [if_neg (show ¬ nI o < 0 from nI_pos (by omega))]
      exact E_iret dX5_openAt_49 rfl rfl ⟨rfl, rfl⟩
    · exact absurd (nI_le (a := 60) (by omega) (by omega)) c_10
  | succ m ih =>
    intro i o hi ho
    have hcl : (nI o).toNatClampNeg = o := nI_clamp (by omega)
    refine E_iload dX5_openAt_6 rfl ?_
    refine E_bipush (v := 60) dX5_openAt_8 rfl ?_
    refine E_icmp_ge 43 dX5_openAt_10 (by decide) (fun c_10 => ?_) (fun c_10 => ?_)
    · exact absurd c_10 (nI_ge (b := 60) (by omega) (by omega))
    · refine E_iload dX5_openAt_13 rfl ?_
      refine E_if_le 43 dX5_openAt_15 (by decide) (fun c_15 => ?_) (fun c_15 => ?_)
      · refine E_iload dX5_openAt_43 rfl ?_
        refine E_iconst (v := 0) dX5_openAt_45 rfl ?_
        refine E_mmax dX5_openAt_46 mt_X5_79 (by decide) (Nat.le_of_ble_eq_true rfl) ?_
        rw [if_neg (show ¬ nI o < 0 from nI_pos (by omega))]
        exact E_iret dX5_openAt_49 rfl rfl ⟨by first | (rw [opn, if_pos (Or.inl (show o = 0 by rcases Nat.eq_zero_or_pos o with h9 | h9; exact h9; exact absurd c_15 (nI_nle h9 (by omega))))]) | (rw [opn, if_pos (Or.inr (show ¬ z.A 38 o ≤ nI s by rw [i32_le]; rw [i32_lt] at c_26; exact Int.not_le.mpr c_26))]), rfl⟩
      · refine E_aload_n dX5_openAt_18 rfl ?_
        refine E_getf 4 dX5_openAt_19 fl_X5_22 (by decide) (hg_35 _) rfl ?_
        refine E_iload dX5_openAt_22 rfl ?_
        refine E_iald dX5_openAt_24 (by decide) (hg_38 _) (vp_in_nI (by omega) (by omega)) ?_
        refine E_iload_n dX5_openAt_25 rfl ?_
        rw [hcl]
        refine E_icmp_gt 43 dX5_openAt_26 (by decide) (fun c_26 => ?_) (fun c_26 => ?_)
        · refine E_iload dX5_openAt_43 rfl ?_
          refine E_iconst (v := 0) dX5_openAt_45 rfl ?_
          refine E_mmax dX5_openAt_46 mt_X5_79 (by decide) (Nat.le_of_ble_eq_true rfl) ?_
          rw [if_neg (show ¬ nI o < 0 from nI_pos (by omega))]
          exact E_iret dX5_openAt_49 rfl rfl ⟨by first | (rw [opn, if_pos (Or.inl (show o = 0 by rcases Nat.eq_zero_or_pos o with h9 | h9; exact h9; exact absurd c_15 (nI_nle h9 (by omega))))]) | (rw [opn, if_pos (Or.inr (show ¬ z.A 38 o ≤ nI s by rw [i32_le]; rw [i32_lt] at c_26; exact Int.not_le.mpr c_26))]), rfl⟩
        · refine E_aload_n dX5_openAt_29 rfl ?_
          refine E_iload dX5_openAt_30 rfl ?_
          refine E_V1 dX5_openAt_32 cv_X5_76 (by decide) (hg_6 _) rfl rfl (Nat.le_of_ble_eq_true rfl) (Nat.le_of_ble_eq_true rfl) (c_groupOf z hs (nI o)) (by decide) (Nat.zero_le _) (Nat.zero_le _) ?_
          have h0 : 0 < o := by
            rcases Nat.eq_zero_or_pos o with h9 | h9
            · exact absurd (by rw [h9]; decide) c_15
            · exact h9
          obtain ⟨g, hg1, hg2⟩ := h.2.2.2 o h0 ho
          rw [tg_at h.1 hn ho, hg2]
          refine E_istore dX5_openAt_35 (by decide) rfl ?_
          refine E_iincL 1 dX5_openAt_37 rfl rfl (by decide) rfl ?_
          rw [nI_1]
          refine E_goto 6 dX5_openAt_40 (by decide) ?_
          refine E.pick [2, 3, 4, 5, 1, 0] rfl ?_
          rw [opn, if_neg (show ¬ (o = 0 ∨ ¬ z.A 38 o ≤ nI s) from fun h9 => h9.elim (fun h8 => by omega) (fun h8 => h8 (by rw [i32_le]; rw [i32_lt] at c_26; exact Int.not_lt.mp c_26))), hg2, nI_clamp (by omega)]
          exact ih (i + 1) g (by omega) (by omega)
theorem c_openAt {z : Sg} {n : Nat} (h : trOK z n) (s o : Nat) (ho : o < n) : EM mPlan_openAt 2 0 0 [.ref 35, .int (nI s), .int (nI o), .ref 6] (hp z) (Det (some (.int (nI (opn z s 60 o)))) (hp z)) := by
  refine E_iload_n dX5_openAt_0 rfl ?_
  refine E_istore dX5_openAt_1 (by decide) rfl ?_
  refine E_iconst (v := 0) dX5_openAt_3 rfl ?_
  refine E_istore dX5_openAt_4 (by decide) rfl ?_
  refine E.pick [2, 3, 4, 5, 1, 0] rfl ?_
  exact l_opn h s o 60 0 o (by omega) ho
def addz (z : Sg) (g k v : Int32) : Sg := if addOK z g k v then zadd z g k v else z
theorem trOK_add {z : Sg} {n g : Nat} (h : trOK z n) (hn : n < 60) (hg : g < n) (k v : Int32) : trOK (zadd z (nI g) k v) (n + 1) := by
  refine ⟨?_, by omega, by omega, fun x h1 h2 => ?_⟩
  · show z.F 6 10 + 1 = nI (n + 1)
    rw [h.1, nI_1]
  · show ∃ g', g' < x ∧ upd (z.A 9) (z.F 6 10).toNatClampNeg (nI g) x = nI g'
    rw [h.1, nI_clamp (by omega)]
    by_cases e : x = n
    · rw [e, pk_us]
      exact ⟨g, by omega, rfl⟩
    · rw [pk_un e]
      exact h.2.2.2 x h1 (by omega)
def bld (n : Nat) : Nat → Nat → Nat → Sg → Sg
  | 0, _, _, z => z
  | m + 1, s, g, z => if n ≤ s then z else
      if feZ z s (z.A 38 (opn z s 60 g)).toNatClampNeg - s = 1 then bld n m (s + 1) (opn z s 60 g) (addz z (nI (opn z s 60 g)) 1 (z.A 23 s))
      else if addOK z (nI (opn z s 60 g)) 0 (-1) then bld n m s (z.F 6 10).toNatClampNeg (stA (zadd z (nI (opn z s 60 g)) 0 (-1)) 38 (upd (z.A 38) (z.F 6 10).toNatClampNeg (nI (feZ z s (z.A 38 (opn z s 60 g)).toNatClampNeg)))) else z
theorem en_add {z : Sg} (h : enOK z) (g k v : Int32) : enOK (zadd z g k v) := h
theorem feZ_lt {z : Sg} {s e : Nat} (h : ¬ feZ z s e - s = 1) : feZ z s e < e := by
  have h2 := feZ_gt z s e
  unfold feZ at h h2 ⊢
  by_cases h3 : s + 2 ≤ e
  · rcases fel_le z s e (e - (s + 2)) (s + 2) (s + 1) (cwZ z s (s + 1) e) with h1 | h1
    · omega
    · omega
  · rw [show e - (s + 2) = 0 by omega, fel] at h
    omega
theorem trOK_addz {z : Sg} {n g : Nat} (h : trOK z n) (hg : g < n) (k v : Int32) : ∃ n', n ≤ n' ∧ trOK (addz z (nI g) k v) n' := by
  unfold addz
  split
  · next hok =>
    have hlt : n < 60 := by
      have h1 := hok.1
      rw [h.1, nI_toInt (by have := h.2.2.1; omega)] at h1
      omega
    exact ⟨n + 1, by omega, trOK_add h hlt hg k v⟩
  · exact ⟨n, Nat.le_refl n, h⟩
theorem en_addz {z : Sg} (h : enOK z) (g k v : Int32) : enOK (addz z g k v) := by
  unfold addz
  split
  · exact h
  · exact h
theorem F22_addz (z : Sg) (g k v : Int32) : (addz z g k v).F 22 1 = z.F 22 1 := by
  unfold addz
  split <;> rfl
theorem l_bld {n : Nat} (hn : n ≤ 26) : ∀ (m i s g t : Nat) (z : Sg), i + m = 60 → s ≤ 26 → g < t → trOK z t → enOK z → z.F 22 1 = nI n → E mPlan_build 4 0 0 23 [(0, .ref 35), (1, .ref 6), (2, .int (nI n)), (3, .int (nI s)), (4, .int (nI g)), (5, .int (nI i))] [] (hp z) (Det none (hp (bld n m s g z))) := by
  intro m
  induction m with
  | zero =>
    intro i s g t z hi hs26 hg h he hF
    refine E_iload dX5_build_23 rfl ?_
    refine E_bipush (v := 60) dX5_build_25 rfl ?_
    refine E_icmp_ge 121 dX5_build_27 (by decide) (fun c_27 => ?_) (fun c_27 => ?_)
    · exact E_vret dX5_build_121 rfl ⟨rfl, rfl⟩
    · exact absurd (nI_le (a := 60) (by omega) (by omega)) c_27
  | succ m ih =>
    intro i s g t z hi hs26 hg h he hF
    have ht := h.2.2.1
    have hsz : (z.F 6 10).toInt = (t : Int) := by rw [h.1, nI_toInt (by omega)]
    have ho := opn_le h s 60 g hg
    obtain ⟨e, he1, he2⟩ := he (opn z s 60 g) (by omega)
    have hec : (z.A 38 (opn z s 60 g)).toNatClampNeg = e := by rw [he2, nI_clamp (by omega)]
    have hgt := feZ_gt z s e
    rw [bld, hec]
    have ho2 : (nI (opn z s 60 g)).toNatClampNeg = opn z s 60 g := nI_clamp (by omega)
    generalize hoo : opn z s 60 g = o at ho he2 hec ho2 ⊢
    by_cases hsn : n ≤ s
    · rw [if_pos hsn]
      refine E_iload dX5_build_23 rfl ?_
      refine E_bipush (v := 60) dX5_build_25 rfl ?_
      refine E_icmp_ge 121 dX5_build_27 (by decide) (fun c_27 => ?_) (fun c_27 => ?_)
      · exact absurd c_27 (nI_ge (b := 60) (by omega) (by omega))
      · refine E_iload_n dX5_build_30 rfl ?_
        refine E_iload_n dX5_build_31 rfl ?_
        refine E_icmp_ge 121 dX5_build_32 (by decide) (fun c_32 => ?_) (fun c_32 => ?_)
        · exact E_vret dX5_build_121 rfl ⟨rfl, rfl⟩
        · exact absurd (nI_le hsn (by omega)) c_32
    · rw [if_neg hsn]
      have hop := c_openAt h s g hg
      rw [hoo] at hop
      have hsa := c_signAt z (by rw [hF, nI_toInt (by omega)]; omega) (nI s)
      rw [if_pos (show ltN (nI s) (z.F 22 1) from ⟨by rw [nI_toInt (by omega)]; omega, by rw [hF, nI_toInt (by omega), nI_toInt (by omega)]; omega⟩), nI_clamp (by omega)] at hsa
      by_cases hk : feZ z s e - s = 1
      · rw [if_pos hk]
        obtain ⟨t', ht1, ht2⟩ := trOK_addz h (show o < t by omega) 1 (z.A 23 s)
        refine E_iload dX5_build_23 rfl ?_
        refine E_bipush (v := 60) dX5_build_25 rfl ?_
        refine E_icmp_ge 121 dX5_build_27 (by decide) (fun c_27 => ?_) (fun c_27 => ?_)
        · exact absurd c_27 (nI_ge (b := 60) (by omega) (by omega))
        · refine E_iload_n dX5_build_30 rfl ?_
          refine E_iload_n dX5_build_31 rfl ?_
          refine E_icmp_ge 121 dX5_build_32 (by decide) (fun c_32 => ?_) (fun c_32 => ?_)
          · exact absurd c_32 (nI_ge (by omega) (by omega))
          · refine E_aload_n dX5_build_35 rfl ?_
            refine E_iload_n dX5_build_36 rfl ?_
            refine E_iload dX5_build_37 rfl ?_
            refine E_aload_n dX5_build_39 rfl ?_
            refine E_V3 dX5_build_40 cv_X5_69 (by decide) (hg_35 _) rfl rfl (Nat.le_of_ble_eq_true rfl) (Nat.le_of_ble_eq_true rfl) (hop) (by decide) (Nat.zero_le _) (Nat.zero_le _) ?_
            refine E_istore dX5_build_43 (by decide) rfl ?_
            refine E_aload_n dX5_build_45 rfl ?_
            refine E_iload_n dX5_build_46 rfl ?_
            refine E_aload_n dX5_build_47 rfl ?_
            refine E_getf 4 dX5_build_48 fl_X5_22 (by decide) (hg_35 _) rfl ?_
            refine E_iload dX5_build_51 rfl ?_
            refine E_iald dX5_build_53 (by decide) (hg_38 _) (vp_in_nI (by omega) (by omega)) ?_
            rw [ho2, he2]
            refine E_V2 dX5_build_54 cv_X5_46 (by decide) (hg_35 _) rfl rfl (Nat.le_of_ble_eq_true rfl) (Nat.le_of_ble_eq_true rfl) (c_firstEnd z hs26 he1) (by decide) (Nat.zero_le _) (Nat.zero_le _) ?_
            refine E_istore dX5_build_57 (by decide) rfl ?_
            refine E_iload dX5_build_59 rfl ?_
            refine E_iload_n dX5_build_61 rfl ?_
            refine E_isub dX5_build_62 ?_
            rw [pk_sub (by omega), hk]
            refine E_iconst (v := 1) dX5_build_63 rfl ?_
            refine E_icmp_ne 89 dX5_build_64 (by decide) (fun c_64 => ?_) (fun c_64 => ?_)
            · exact absurd rfl c_64
            · refine E_aload_n dX5_build_67 rfl ?_
              refine E_iload dX5_build_68 rfl ?_
              refine E_iconst (v := 1) dX5_build_70 rfl ?_
              refine E_aload_n dX5_build_71 rfl ?_
              refine E_getf 0 dX5_build_72 fl_X5_25 (by decide) (hg_35 _) rfl ?_
              refine E_iload_n dX5_build_75 rfl ?_
              refine E_V1 dX5_build_76 cv_X5_37 (by decide) (hg_22 _) rfl rfl (Nat.le_of_ble_eq_true rfl) (Nat.le_of_ble_eq_true rfl) (hsa) (by decide) (Nat.zero_le _) (Nat.zero_le _) ?_
              refine E_V3 dX5_build_79 cv_X5_73 (by decide) (hg_6 _) rfl rfl (Nat.le_of_ble_eq_true rfl) (Nat.le_of_ble_eq_true rfl) (c_add z (by omega) (by omega) _ _ _) (by decide) (Nat.zero_le _) (Nat.zero_le _) ?_
              refine E_pop dX5_build_82 rfl ?_
              refine E_iload dX5_build_83 rfl ?_
              refine E_istore_n dX5_build_85 (by decide) rfl ?_
              refine E_goto 115 dX5_build_86 (by decide) ?_
              refine E_iincL 1 dX5_build_115 rfl rfl (by decide) rfl ?_
              rw [nI_1, show feZ z s e = s + 1 by omega]
              refine E_goto 23 dX5_build_118 (by decide) ?_
              refine E.pick [4, 5, 6, 1, 3, 0] rfl ?_
              exact ih (i + 1) (s + 1) o t' (addz z (nI o) 1 (z.A 23 s)) (by omega) (by omega) (by omega) ht2 (en_addz he _ _ _) (by rw [F22_addz]; exact hF)
      · rw [if_neg hk]
        have hlt := feZ_lt hk
        have hk1 : ¬ nI (feZ z s e - s) = 1 := fun h9 => hk ((nI_eq (b := 1) (by omega) (by omega)).mp h9)
        by_cases hok : addOK z (nI o) 0 (-1)
        · rw [if_pos hok, h.1, nI_clamp (by omega)]
          have ht60 : t < 60 := by have h1 := hok.1; omega
          have hen : enOK (stA (zadd z (nI o) 0 (-1)) 38 (upd (z.A 38) t (nI (feZ z s e)))) := by
            intro x hx
            show ∃ e', e' ≤ 26 ∧ upd (z.A 38) t (nI (feZ z s e)) x = nI e'
            by_cases ex : x = t
            · rw [ex, pk_us]
              exact ⟨_, by omega, rfl⟩
            · rw [pk_un ex]
              exact he x hx
          have hadd := c_add z (by omega) (by omega) (nI o) 0 (-1)
          rw [if_pos hok, if_pos hok, h.1] at hadd
          refine E_iload dX5_build_23 rfl ?_
          refine E_bipush (v := 60) dX5_build_25 rfl ?_
          refine E_icmp_ge 121 dX5_build_27 (by decide) (fun c_27 => ?_) (fun c_27 => ?_)
          · exact absurd c_27 (nI_ge (b := 60) (by omega) (by omega))
          · refine E_iload_n dX5_build_30 rfl ?_
            refine E_iload_n dX5_build_31 rfl ?_
            refine E_icmp_ge 121 dX5_build_32 (by decide) (fun c_32 => ?_) (fun c_32 => ?_)
            · exact absurd c_32 (nI_ge (by omega) (by omega))
            · refine E_aload_n dX5_build_35 rfl ?_
              refine E_iload_n dX5_build_36 rfl ?_
              refine E_iload dX5_build_37 rfl ?_
              refine E_aload_n dX5_build_39 rfl ?_
              refine E_V3 dX5_build_40 cv_X5_69 (by decide) (hg_35 _) rfl rfl (Nat.le_of_ble_eq_true rfl) (Nat.le_of_ble_eq_true rfl) (hop) (by decide) (Nat.zero_le _) (Nat.zero_le _) ?_
              refine E_istore dX5_build_43 (by decide) rfl ?_
              refine E_aload_n dX5_build_45 rfl ?_
              refine E_iload_n dX5_build_46 rfl ?_
              refine E_aload_n dX5_build_47 rfl ?_
              refine E_getf 4 dX5_build_48 fl_X5_22 (by decide) (hg_35 _) rfl ?_
              refine E_iload dX5_build_51 rfl ?_
              refine E_iald dX5_build_53 (by decide) (hg_38 _) (vp_in_nI (by omega) (by omega)) ?_
              rw [ho2, he2]
              refine E_V2 dX5_build_54 cv_X5_46 (by decide) (hg_35 _) rfl rfl (Nat.le_of_ble_eq_true rfl) (Nat.le_of_ble_eq_true rfl) (c_firstEnd z hs26 he1) (by decide) (Nat.zero_le _) (Nat.zero_le _) ?_
              refine E_istore dX5_build_57 (by decide) rfl ?_
              refine E_iload dX5_build_59 rfl ?_
              refine E_iload_n dX5_build_61 rfl ?_
              refine E_isub dX5_build_62 ?_
              rw [pk_sub (by omega)]
              refine E_iconst (v := 1) dX5_build_63 rfl ?_
              refine E_icmp_ne 89 dX5_build_64 (by decide) (fun c_64 => ?_) (fun c_64 => ?_)
              · refine E_aload_n dX5_build_89 rfl ?_
                refine E_iload dX5_build_90 rfl ?_
                refine E_iconst (v := 0) dX5_build_92 rfl ?_
                refine E_iconst (v := (-1)) dX5_build_93 rfl ?_
                refine E_V3 dX5_build_94 cv_X5_73 (by decide) (hg_6 _) rfl rfl (Nat.le_of_ble_eq_true rfl) (Nat.le_of_ble_eq_true rfl) (hadd) (by decide) (Nat.zero_le _) (Nat.zero_le _) ?_
                refine E_istore dX5_build_97 (by decide) rfl ?_
                refine E_iload dX5_build_99 rfl ?_
                refine E_iconst (v := (-1)) dX5_build_101 rfl ?_
                refine E_icmp_ne 106 dX5_build_102 (by decide) (fun c_102 => ?_) (fun c_102 => ?_)
                · refine E_aload_n dX5_build_106 rfl ?_
                  refine E_getf 4 dX5_build_107 fl_X5_22 (by decide) (hg_35 _) rfl ?_
                  refine E_iload dX5_build_110 rfl ?_
                  refine E_iload dX5_build_112 rfl ?_
                  refine E_iast (f := z.A 38) dX5_build_114 (by decide) (hg_38 _) (vp_in_nI (by omega) (by omega)) ?_
                  rw [hs_38]
                  rw [nI_clamp (by omega)]
                  refine E_iincL 1 dX5_build_115 rfl rfl (by decide) rfl ?_
                  rw [nI_1]
                  refine E_goto 23 dX5_build_118 (by decide) ?_
                  refine E.pick [3, 4, 5, 6, 1, 0] rfl ?_
                  exact ih (i + 1) s t (t + 1) _ (by omega) hs26 (by omega) (trOK_add h ht60 (show o < t by omega) 0 (-1)) hen hF
                · exact absurd c_102 (nI_m1 (by omega))
              · exact absurd c_64 hk1
        · rw [if_neg hok]
          have hadd := c_add z (by omega) (by omega) (nI o) 0 (-1)
          rw [if_neg hok, if_neg hok] at hadd
          refine E_iload dX5_build_23 rfl ?_
          refine E_bipush (v := 60) dX5_build_25 rfl ?_
          refine E_icmp_ge 121 dX5_build_27 (by decide) (fun c_27 => ?_) (fun c_27 => ?_)
          · exact absurd c_27 (nI_ge (b := 60) (by omega) (by omega))
          · refine E_iload_n dX5_build_30 rfl ?_
            refine E_iload_n dX5_build_31 rfl ?_
            refine E_icmp_ge 121 dX5_build_32 (by decide) (fun c_32 => ?_) (fun c_32 => ?_)
            · exact absurd c_32 (nI_ge (by omega) (by omega))
            · refine E_aload_n dX5_build_35 rfl ?_
              refine E_iload_n dX5_build_36 rfl ?_
              refine E_iload dX5_build_37 rfl ?_
              refine E_aload_n dX5_build_39 rfl ?_
              refine E_V3 dX5_build_40 cv_X5_69 (by decide) (hg_35 _) rfl rfl (Nat.le_of_ble_eq_true rfl) (Nat.le_of_ble_eq_true rfl) (hop) (by decide) (Nat.zero_le _) (Nat.zero_le _) ?_
              refine E_istore dX5_build_43 (by decide) rfl ?_
              refine E_aload_n dX5_build_45 rfl ?_
              refine E_iload_n dX5_build_46 rfl ?_
              refine E_aload_n dX5_build_47 rfl ?_
              refine E_getf 4 dX5_build_48 fl_X5_22 (by decide) (hg_35 _) rfl ?_
              refine E_iload dX5_build_51 rfl ?_
              refine E_iald dX5_build_53 (by decide) (hg_38 _) (vp_in_nI (by omega) (by omega)) ?_
              rw [ho2, he2]
              refine E_V2 dX5_build_54 cv_X5_46 (by decide) (hg_35 _) rfl rfl (Nat.le_of_ble_eq_true rfl) (Nat.le_of_ble_eq_true rfl) (c_firstEnd z hs26 he1) (by decide) (Nat.zero_le _) (Nat.zero_le _) ?_
              refine E_istore dX5_build_57 (by decide) rfl ?_
              refine E_iload dX5_build_59 rfl ?_
              refine E_iload_n dX5_build_61 rfl ?_
              refine E_isub dX5_build_62 ?_
              rw [pk_sub (by omega)]
              refine E_iconst (v := 1) dX5_build_63 rfl ?_
              refine E_icmp_ne 89 dX5_build_64 (by decide) (fun c_64 => ?_) (fun c_64 => ?_)
              · refine E_aload_n dX5_build_89 rfl ?_
                refine E_iload dX5_build_90 rfl ?_
                refine E_iconst (v := 0) dX5_build_92 rfl ?_
                refine E_iconst (v := (-1)) dX5_build_93 rfl ?_
                refine E_V3 dX5_build_94 cv_X5_73 (by decide) (hg_6 _) rfl rfl (Nat.le_of_ble_eq_true rfl) (Nat.le_of_ble_eq_true rfl) (hadd) (by decide) (Nat.zero_le _) (Nat.zero_le _) ?_
                refine E_istore dX5_build_97 (by decide) rfl ?_
                refine E_iload dX5_build_99 rfl ?_
                refine E_iconst (v := (-1)) dX5_build_101 rfl ?_
                refine E_icmp_ne 106 dX5_build_102 (by decide) (fun c_102 => ?_) (fun c_102 => ?_)
                · exact absurd rfl c_102
                · exact E_vret dX5_build_105 rfl ⟨rfl, rfl⟩
              · exact absurd c_64 hk1
def zbd (n : Nat) (z : Sg) : Sg := bld n 60 0 0 (stA z 38 (upd (z.A 38) 0 (nI n)))
theorem c_build {n t : Nat} (hn : n ≤ 26) (z : Sg) (h : trOK z t) (he : enOK z) (hF : z.F 22 1 = nI n) : EM mPlan_build 4 0 0 [.ref 35, .ref 6] (hp z) (Det none (hp (zbd n z))) := by
  have hen : enOK (stA z 38 (upd (z.A 38) 0 (nI n))) := by
    intro x hx
    show ∃ e', e' ≤ 26 ∧ upd (z.A 38) 0 (nI n) x = nI e'
    by_cases ex : x = 0
    · rw [ex, pk_us]
      exact ⟨n, hn, rfl⟩
    · rw [pk_un ex]
      exact he x hx
  refine E_aload_n dX5_build_0 rfl ?_
  refine E_getf 0 dX5_build_1 fl_X5_25 (by decide) (hg_35 _) rfl ?_
  refine E_V0 dX5_build_4 cv_X5_33 (by decide) (hg_22 _) rfl rfl (Nat.le_of_ble_eq_true rfl) (Nat.le_of_ble_eq_true rfl) (c_Tape_size z) (by decide) (Nat.zero_le _) (Nat.zero_le _) ?_
  rw [hF]
  refine E_istore_n dX5_build_7 (by decide) rfl ?_
  refine E_iconst (v := 0) dX5_build_8 rfl ?_
  refine E_istore_n dX5_build_9 (by decide) rfl ?_
  refine E_iconst (v := 0) dX5_build_10 rfl ?_
  refine E_istore dX5_build_11 (by decide) rfl ?_
  refine E_aload_n dX5_build_13 rfl ?_
  refine E_getf 4 dX5_build_14 fl_X5_22 (by decide) (hg_35 _) rfl ?_
  refine E_iconst (v := 0) dX5_build_17 rfl ?_
  refine E_iload_n dX5_build_18 rfl ?_
  refine E_iast dX5_build_19 (by decide) (hg_38 _) (vp_in_nI (n := 0) (by decide) (by decide)) ?_
  rw [hs_38]
  refine E_iconst (v := 0) dX5_build_20 rfl ?_
  refine E_istore dX5_build_21 (by decide) rfl ?_
  refine E.pick [4, 5, 3, 2, 1, 0] rfl ?_
  exact l_bld hn 60 0 0 0 t _ (by omega) (by omega) (by have := h.2.1; omega) h hen hF
