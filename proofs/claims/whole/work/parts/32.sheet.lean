/-! THE SHEET: keep, takeBack, write, dropLast, speak, copyLast, part -/
theorem hp_dynA (z : Sg) (a : Nat) (f : Nat → Int32) (i : Nat) : (hp (stA z a f))[64 + i]? = (hp z)[64 + i]? := by
  rw [hp_dyn, hp_dyn]
  rfl
theorem i32_m1 (x : Int32) : x + (-1) = x - 1 := (Int32.sub_eq_add_neg x 1).symm
theorem ch_stA {z : Sg} {c : Nat} {x : Int32} {r : List Int32} (h : ch z.D c (x :: r)) {b : Nat} (hc : (hp z)[c]? = some (.inr (1, [.ref b, .int x, .int (nI (r.length + 1))]))) (a : Nat) (f : Nat → Int32) : (hp (stA z a f))[c]? = some (.inr (1, [.ref b, .int x, .int (nI (r.length + 1))])) := by
  obtain ⟨b', i, h1, -⟩ := h
  rw [h1] at hc ⊢
  rw [hp_dynA]
  exact hc
def cpl (z : Sg) (r : List Int32) (k : Nat) (i : Nat) : Sg := stA z 29 (fun j => if i ≤ j ∧ j < k then r.getD (k - 1 - j) 0 else z.A 29 j)
theorem l_copyLast (z : Sg) (r : List Int32) (k : Nat) (hk : k ≤ 12) (hkr : k ≤ r.length) : ∀ (i c : Nat) (z' : Sg), i ≤ k → ch z.D c (r.drop (k - i)) → z' = cpl z r k i → E mSheet_copyLast 0 0 0 10 [(0, .ref 18), (1, .int (nI k)), (2, .ref 29), (3, .ref c), (4, .int (nI i - 1))] [] (hp z') (Det none (hp (cpl z r k 0))) := by
  intro i
  induction i with
  | zero =>
    intro c z' hi hc hz
    refine E_iload dX7_copyLast_10 rfl ?_
    refine E_if_lt 48 dX7_copyLast_12 (by decide) (fun c_12 => ?_) (fun c_12 => ?_)
    · exact E_vret dX7_copyLast_48 rfl ⟨rfl, by rw [hz]⟩
    · exact absurd (by decide) c_12
  | succ i ih =>
    intro c z' hi hc hz
    have hD : z'.D = z.D := by rw [hz]; rfl
    have hcl : (nI i).toNatClampNeg = i := nI_clamp (by omega)
    have hd : r.drop (k - (i + 1)) = r.getD (k - 1 - i) 0 :: r.drop (k - i) := by
      rw [show k - (i + 1) = k - 1 - i by omega, List.getD_eq_getElem?_getD, List.getElem?_eq_getElem (by omega), Option.getD_some, List.drop_eq_getElem_cons (by omega), show k - 1 - i + 1 = k - i by omega]
    rw [hd, ← hD] at hc
    obtain ⟨b, hcell, hb⟩ := ch_cons hc
    rw [nI_pred]
    refine E_iload dX7_copyLast_10 rfl ?_
    refine E_if_lt 48 dX7_copyLast_12 (by decide) (fun c_12 => ?_) (fun c_12 => ?_)
    · exact absurd c_12 (nI_pos (by omega))
    · refine E_iload dX7_copyLast_15 rfl ?_
      refine E_aload_n dX7_copyLast_17 rfl ?_
      refine E_alen dX7_copyLast_18 (by decide) (hg_29 _) rfl ?_
      refine E_icmp_ge 48 dX7_copyLast_19 (by decide) (fun c_19 => ?_) (fun c_19 => ?_)
      · exact absurd c_19 (nI_ge (b := 12) (by omega) (by omega))
      · refine E_aload_n dX7_copyLast_22 rfl ?_
        refine E_getf 0 dX7_copyLast_23 fl_X7_37 (ch_ge hc) hcell rfl ?_
        refine E_ifnull dX7_copyLast_26 ?_
        refine E_aload_n dX7_copyLast_29 rfl ?_
        refine E_iload dX7_copyLast_30 rfl ?_
        refine E_aload_n dX7_copyLast_32 rfl ?_
        refine E_getf 1 dX7_copyLast_33 fl_X7_40 (ch_ge hc) hcell rfl ?_
        refine E_iast dX7_copyLast_36 (by decide) (hg_29 _) (vp_in_nI (by omega) (by omega)) ?_
        rw [hs_29]
        rw [hcl]
        have hcell2 : (hp (stA z' 29 (upd (z'.A 29) i (r.getD (k - 1 - i) 0))))[c]? = some (.inr (1, [.ref b, .int (r.getD (k - 1 - i) 0), .int (nI ((r.drop (k - i)).length + 1))])) := ch_stA hc hcell _ _
        refine E_aload_n dX7_copyLast_37 rfl ?_
        refine E_getf 0 dX7_copyLast_38 fl_X7_37 (ch_ge hc) hcell2 rfl ?_
        refine E_astore_n dX7_copyLast_41 (by decide) rfl ?_
        refine E_iincL (-1) dX7_copyLast_42 rfl rfl (by decide) rfl ?_
        rw [i32_m1]
        refine E_goto 10 dX7_copyLast_45 (by decide) ?_
        refine E.pick [2, 3, 4, 1, 0] rfl ?_
        refine ih b _ (by omega) (by rw [← hD]; exact hb) ?_
        rw [hz]
        unfold cpl
        rw [stA_stA]
        congr 1
        funext j
        rw [A_stA, if_pos rfl]
        unfold upd
        dsimp only
        by_cases h1 : j = i
        · rw [if_pos h1, if_pos ⟨by omega, by omega⟩, h1]
        · rw [if_neg h1]
          by_cases h2 : i ≤ j ∧ j < k
          · rw [if_pos h2, if_pos ⟨by omega, by omega⟩]
          · rw [if_neg h2, if_neg (by omega)]
theorem c_copyLast (z : Sg) (r : List Int32) (k : Nat) (hk : k ≤ 12) (hkr : k ≤ r.length) (hc : ch z.D z.T r) : EM mSheet_copyLast 0 0 0 [.ref 18, .int (nI k), .ref 29] (hp z) (Det none (hp (cpl z r k 0))) := by
  refine E_aload_n dX7_copyLast_0 rfl ?_
  refine E_getf 5 dX7_copyLast_1 fl_X7_27 (by decide) (hg_18 _) rfl ?_
  refine E_astore_n dX7_copyLast_4 (by decide) rfl ?_
  refine E_iload_n dX7_copyLast_5 rfl ?_
  refine E_iconst (v := 1) dX7_copyLast_6 rfl ?_
  refine E_isub dX7_copyLast_7 ?_
  refine E_istore dX7_copyLast_8 (by decide) rfl ?_
  refine E.pick [2, 3, 4, 1, 0] rfl ?_
  refine l_copyLast z r k hk hkr k z.T z (Nat.le_refl k) (by rw [Nat.sub_self]; exact hc) ?_
  unfold cpl
  rw [show (fun j => if k ≤ j ∧ j < k then r.getD (k - 1 - j) 0 else z.A 29 j) = z.A 29 from funext fun j => if_neg (by omega), stA_self]
def ring (z : Sg) (o k : Nat) : Prop := z.F 18 3 = nI o ∧ o < 100 ∧ z.F 18 4 = nI k ∧ k ≤ 100
def kp1 (z : Sg) (s : Nat) : Sg := stP (stP z 20 (va_up (z.P 20) s (some z.T))) 21 (va_up (z.P 21) s z.S)
def kp (z : Sg) (o k : Nat) : Sg := if k < 100 then stF (kp1 z ((o + k) % 100)) 18 4 (nI (k + 1)) else stF (kp1 z ((o + k) % 100)) 18 3 (nI ((o + 1) % 100))
theorem ch_stP {z : Sg} {c : Nat} {r : List Int32} (h : ch z.D c r) {vs : List Value} (hc : (hp z)[c]? = some (.inr (1, vs))) (a : Nat) (f : Nat → Option Nat) : (hp (stP z a f))[c]? = some (.inr (1, vs)) := by
  cases r with
  | nil =>
    rw [show c = 19 from h] at hc ⊢
    rw [hg_19] at hc ⊢
    exact hc
  | cons x r =>
    obtain ⟨b', i, h1, -⟩ := h
    rw [h1] at hc ⊢
    rw [hp_dyn] at hc ⊢
    exact hc
theorem rem100 {a : Nat} (h : a < 2 ^ 31) : nI a - nI a / 100 * 100 = nI (a % 100) := pk_rem (d := 100) h (by decide) (by decide)
theorem E_aastQ {y : MI} {d k n pc : Nat} {lv : List (Nat × Value)} {st : List Value} {h : HP} {Q : Option Value → HP → Prop} {i nn : Nat} {f : Nat → Option Nat} {x : Int32} {v : Option Nat} (hd : decode y.2.1 pc = .ok (.aastore, 1)) (hi : 3 ≤ i) (hh : h[i]? = some (.inl (4, nn, .inr (.inr (.inr (.inr f)))))) (hx : vp_in x nn) (hv : ∀ s, v = some s → 3 ≤ s ∧ ∃ vs, h[s]? = some (.inr (1, vs))) (K : E y d k n (pc + 1) lv st (h.set i (.inl (4, nn, .inr (.inr (.inr (.inr (va_up f x.toNatClampNeg v))))))) Q) : E y d k n pc lv (va_rf v :: .int x :: .ref i :: st) h Q := by
  cases v with
  | none => exact E_aastN hd hi hh hx K
  | some s =>
    obtain ⟨h1, vs, h2⟩ := hv s rfl
    exact E_aast hd hi hh hx h1 h2 K
theorem fitsV_rf (C : String) (r : Option Nat) : fitsV (.object C) (va_rf r) := by
  cases r
  · exact fitsV_objN C
  · exact fitsV_obj C _
theorem c_keep (z : Sg) {o k : Nat} (hr : ring z o k) {rt : List Int32} (ht : ch z.D z.T rt) (hs : ∀ s, z.S = some s → ∃ rs, ch z.D s rs) : EM mSheet_keep 0 0 0 [.ref 18] (hp z) (Det none (hp (kp z o k))) := by
  obtain ⟨h1, h2, h3, h4⟩ := hr
  have hlt : (o + k) % 100 < 100 := Nat.mod_lt _ (by decide)
  obtain ⟨v, x, hcell⟩ := ch_cell ht
  have hsl : (nI ((o + k) % 100)).toNatClampNeg = (o + k) % 100 := nI_clamp (by omega)
  have hin : vp_in (nI ((o + k) % 100)) 100 := vp_in_nI hlt (by omega)
  refine E_aload_n dX7_keep_0 rfl ?_
  refine E_getf 3 dX7_keep_1 fl_X7_71 (by decide) (hg_18 _) rfl ?_
  refine E_aload_n dX7_keep_4 rfl ?_
  refine E_getf 4 dX7_keep_5 fl_X7_33 (by decide) (hg_18 _) rfl ?_
  rw [h1, h3]
  refine E_iadd dX7_keep_8 ?_
  rw [nI_add]
  refine E_bipush (v := 100) dX7_keep_9 rfl ?_
  refine E_irem dX7_keep_11 (by decide) ?_
  rw [rem100 (by omega)]
  refine E_istore_n dX7_keep_12 (by decide) rfl ?_
  refine E_aload_n dX7_keep_13 rfl ?_
  refine E_getf 1 dX7_keep_14 fl_X7_20 (by decide) (hg_18 _) rfl ?_
  refine E_iload_n dX7_keep_17 rfl ?_
  refine E_aload_n dX7_keep_18 rfl ?_
  refine E_getf 5 dX7_keep_19 fl_X7_27 (by decide) (hg_18 _) rfl ?_
  refine E_aast dX7_keep_22 (by decide) (hg_20 _) (hin) (ch_ge ht) hcell ?_
  rw [hs_20]
  rw [hsl]
  refine E_aload_n dX7_keep_23 rfl ?_
  refine E_getf 2 dX7_keep_24 fl_X7_24 (by decide) (hg_18 _) rfl ?_
  refine E_iload_n dX7_keep_27 rfl ?_
  refine E_aload_n dX7_keep_28 rfl ?_
  refine E_getf 6 dX7_keep_29 fl_X7_30 (by decide) (hg_18 _) rfl ?_
  refine E_aastQ dX7_keep_32 (by decide) (hg_21 _) (hin) (fun s e => by obtain ⟨rs, h9⟩ := hs s e; obtain ⟨v', x', hc'⟩ := ch_cell h9; exact ⟨ch_ge h9, _, ch_stP h9 hc' _ _⟩) ?_
  rw [hs_21]
  rw [hsl]
  refine E_aload_n dX7_keep_33 rfl ?_
  refine E_getf 4 (v := .int (z.F 18 4)) dX7_keep_34 fl_X7_33 (by decide) (hg_18 _) rfl ?_
  rw [h3]
  refine E_bipush (v := 100) dX7_keep_37 rfl ?_
  refine E_icmp_ge 55 dX7_keep_39 (by decide) (fun c_39 => ?_) (fun c_39 => ?_)
  · refine E_aload_n dX7_keep_55 rfl ?_
    refine E_aload_n dX7_keep_56 rfl ?_
    refine E_getf 3 (v := .int (z.F 18 3)) dX7_keep_57 fl_X7_71 (by decide) (hg_18 _) rfl ?_
    rw [h1]
    refine E_iconst (v := 1) dX7_keep_60 rfl ?_
    refine E_iadd dX7_keep_61 ?_
    rw [nI_1]
    refine E_bipush (v := 100) dX7_keep_62 rfl ?_
    refine E_irem dX7_keep_64 (by decide) ?_
    rw [rem100 (by omega)]
    refine E_put 3 dX7_keep_65 fp_X7_71 (fitsV_int _) (by decide) (hg_18 _) (Nat.le_of_ble_eq_true rfl) ?_
    rw [hs_18_3]
    exact E_vret dX7_keep_68 rfl ⟨rfl, by first | rw [kp, if_pos (show k < 100 by rcases Nat.lt_or_ge k 100 with h | h; exact h; exact absurd (nI_le (a := 100) h (by omega)) c_39)]; rfl | rw [kp, if_neg (show ¬ k < 100 from fun h => nI_ge (b := 100) h (by omega) c_39)]; rfl⟩
  · refine E_aload_n dX7_keep_42 rfl ?_
    refine E_dup dX7_keep_43 rfl ?_
    refine E_getf 4 (v := .int (z.F 18 4)) dX7_keep_44 fl_X7_33 (by decide) (hg_18 _) rfl ?_
    rw [h3]
    refine E_iconst (v := 1) dX7_keep_47 rfl ?_
    refine E_iadd dX7_keep_48 ?_
    rw [nI_1]
    refine E_put 4 dX7_keep_49 fp_X7_33 (fitsV_int _) (by decide) (hg_18 _) (Nat.le_of_ble_eq_true rfl) ?_
    rw [hs_18_4]
    refine E_goto 68 dX7_keep_52 (by decide) ?_
    exact E_vret dX7_keep_68 rfl ⟨rfl, by first | rw [kp, if_pos (show k < 100 by rcases Nat.lt_or_ge k 100 with h | h; exact h; exact absurd (nI_le (a := 100) h (by omega)) c_39)]; rfl | rw [kp, if_neg (show ¬ k < 100 from fun h => nI_ge (b := 100) h (by omega) c_39)]; rfl⟩
def tbT (z : Sg) (s : Nat) : Nat := match z.P 20 s with
  | some t => t
  | none => 19
def tb (z : Sg) (o k : Nat) : Sg := stS (stT (stF z 18 4 (nI (k - 1))) (tbT z ((o + (k - 1)) % 100))) (z.P 21 ((o + (k - 1)) % 100))
theorem c_takeBack (z : Sg) {o k : Nat} (hr : ring z o k) : EM mSheet_takeBack 0 0 0 [.ref 18] (hp z) (Det none (hp (if 0 < k then tb z o k else z))) := by
  obtain ⟨h1, h2, h3, h4⟩ := hr
  have hlt : (o + (k - 1)) % 100 < 100 := Nat.mod_lt _ (by decide)
  have hsl : (nI ((o + (k - 1)) % 100)).toNatClampNeg = (o + (k - 1)) % 100 := nI_clamp (by omega)
  have hin : vp_in (nI ((o + (k - 1)) % 100)) 100 := vp_in_nI hlt (by omega)
  by_cases hk : 0 < k
  · rw [if_pos hk]
    have key : ∀ (lv : List (Nat × Value)), True := fun _ => trivial
    cases hP : z.P 20 ((o + (k - 1)) % 100) with
    | none =>
      refine E_aload_n dX7_takeBack_0 rfl ?_
      refine E_getf 4 dX7_takeBack_1 fl_X7_33 (by decide) (hg_18 _) rfl ?_
      rw [h3]
      refine E_if_le 66 dX7_takeBack_4 (by decide) (fun c_4 => ?_) (fun c_4 => ?_)
      · exact absurd c_4 (nI_nle hk (by omega))
      · refine E_aload_n dX7_takeBack_7 rfl ?_
        refine E_dup dX7_takeBack_8 rfl ?_
        refine E_getf 4 dX7_takeBack_9 fl_X7_33 (by decide) (hg_18 _) rfl ?_
        rw [h3]
        refine E_iconst (v := 1) dX7_takeBack_12 rfl ?_
        refine E_isub dX7_takeBack_13 ?_
        rw [show nI k - 1 = nI (k - 1) from pk_sub (b := 1) hk]
        refine E_put 4 dX7_takeBack_14 fp_X7_33 (fitsV_int _) (by decide) (hg_18 _) (Nat.le_of_ble_eq_true rfl) ?_
        rw [hs_18_4]
        refine E_aload_n dX7_takeBack_17 rfl ?_
        refine E_getf 3 (v := .int (z.F 18 3)) dX7_takeBack_18 fl_X7_71 (by decide) (hg_18 _) rfl ?_
        refine E_aload_n dX7_takeBack_21 rfl ?_
        refine E_getf 4 (v := .int (nI (k - 1))) dX7_takeBack_22 fl_X7_33 (by decide) (hg_18 _) rfl ?_
        rw [h1]
        refine E_iadd dX7_takeBack_25 ?_
        rw [nI_add]
        refine E_bipush (v := 100) dX7_takeBack_26 rfl ?_
        refine E_irem dX7_takeBack_28 (by decide) ?_
        rw [rem100 (by omega)]
        refine E_istore_n dX7_takeBack_29 (by decide) rfl ?_
        refine E_aload_n dX7_takeBack_30 rfl ?_
        refine E_aload_n dX7_takeBack_31 rfl ?_
        refine E_getf 1 dX7_takeBack_32 fl_X7_20 (by decide) (hg_18 _) rfl ?_
        refine E_iload_n dX7_takeBack_35 rfl ?_
        refine E_aald (f := z.P 20) dX7_takeBack_36 (by decide) (hg_20 _) (hin) ?_
        rw [hsl]
        rw [show va_rf (z.P 20 ((o + (k - 1)) % 100)) = Value.null by rw [hP]; rfl]
        refine E_nonnullN dX7_takeBack_37 ?_
        refine E_aload_n dX7_takeBack_40 rfl ?_
        refine E_getf 0 dX7_takeBack_41 fl_X7_14 (by decide) (hg_18 _) rfl ?_
        refine E_goto 53 dX7_takeBack_44 (by decide) ?_
        refine E_put 5 dX7_takeBack_53 fp_X7_27 (fitsV_obj _ _) (by decide) (hg_18 _) (Nat.le_of_ble_eq_true rfl) ?_
        rw [hs_18_5]
        refine E_aload_n dX7_takeBack_56 rfl ?_
        refine E_aload_n dX7_takeBack_57 rfl ?_
        refine E_getf 2 dX7_takeBack_58 fl_X7_24 (by decide) (hg_18 _) rfl ?_
        refine E_iload_n dX7_takeBack_61 rfl ?_
        refine E_aald (f := z.P 21) dX7_takeBack_62 (by decide) (hg_21 _) (hin) ?_
        rw [hsl]
        refine E_put 6 dX7_takeBack_63 fp_X7_30 (fitsV_rf _ _) (by decide) (hg_18 _) (Nat.le_of_ble_eq_true rfl) ?_
        rw [hs_18_6]
        exact E_vret dX7_takeBack_66 rfl ⟨rfl, by rw [tb, tbT, hP]⟩
    | some t =>
      refine E_aload_n dX7_takeBack_0 rfl ?_
      refine E_getf 4 dX7_takeBack_1 fl_X7_33 (by decide) (hg_18 _) rfl ?_
      rw [h3]
      refine E_if_le 66 dX7_takeBack_4 (by decide) (fun c_4 => ?_) (fun c_4 => ?_)
      · exact absurd c_4 (nI_nle hk (by omega))
      · refine E_aload_n dX7_takeBack_7 rfl ?_
        refine E_dup dX7_takeBack_8 rfl ?_
        refine E_getf 4 dX7_takeBack_9 fl_X7_33 (by decide) (hg_18 _) rfl ?_
        rw [h3]
        refine E_iconst (v := 1) dX7_takeBack_12 rfl ?_
        refine E_isub dX7_takeBack_13 ?_
        rw [show nI k - 1 = nI (k - 1) from pk_sub (b := 1) hk]
        refine E_put 4 dX7_takeBack_14 fp_X7_33 (fitsV_int _) (by decide) (hg_18 _) (Nat.le_of_ble_eq_true rfl) ?_
        rw [hs_18_4]
        refine E_aload_n dX7_takeBack_17 rfl ?_
        refine E_getf 3 (v := .int (z.F 18 3)) dX7_takeBack_18 fl_X7_71 (by decide) (hg_18 _) rfl ?_
        refine E_aload_n dX7_takeBack_21 rfl ?_
        refine E_getf 4 (v := .int (nI (k - 1))) dX7_takeBack_22 fl_X7_33 (by decide) (hg_18 _) rfl ?_
        rw [h1]
        refine E_iadd dX7_takeBack_25 ?_
        rw [nI_add]
        refine E_bipush (v := 100) dX7_takeBack_26 rfl ?_
        refine E_irem dX7_takeBack_28 (by decide) ?_
        rw [rem100 (by omega)]
        refine E_istore_n dX7_takeBack_29 (by decide) rfl ?_
        refine E_aload_n dX7_takeBack_30 rfl ?_
        refine E_aload_n dX7_takeBack_31 rfl ?_
        refine E_getf 1 dX7_takeBack_32 fl_X7_20 (by decide) (hg_18 _) rfl ?_
        refine E_iload_n dX7_takeBack_35 rfl ?_
        refine E_aald (f := z.P 20) dX7_takeBack_36 (by decide) (hg_20 _) (hin) ?_
        rw [hsl]
        rw [show va_rf (z.P 20 ((o + (k - 1)) % 100)) = Value.ref t by rw [hP]; rfl]
        refine E_nonnull 47 dX7_takeBack_37 (by decide) ?_
        refine E_aload_n dX7_takeBack_47 rfl ?_
        refine E_getf 1 dX7_takeBack_48 fl_X7_20 (by decide) (hg_18 _) rfl ?_
        refine E_iload_n dX7_takeBack_51 rfl ?_
        refine E_aald (f := z.P 20) dX7_takeBack_52 (by decide) (hg_20 _) (hin) ?_
        rw [hsl]
        rw [show va_rf (z.P 20 ((o + (k - 1)) % 100)) = Value.ref t by rw [hP]; rfl]
        refine E_put 5 dX7_takeBack_53 fp_X7_27 (fitsV_obj _ _) (by decide) (hg_18 _) (Nat.le_of_ble_eq_true rfl) ?_
        rw [hs_18_5]
        refine E_aload_n dX7_takeBack_56 rfl ?_
        refine E_aload_n dX7_takeBack_57 rfl ?_
        refine E_getf 2 dX7_takeBack_58 fl_X7_24 (by decide) (hg_18 _) rfl ?_
        refine E_iload_n dX7_takeBack_61 rfl ?_
        refine E_aald (f := z.P 21) dX7_takeBack_62 (by decide) (hg_21 _) (hin) ?_
        rw [hsl]
        refine E_put 6 dX7_takeBack_63 fp_X7_30 (fitsV_rf _ _) (by decide) (hg_18 _) (Nat.le_of_ble_eq_true rfl) ?_
        rw [hs_18_6]
        exact E_vret dX7_takeBack_66 rfl ⟨rfl, by rw [tb, tbT, hP]⟩
  · rw [if_neg hk]
    have hk0 : k = 0 := by omega
    refine E_aload_n dX7_takeBack_0 rfl ?_
    refine E_getf 4 dX7_takeBack_1 fl_X7_33 (by decide) (hg_18 _) rfl ?_
    rw [h3, hk0]
    refine E_if_le 66 dX7_takeBack_4 (by decide) (fun c_4 => ?_) (fun c_4 => ?_)
    · exact E_vret dX7_takeBack_66 rfl ⟨rfl, rfl⟩
    · exact absurd (by decide) c_4
/-- a new chain: one byte behind another -/
theorem c_Chain_init (z : Sg) (w : HP) (b : Nat) (x sb : Int32) (vb sx : Value) (hb3 : 3 ≤ b) (hb : ∀ c : PCell, (hp (stD z (w ++ [c])))[b]? = some (.inr (1, [vb, sx, .int sb]))) : EM mChain_init 1 0 0 [.ref (64 + w.length), .ref b, .int x] (hp (stD z (w ++ [.inr (1, [.null, .int 0, .int 0])]))) (Det none (hp (stD z (w ++ [.inr (1, [.ref b, .int x, .int (sb + 1)])])))) := by
  refine E_aload_n dX1_init_0 rfl ?_
  refine E_objInit dX1_init_1 ob_X1_1 ob_i ob_c (by decide) (Nat.le_of_ble_eq_true rfl) ?_
  refine E_aload_n dX1_init_4 rfl ?_
  refine E_aload_n dX1_init_5 rfl ?_
  refine E_putF 0 dX1_init_6 fp_X1_7 rfl (fitsV_obj _ _) (by omega) (dyn_get _ _ _) (Nat.le_of_ble_eq_true rfl) ?_
  rw [dyn_set]
  refine E_aload_n dX1_init_9 rfl ?_
  refine E_iload_n dX1_init_10 rfl ?_
  refine E_putF 1 dX1_init_11 fp_X1_13 rfl (fitsV_int _) (by omega) (dyn_get _ _ _) (Nat.le_of_ble_eq_true rfl) ?_
  rw [dyn_set]
  refine E_aload_n dX1_init_14 rfl ?_
  refine E_aload_n dX1_init_15 rfl ?_
  refine E_nonnull 23 dX1_init_16 (by decide) ?_
  refine E_aload_n dX1_init_23 rfl ?_
  refine E_getf 2 dX1_init_24 fl_X1_17 hb3 (hb _) rfl ?_
  refine E_iconst (v := 1) dX1_init_27 rfl ?_
  refine E_iadd dX1_init_28 ?_
  refine E_putF 2 dX1_init_29 fp_X1_17 rfl (fitsV_int _) (by omega) (dyn_get _ _ _) (Nat.le_of_ble_eq_true rfl) ?_
  rw [dyn_set]
  exact E_vret dX1_init_32 rfl ⟨rfl, rfl⟩
