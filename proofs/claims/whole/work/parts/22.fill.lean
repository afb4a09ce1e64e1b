/-! LOCALS BY PLACE; Arrays.fill; the tray's small writers -/
theorem E.pick {y : MI} {d k n pc : Nat} {lv lv' : List (Nat × Value)} {st : List Value} {h : HP} {Q : Option Value → HP → Prop} (is : List Nat) (hl : is.filterMap (fun i => lv[i]?) = lv') (hE : E y d k n pc lv' st h Q) : E y d k n pc lv st h Q := by
  refine E.locals lv' (fun q hq => ?_) hE
  rw [← hl] at hq
  obtain ⟨i, -, hi⟩ := List.mem_filterMap.mp hq
  exact List.mem_of_getElem? hi
theorem A_stA (z : Sg) (i : Nat) (f : Nat → Int32) (k : Nat) : (stA z i f).A k = if k = i then f else z.A k := rfl
theorem A_stF (z : Sg) (i j : Nat) (v : Int32) : (stF z i j v).A = z.A := rfl
theorem A_stL (z : Sg) (i : Nat) (f : Nat → Int64) : (stL z i f).A = z.A := rfl
theorem A_stT (z : Sg) (t : Nat) : (stT z t).A = z.A := rfl
theorem A_stS (z : Sg) (t : Option Nat) : (stS z t).A = z.A := rfl
theorem A_stP (z : Sg) (i : Nat) (f : Nat → Option Nat) : (stP z i f).A = z.A := rfl
theorem A_stD (z : Sg) (w : HP) : (stD z w).A = z.A := rfl
theorem F_stA (z : Sg) (i : Nat) (f : Nat → Int32) : (stA z i f).F = z.F := rfl
theorem F_stF (z : Sg) (i j : Nat) (v : Int32) (k l : Nat) : (stF z i j v).F k l = if k = i then (if l = j then v else z.F i l) else z.F k l := by
  show (va_up z.F i (upd (z.F i) j v)) k l = _
  unfold va_up upd
  by_cases h : k = i
  · simp [h]
  · simp [h]
theorem F_stL (z : Sg) (i : Nat) (f : Nat → Int64) : (stL z i f).F = z.F := rfl
theorem F_stT (z : Sg) (t : Nat) : (stT z t).F = z.F := rfl
theorem F_stS (z : Sg) (t : Option Nat) : (stS z t).F = z.F := rfl
theorem F_stP (z : Sg) (i : Nat) (f : Nat → Option Nat) : (stP z i f).F = z.F := rfl
theorem F_stD (z : Sg) (w : HP) : (stD z w).F = z.F := rfl
theorem L_stA (z : Sg) (i : Nat) (f : Nat → Int32) : (stA z i f).L = z.L := rfl
theorem L_stF (z : Sg) (i j : Nat) (v : Int32) : (stF z i j v).L = z.L := rfl
theorem L_stL (z : Sg) (i : Nat) (f : Nat → Int64) (k : Nat) : (stL z i f).L k = if k = i then f else z.L k := rfl
theorem L_stT (z : Sg) (t : Nat) : (stT z t).L = z.L := rfl
theorem L_stS (z : Sg) (t : Option Nat) : (stS z t).L = z.L := rfl
theorem L_stP (z : Sg) (i : Nat) (f : Nat → Option Nat) : (stP z i f).L = z.L := rfl
theorem L_stD (z : Sg) (w : HP) : (stD z w).L = z.L := rfl
theorem T_stA (z : Sg) (i : Nat) (f : Nat → Int32) : (stA z i f).T = z.T := rfl
theorem T_stF (z : Sg) (i j : Nat) (v : Int32) : (stF z i j v).T = z.T := rfl
theorem T_stL (z : Sg) (i : Nat) (f : Nat → Int64) : (stL z i f).T = z.T := rfl
theorem T_stT (z : Sg) (t : Nat) : (stT z t).T = t := rfl
theorem T_stS (z : Sg) (t : Option Nat) : (stS z t).T = z.T := rfl
theorem T_stP (z : Sg) (i : Nat) (f : Nat → Option Nat) : (stP z i f).T = z.T := rfl
theorem T_stD (z : Sg) (w : HP) : (stD z w).T = z.T := rfl
theorem S_stA (z : Sg) (i : Nat) (f : Nat → Int32) : (stA z i f).S = z.S := rfl
theorem S_stF (z : Sg) (i j : Nat) (v : Int32) : (stF z i j v).S = z.S := rfl
theorem S_stL (z : Sg) (i : Nat) (f : Nat → Int64) : (stL z i f).S = z.S := rfl
theorem S_stT (z : Sg) (t : Nat) : (stT z t).S = z.S := rfl
theorem S_stS (z : Sg) (t : Option Nat) : (stS z t).S = t := rfl
theorem S_stP (z : Sg) (i : Nat) (f : Nat → Option Nat) : (stP z i f).S = z.S := rfl
theorem S_stD (z : Sg) (w : HP) : (stD z w).S = z.S := rfl
theorem P_stA (z : Sg) (i : Nat) (f : Nat → Int32) : (stA z i f).P = z.P := rfl
theorem P_stF (z : Sg) (i j : Nat) (v : Int32) : (stF z i j v).P = z.P := rfl
theorem P_stL (z : Sg) (i : Nat) (f : Nat → Int64) : (stL z i f).P = z.P := rfl
theorem P_stT (z : Sg) (t : Nat) : (stT z t).P = z.P := rfl
theorem P_stS (z : Sg) (t : Option Nat) : (stS z t).P = z.P := rfl
theorem P_stP (z : Sg) (i : Nat) (f : Nat → Option Nat) (k : Nat) : (stP z i f).P k = if k = i then f else z.P k := rfl
theorem P_stD (z : Sg) (w : HP) : (stD z w).P = z.P := rfl
theorem X_stA (z : Sg) (i : Nat) (f : Nat → Int32) : (stA z i f).X = z.X := rfl
theorem X_stF (z : Sg) (i j : Nat) (v : Int32) : (stF z i j v).X = z.X := rfl
theorem X_stL (z : Sg) (i : Nat) (f : Nat → Int64) : (stL z i f).X = z.X := rfl
theorem X_stT (z : Sg) (t : Nat) : (stT z t).X = z.X := rfl
theorem X_stS (z : Sg) (t : Option Nat) : (stS z t).X = z.X := rfl
theorem X_stP (z : Sg) (i : Nat) (f : Nat → Option Nat) : (stP z i f).X = z.X := rfl
theorem X_stD (z : Sg) (w : HP) : (stD z w).X = z.X := rfl
theorem D_stA (z : Sg) (i : Nat) (f : Nat → Int32) : (stA z i f).D = z.D := rfl
theorem D_stF (z : Sg) (i j : Nat) (v : Int32) : (stF z i j v).D = z.D := rfl
theorem D_stL (z : Sg) (i : Nat) (f : Nat → Int64) : (stL z i f).D = z.D := rfl
theorem D_stT (z : Sg) (t : Nat) : (stT z t).D = z.D := rfl
theorem D_stS (z : Sg) (t : Option Nat) : (stS z t).D = z.D := rfl
theorem D_stP (z : Sg) (i : Nat) (f : Nat → Option Nat) : (stP z i f).D = z.D := rfl
theorem D_stD (z : Sg) (w : HP) : (stD z w).D = w := rfl
theorem stA_self (z : Sg) (a : Nat) : stA z a (z.A a) = z := by
  refine Prod.ext (funext fun j => ?_) rfl
  show va_up z.A a (z.A a) j = z.A j
  unfold va_up
  by_cases h : j = a
  · simp [h]
  · simp [h]
theorem stA_stA (z : Sg) (a : Nat) (f g : Nat → Int32) : stA (stA z a f) a g = stA z a g := by
  unfold stA
  rw [bx_uu]
theorem l_fill {n a : Nat} (ha : 3 ≤ a) (hn : n < 2 ^ 31) (hga : ∀ z : Sg, (hp z)[a]? = some (.inl (0, n, .inl (z.A a)))) (hsa : ∀ (z : Sg) (f : Nat → Int32), (hp z).set a (.inl (0, n, .inl f)) = hp (stA z a f)) (z : Sg) (v : Int32) :
    ∀ (m i : Nat) (z' : Sg), i + m = n → z' = stA z a (fun j => if j < i then v else z.A a j) → E mArrays_fill 0 0 0 5 [(0, .ref a), (1, .int v), (2, .int (nI i)), (3, .int (nI n))] [] (hp z') (Det none (hp (stA z a (fun j => if j < n then v else z.A a j)))) := by
  intro m
  induction m with
  | zero =>
    intro i z' hi hz
    refine E_iload_n dJ7_fill_53178_5 rfl ?_
    refine E_iload_n dJ7_fill_53178_6 rfl ?_
    refine E_icmp_ge 20 dJ7_fill_53178_7 (by decide) (fun c_7 => ?_) (fun c_7 => ?_)
    · exact E_vret dJ7_fill_53178_20 rfl ⟨rfl, by rw [hz, show i = n by omega]⟩
    · exact absurd (nI_le (by omega) (by omega)) c_7
  | succ m ih =>
    intro i z' hi hz
    refine E_iload_n dJ7_fill_53178_5 rfl ?_
    refine E_iload_n dJ7_fill_53178_6 rfl ?_
    refine E_icmp_ge 20 dJ7_fill_53178_7 (by decide) (fun c_7 => ?_) (fun c_7 => ?_)
    · exact absurd c_7 (nI_ge (by omega) (by omega))
    · refine E_aload_n dJ7_fill_53178_10 rfl ?_
      refine E_iload_n dJ7_fill_53178_11 rfl ?_
      refine E_iload_n dJ7_fill_53178_12 rfl ?_
      refine E_iast dJ7_fill_53178_13 ha (hga _) (vp_in_nI (by omega) (by omega)) ?_
      rw [hsa, nI_clamp (by omega)]
      refine E_iincL 1 dJ7_fill_53178_14 rfl rfl (by decide) rfl ?_
      rw [nI_1]
      refine E_goto 5 dJ7_fill_53178_17 (by decide) ?_
      refine E.pick [1, 2, 0, 3] rfl ?_
      refine ih (i + 1) _ (by omega) ?_
      rw [hz, stA_stA]
      congr 1
      funext j
      by_cases h1 : j = i
      · subst h1; simp [upd, A_stA]
      · by_cases h2 : j < i
        · simp [upd, A_stA, h1, h2, Nat.lt_succ_of_lt h2]
        · simp [upd, A_stA, h1, h2, show ¬ j < i + 1 by omega]
theorem c_fill {n a : Nat} (ha : 3 ≤ a) (hn : n < 2 ^ 31) (hga : ∀ z : Sg, (hp z)[a]? = some (.inl (0, n, .inl (z.A a)))) (hsa : ∀ (z : Sg) (f : Nat → Int32), (hp z).set a (.inl (0, n, .inl f)) = hp (stA z a f)) (z : Sg) (v : Int32) :
    EM mArrays_fill 0 0 0 [.ref a, .int v] (hp z) (Det none (hp (stA z a (fun j => if j < n then v else z.A a j)))) := by
  refine E_iconst (v := 0) dJ7_fill_53178_0 rfl ?_
  refine E_istore_n dJ7_fill_53178_1 (by decide) rfl ?_
  refine E_aload_n dJ7_fill_53178_2 rfl ?_
  refine E_alen dJ7_fill_53178_3 ha (hga _) rfl ?_
  refine E_istore_n dJ7_fill_53178_4 (by decide) rfl ?_
  refine E.pick [2, 3, 1, 0] rfl ?_
  refine l_fill ha hn hga hsa z v n 0 z (by omega) ?_
  simp only [Nat.not_lt_zero, if_false]
  exact (stA_self z a).symm
theorem c_empty (z : Sg) : EM mTray_empty 0 0 0 [.ref 6] (hp z) (Det none (hp (stF (stA (stA (stA z 7 (upd (z.A 7) 0 0)) 8 (upd (z.A 8) 0 (-1))) 9 (upd (z.A 9) 0 (-1))) 6 10 1))) := by
  refine E_aload_n dX9_empty_0 rfl ?_
  refine E_getf 0 dX9_empty_1 fl_X9_11 (by decide) (hg_6 _) rfl ?_
  refine E_iconst (v := 0) dX9_empty_4 rfl ?_
  refine E_iconst (v := 0) dX9_empty_5 rfl ?_
  refine E_iast dX9_empty_6 (by decide) (hg_7 _) (vp_in_nI (n := 0) (by decide) (by decide)) ?_
  rw [hs_7]
  refine E_aload_n dX9_empty_7 rfl ?_
  refine E_getf 1 dX9_empty_8 fl_X9_15 (by decide) (hg_6 _) rfl ?_
  refine E_iconst (v := 0) dX9_empty_11 rfl ?_
  refine E_iconst (v := (-1)) dX9_empty_12 rfl ?_
  refine E_iast (f := z.A 8) dX9_empty_13 (by decide) (hg_8 _) (vp_in_nI (n := 0) (by decide) (by decide)) ?_
  rw [hs_8]
  refine E_aload_n dX9_empty_14 rfl ?_
  refine E_getf 2 dX9_empty_15 fl_X9_18 (by decide) (hg_6 _) rfl ?_
  refine E_iconst (v := 0) dX9_empty_18 rfl ?_
  refine E_iconst (v := (-1)) dX9_empty_19 rfl ?_
  refine E_iast (f := z.A 9) dX9_empty_20 (by decide) (hg_9 _) (vp_in_nI (n := 0) (by decide) (by decide)) ?_
  rw [hs_9]
  refine E_aload_n dX9_empty_21 rfl ?_
  refine E_iconst (v := 1) dX9_empty_22 rfl ?_
  refine E_put 10 dX9_empty_23 fp_X9_49 (fitsV_int _) (by decide) (hg_6 _) (Nat.le_of_ble_eq_true rfl) ?_
  rw [hs_6_10]
  exact E_vret dX9_empty_26 rfl ⟨rfl, rfl⟩
