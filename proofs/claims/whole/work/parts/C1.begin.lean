/-! THE LAW'S BEGI68803ING: the desk, the model, the place for a long -/
section Begin
variable {Q : Option Value → HP → Prop}
theorem fs_c10 : ∀ j, j < 9 → ([.null, .null, .null, .null, .null, .null, .null, .null, .null] : List Value)[j]? = some (defaultValue (tyX10 j)) := by
  intro j hj
  match j, hj with
  | 0, _ => rfl
  | 1, _ => rfl
  | 2, _ => rfl
  | 3, _ => rfl
  | 4, _ => rfl
  | 5, _ => rfl
  | 6, _ => rfl
  | 7, _ => rfl
  | 8, _ => rfl
theorem fs_c11 : ∀ j, j < 38 → ([.int 0, .null, .null, .null, .null, .int 0, .null, .null, .null, .null, .int 0, .int 0, .int 0, .int 0, .int 0, .int 0, .int 0, .int 0, .null, .null, .null, .null, .null, .null, .int 0, .int 0, .int 0, .null, .null, .null, .null, .int 0, .int 0, .null, .null, .null, .null, .null] : List Value)[j]? = some (defaultValue (tyX11 j)) := by
  intro j hj
  match j, hj with
  | 0, _ => rfl
  | 1, _ => rfl
  | 2, _ => rfl
  | 3, _ => rfl
  | 4, _ => rfl
  | 5, _ => rfl
  | 6, _ => rfl
  | 7, _ => rfl
  | 8, _ => rfl
  | 9, _ => rfl
  | 10, _ => rfl
  | 11, _ => rfl
  | 12, _ => rfl
  | 13, _ => rfl
  | 14, _ => rfl
  | 15, _ => rfl
  | 16, _ => rfl
  | 17, _ => rfl
  | 18, _ => rfl
  | 19, _ => rfl
  | 20, _ => rfl
  | 21, _ => rfl
  | 22, _ => rfl
  | 23, _ => rfl
  | 24, _ => rfl
  | 25, _ => rfl
  | 26, _ => rfl
  | 27, _ => rfl
  | 28, _ => rfl
  | 29, _ => rfl
  | 30, _ => rfl
  | 31, _ => rfl
  | 32, _ => rfl
  | 33, _ => rfl
  | 34, _ => rfl
  | 35, _ => rfl
  | 36, _ => rfl
  | 37, _ => rfl
  | t + 38, h => exact absurd h (by omega)
theorem X_newab {y : MI} {d k n pc : Nat} {lv : List (Nat × Value)} {st : List Value} {b : HP} {N : Nat} {kk nn : Nat} {x : Int32} {atype : ArrayType} {a0 : vp_A} (hb0 : b.length = N) (hd : decode y.2.1 pc = .ok (.newarray atype, 2)) (hg : Cond.arrayClass (kty kk) ∈ GT) (hty : newarray.typeOf atype = kty kk) (hk5 : kk < 4) (ha : ∀ cA : ClassId, vp_cell cA a0 = arrV cA nn (fun _ => defaultValue (kty kk))) (ha2 : ∀ a, ta a a0 = a0) (hx : ¬ x < 0) (hN : x.toNatClampNeg = nn) (hb : nn * componentBytes (kty kk) ≤ 536870912) (hk : 1 ≤ k) (hn : nn ≤ n) (K : E y d (k - 1) (n - nn) (pc + 2) lv (.ref N :: st) (b ++ [.inl (kk, a0)]) Q) : E y d k n pc lv (.int x :: st) b Q := by
  refine E_newa hd hg hty hk5 ha ha2 hx hN hb hk hn ?_
  rw [hb0]
  exact K
theorem z0_hp (X : Nat × (Nat → Int32)) : hpM (.inr (10, [.ref 4, .ref 6, .ref 17, .ref 18, .ref 22, .ref 24, .ref 28, .ref 32, .ref 35])) (zlk 1 (zM0 (zD9 (zb X)))) ++ [.inl (3, 1, .inr (.inl fun _ => 0))] = hp (z0 X) := rfl
theorem law_begin (X : Nat × (Nat → Int32)) {k n : Nat} (K : E mLaw_law 31 k n 23 (lvL (4 * 0)) [] (hp (z0 X)) Q) : E mLaw_law 31 (k + 61) (n + 68803) 0 [(0, .ref 0)] [] ((hp (zb X)).take 3) Q := by
  refine X_newb (N := 3) rfl dL_law_0 nw_L_8 (fs := [.null, .null, .null, .null, .null, .null, .null, .null, .null]) fs_c10 (by omega) (by omega) ?_
  refine E_dup dL_law_3 rfl ?_
  refine E_I0 dL_law_4 ci_L_18 (Nat.le_of_ble_eq_true rfl) (Nat.le_of_ble_eq_true rfl) (c_Desk_init (zb X)) (by decide) (by omega) (by omega) ?_
  refine E_astore_n dL_law_7 (by decide) rfl ?_
  refine X_newb (N := 39) rfl dL_law_8 nw_L_19 (fs := [.int 0, .null, .null, .null, .null, .int 0, .null, .null, .null, .null, .int 0, .int 0, .int 0, .int 0, .int 0, .int 0, .int 0, .int 0, .null, .null, .null, .null, .null, .null, .int 0, .int 0, .int 0, .null, .null, .null, .null, .int 0, .int 0, .null, .null, .null, .null, .null]) fs_c11 (by omega) (by omega) ?_
  refine E_dup dL_law_11 rfl ?_
  refine E_I0 dL_law_12 ci_L_21 (Nat.le_of_ble_eq_true rfl) (Nat.le_of_ble_eq_true rfl) (c_Mod_init (zD9 (zb X))) (by decide) (by omega) (by omega) ?_
  refine E_astore_n dL_law_15 (by decide) rfl ?_
  refine E_iconst (v := 1) dL_law_16 rfl ?_
  refine X_newab (N := 63) rfl (kk := 3) (nn := 1) (a0 := (1, .inr (.inl fun _ => 0))) dL_law_17 a_long rfl (by decide) (fun cA => rfl) (fun a => rfl) (by decide) rfl (by decide) (by omega) (by omega) ?_
  refine E_astore_n dL_law_19 (by decide) rfl ?_
  refine E_iconst (v := 0) dL_law_20 rfl ?_
  refine E_istore dL_law_21 (by decide) rfl ?_
  refine E.pick [4, 3, 2, 1, 0] rfl ?_
  refine E.hp (h' := hp (z0 X)) (z0_hp X) ?_
  exact K.mono (Nat.le_refl _) (by omega) (by omega)
end Begin
