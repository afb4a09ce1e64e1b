/-! THE MODEL: foreseen, offered, letter, at, count -/
section Tells
variable {n t nn : Nat} {z : Sg}
abbrev z00 (z : Sg) : Sg := stF z 39 0 0
theorem c_Mod_foreseen (hx : txOK z t) (hd : mdOK z n) (k : Int32) : EM mMod_foreseen 3 0 0 [.ref 39, .int k] (hp z) (Det (some (.int (if k < 0 then (-1) else rnk (zfm t n (z00 z)) n k n 0))) (hp (if k < 0 then z00 z else zfm t n (z00 z)))) := by
  refine E_aload_n dX11_foreseen_0 rfl ?_
  refine E_iconst (v := 0) dX11_foreseen_1 rfl ?_
  refine E_put 0 dX11_foreseen_2 fp_X11_98 (fitsV_int _) (by decide) (hg_39 _) (Nat.le_of_ble_eq_true rfl) ?_
  rw [hs_39_0]
  refine E_iload_n dX11_foreseen_5 rfl ?_
  refine E_if_ge 13 dX11_foreseen_6 (by decide) (fun c_6 => ?_) (fun c_6 => ?_)
  · refine E_aload_n dX11_foreseen_13 rfl ?_
    refine E_iload_n dX11_foreseen_14 rfl ?_
    refine E_V1 dX11_foreseen_15 cv_X11_171 (by decide) (hg_39 _) rfl rfl (Nat.le_of_ble_eq_true rfl) (Nat.le_of_ble_eq_true rfl) (c_foreseenAt (z := z00 z) hx hd k) (by decide) (Nat.zero_le _) (Nat.zero_le _) ?_
    exact E_iret dX11_foreseen_18 rfl rfl (by first | exact ⟨by rw [if_pos (show k < 0 by rw [i32_lt]; rw [i32_le] at c_6; exact Int.not_le.mp c_6)], by rw [if_pos (show k < 0 by rw [i32_lt]; rw [i32_le] at c_6; exact Int.not_le.mp c_6)]⟩ | exact ⟨by rw [if_neg (show ¬ k < 0 by rw [i32_lt]; rw [i32_le] at c_6; exact Int.not_lt.mpr c_6)], by rw [if_neg (show ¬ k < 0 by rw [i32_lt]; rw [i32_le] at c_6; exact Int.not_lt.mpr c_6)]⟩)
  · refine E_iconst (v := (-1)) dX11_foreseen_9 rfl ?_
    refine E_goto 18 dX11_foreseen_10 (by decide) ?_
    exact E_iret dX11_foreseen_18 rfl rfl (by first | exact ⟨by rw [if_pos (show k < 0 by rw [i32_lt]; rw [i32_le] at c_6; exact Int.not_le.mp c_6)], by rw [if_pos (show k < 0 by rw [i32_lt]; rw [i32_le] at c_6; exact Int.not_le.mp c_6)]⟩ | exact ⟨by rw [if_neg (show ¬ k < 0 by rw [i32_lt]; rw [i32_le] at c_6; exact Int.not_lt.mpr c_6)], by rw [if_neg (show ¬ k < 0 by rw [i32_lt]; rw [i32_le] at c_6; exact Int.not_lt.mpr c_6)]⟩)
theorem c_Mod_offered (hx : txOK z t) (hd : mdOK z n) (hT : mtOK z nn) (k : Int32) : EM mMod_offered 3 0 0 [.ref 39, .int k] (hp z) (Det (some (.int (if k < 0 then (-1) else ofR t n nn (z00 z) k))) (hp (if k < 0 then z00 z else (zom t n nn (z00 z)).2))) := by
  refine E_aload_n dX11_offered_0 rfl ?_
  refine E_iconst (v := 0) dX11_offered_1 rfl ?_
  refine E_put 0 dX11_offered_2 fp_X11_98 (fitsV_int _) (by decide) (hg_39 _) (Nat.le_of_ble_eq_true rfl) ?_
  rw [hs_39_0]
  refine E_iload_n dX11_offered_5 rfl ?_
  refine E_if_ge 13 dX11_offered_6 (by decide) (fun c_6 => ?_) (fun c_6 => ?_)
  · refine E_aload_n dX11_offered_13 rfl ?_
    refine E_iload_n dX11_offered_14 rfl ?_
    refine E_V1 dX11_offered_15 cv_X11_178 (by decide) (hg_39 _) rfl rfl (Nat.le_of_ble_eq_true rfl) (Nat.le_of_ble_eq_true rfl) (c_offeredAt (z := z00 z) hx hd hT k) (by decide) (Nat.zero_le _) (Nat.zero_le _) ?_
    exact E_iret dX11_offered_18 rfl rfl (by first | exact ⟨by rw [if_pos (show k < 0 by rw [i32_lt]; rw [i32_le] at c_6; exact Int.not_le.mp c_6)], by rw [if_pos (show k < 0 by rw [i32_lt]; rw [i32_le] at c_6; exact Int.not_le.mp c_6)]⟩ | exact ⟨by rw [if_neg (show ¬ k < 0 by rw [i32_lt]; rw [i32_le] at c_6; exact Int.not_lt.mpr c_6)], by rw [if_neg (show ¬ k < 0 by rw [i32_lt]; rw [i32_le] at c_6; exact Int.not_lt.mpr c_6)]⟩)
  · refine E_iconst (v := (-1)) dX11_offered_9 rfl ?_
    refine E_goto 18 dX11_offered_10 (by decide) ?_
    exact E_iret dX11_offered_18 rfl rfl (by first | exact ⟨by rw [if_pos (show k < 0 by rw [i32_lt]; rw [i32_le] at c_6; exact Int.not_le.mp c_6)], by rw [if_pos (show k < 0 by rw [i32_lt]; rw [i32_le] at c_6; exact Int.not_le.mp c_6)]⟩ | exact ⟨by rw [if_neg (show ¬ k < 0 by rw [i32_lt]; rw [i32_le] at c_6; exact Int.not_lt.mpr c_6)], by rw [if_neg (show ¬ k < 0 by rw [i32_lt]; rw [i32_le] at c_6; exact Int.not_lt.mpr c_6)]⟩)
theorem rnA_lt (z : Sg) (w : Nat) : ∀ (m v c : Nat), v ≤ w → w < v + m → rnA z w m v c < c + m
  | 0, v, c, h1, h2 => absurd h2 (by omega)
  | m + 1, v, c, h1, h2 => by
    rw [rnA]
    by_cases e : v = w
    · rw [if_neg (fun h9 : ahP z w v => h9.2.1 e)]
      have := rnA_le z w m (v + 1) c
      omega
    · have h3 := rnA_lt z w m (v + 1) (c + 1) (by omega) (by omega)
      have h4 := rnA_lt z w m (v + 1) c (by omega) (by omega)
      split
      · omega
      · omega
theorem rnk_end (hn : n ≤ 40) (z : Sg) : ∀ (m w : Nat), w + m = n → rnk z n (nI n) m w = -1
  | 0, w, _ => rfl
  | m + 1, w, h => by
    have h3 := rnA_lt z w n 0 0 (by omega) (by omega)
    rw [rnk, if_neg (fun h9 : rkC z n (nI n) w => by have := (nI_eq (by omega) (by omega)).mp h9.2; omega)]
    exact rnk_end hn z m (w + 1) (by omega)
def cfz (t n : Nat) : Nat → Nat → Sg → Nat × Sg
  | 0, i, z => (i, zfm t n z)
  | m + 1, i, z => if rnk (zfm t n z) n (nI i) n 0 = -1 then (i, zfm t n z) else cfz t n m (i + 1) (zfm t n z)
theorem l_cfz (w : Int32) : ∀ (m i : Nat) (z : Sg), i + m = n → txOK z t → mdOK z n → E mMod_count 3 0 0 68 [(0, .ref 39), (1, .int w), (2, .int (nI i))] [] (hp z) (Det (some (.int (nI (cfz t n m i z).1))) (hp (cfz t n m i z).2)) := by
  intro m
  induction m with
  | zero =>
    intro i z hi hx hd
    have h9 := rnk_end hd.2.1 (zfm t n z) n 0 (by omega)
    rw [show i = n by omega]
    refine E_aload_n dX11_count_68 rfl ?_
    refine E_iload_n dX11_count_69 rfl ?_
    refine E_V1 dX11_count_70 cv_X11_171 (by decide) (hg_39 _) rfl rfl (Nat.le_of_ble_eq_true rfl) (Nat.le_of_ble_eq_true rfl) (c_foreseenAt hx hd _) (by decide) (Nat.zero_le _) (Nat.zero_le _) ?_
    refine E_iconst (v := (-1)) dX11_count_73 rfl ?_
    rw [h9]
    refine E_icmp_eq 83 dX11_count_74 (by decide) (fun c_74 => ?_) (fun c_74 => ?_)
    · refine E_iload_n dX11_count_83 rfl ?_
      exact E_iret dX11_count_84 rfl rfl ⟨rfl, rfl⟩
    · exact absurd rfl c_74
  | succ m ih =>
    intro i z hi hx hd
    refine E_aload_n dX11_count_68 rfl ?_
    refine E_iload_n dX11_count_69 rfl ?_
    refine E_V1 dX11_count_70 cv_X11_171 (by decide) (hg_39 _) rfl rfl (Nat.le_of_ble_eq_true rfl) (Nat.le_of_ble_eq_true rfl) (c_foreseenAt hx hd _) (by decide) (Nat.zero_le _) (Nat.zero_le _) ?_
    refine E_iconst (v := (-1)) dX11_count_73 rfl ?_
    refine E_icmp_eq 83 dX11_count_74 (by decide) (fun c_74 => ?_) (fun c_74 => ?_)
    · refine E_iload_n dX11_count_83 rfl ?_
      exact E_iret dX11_count_84 rfl rfl ⟨by rw [cfz, if_pos c_74], by rw [cfz, if_pos c_74]⟩
    · refine E_iincL 1 dX11_count_77 rfl rfl (by decide) rfl ?_
      rw [nI_1]
      refine E_goto 68 dX11_count_80 (by decide) ?_
      refine E.pick [1, 2, 0] rfl ?_
      rw [cfz, if_neg c_74]
      exact ih (i + 1) _ (by omega) (tx_zfm hx) (md_zfm hd)
theorem ok_omk (t q nn : Nat) : ∀ (m W : Nat) (p : Bool) (z : Sg), txOK z t → mdOK z n → mtOK z nn → txOK (omk t q nn m W p z).2 t ∧ mdOK (omk t q nn m W p z).2 n ∧ mtOK (omk t q nn m W p z).2 nn
  | 0, W, p, z, h1, h2, h3 => ⟨h1, h2, h3⟩
  | m + 1, W, p, z, h1, h2, h3 => by
    rw [omk]
    split
    · exact ok_omk t q nn m (W + 1) _ _ (tx_omz h1) (md_omz h2) (mt_omz h3)
    · exact ok_omk t q nn m (W + 1) _ _ h1 h2 h3
theorem ok_zom (h1 : txOK z t) (h2 : mdOK z n) (h3 : mtOK z nn) : txOK (zom t n nn z).2 t ∧ mdOK (zom t n nn z).2 n ∧ mtOK (zom t n nn z).2 nn := ok_omk t _ nn n 0 _ z h1 h2 h3
def coz (t n nn : Nat) : Nat → Nat → Sg → Nat × Sg
  | 0, i, z => (i, (zom t n nn z).2)
  | m + 1, i, z => if ofR t n nn z (nI i) = -1 then (i, (zom t n nn z).2) else coz t n nn m (i + 1) (zom t n nn z).2
theorem l_coz (w : Int32) : ∀ (m i : Nat) (z : Sg), i + m = n → txOK z t → mdOK z n → mtOK z nn → E mMod_count 3 0 0 85 [(0, .ref 39), (1, .int w), (2, .int (nI i))] [] (hp z) (Det (some (.int (nI (coz t n nn m i z).1))) (hp (coz t n nn m i z).2)) := by
  intro m
  induction m with
  | zero =>
    intro i z hi hx hd hT
    have h9 : ofR t n nn z (nI n) = -1 := by
      unfold ofR
      rw [rnk_end hd.2.1 _ n 0 (by omega)]
      split <;> rfl
    rw [show i = n by omega]
    refine E_aload_n dX11_count_85 rfl ?_
    refine E_iload_n dX11_count_86 rfl ?_
    refine E_V1 dX11_count_87 cv_X11_178 (by decide) (hg_39 _) rfl rfl (Nat.le_of_ble_eq_true rfl) (Nat.le_of_ble_eq_true rfl) (c_offeredAt hx hd hT _) (by decide) (Nat.zero_le _) (Nat.zero_le _) ?_
    refine E_iconst (v := (-1)) dX11_count_90 rfl ?_
    rw [h9]
    refine E_icmp_eq 100 dX11_count_91 (by decide) (fun c_91 => ?_) (fun c_91 => ?_)
    · refine E_iload_n dX11_count_100 rfl ?_
      exact E_iret dX11_count_101 rfl rfl ⟨rfl, rfl⟩
    · exact absurd rfl c_91
  | succ m ih =>
    intro i z hi hx hd hT
    obtain ⟨h1, h2, h3⟩ := ok_zom hx hd hT
    refine E_aload_n dX11_count_85 rfl ?_
    refine E_iload_n dX11_count_86 rfl ?_
    refine E_V1 dX11_count_87 cv_X11_178 (by decide) (hg_39 _) rfl rfl (Nat.le_of_ble_eq_true rfl) (Nat.le_of_ble_eq_true rfl) (c_offeredAt hx hd hT _) (by decide) (Nat.zero_le _) (Nat.zero_le _) ?_
    refine E_iconst (v := (-1)) dX11_count_90 rfl ?_
    refine E_icmp_eq 100 dX11_count_91 (by decide) (fun c_91 => ?_) (fun c_91 => ?_)
    · refine E_iload_n dX11_count_100 rfl ?_
      exact E_iret dX11_count_101 rfl rfl ⟨by rw [coz, if_pos c_91], by rw [coz, if_pos c_91]⟩
    · refine E_iincL 1 dX11_count_94 rfl rfl (by decide) rfl ?_
      rw [nI_1]
      refine E_goto 85 dX11_count_97 (by decide) ?_
      refine E.pick [1, 2, 0] rfl ?_
      rw [coz, if_neg c_91]
      exact ih (i + 1) _ (by omega) h1 h2 h3
def cntM (z : Sg) (t n nn : Nat) (w : Int32) : Int32 := if w.toInt = 0 then z.F 39 5 else if w.toInt = 1 then z.F 39 32 else if w.toInt = 2 then z.F 39 31 else if w.toInt = 3 then nI (mwr (z.A 48) t t 0) else if w.toInt = 4 then nI (cfz t n n 0 z).1 else if w.toInt = 5 then nI (coz t n nn n 0 z).1 else (-1)
def cnzM (z : Sg) (t n nn : Nat) (w : Int32) : Sg := if w.toInt = 4 then (cfz t n n 0 z).2 else if w.toInt = 5 then (coz t n nn n 0 z).2 else z
theorem c_Mod_count (hx : txOK z t) (hd : mdOK z n) (hT : mtOK z nn) (w : Int32) : EM mMod_count 3 0 0 [.ref 39, .int w] (hp z) (Det (some (.int (cntM (z00 z) t n nn w))) (hp (cnzM (z00 z) t n nn w))) := by
  refine E_aload_n dX11_count_0 rfl ?_
  refine E_iconst (v := 0) dX11_count_1 rfl ?_
  refine E_put 0 dX11_count_2 fp_X11_98 (fitsV_int _) (by decide) (hg_39 _) (Nat.le_of_ble_eq_true rfl) ?_
  rw [hs_39_0]
  refine E_iconst (v := 0) dX11_count_5 rfl ?_
  refine E_istore_n dX11_count_6 (by decide) rfl ?_
  refine E_iload_n dX11_count_7 rfl ?_
  by_cases c_8_0 : (w).toInt = 0
  · refine E_tableIn 48 dX11_count_8 (by omega) (by omega) (by rw [c_8_0]; rfl) (by decide) ?_
    refine E_aload_n dX11_count_48 rfl ?_
    refine E_getf 5 (v := .int (z.F 39 5)) dX11_count_49 fl_X11_22 (by decide) (hg_39 _) rfl ?_
    exact E_iret dX11_count_52 rfl rfl ⟨by rw [cntM]; simp only [*, if_true, if_false, reduceIte, Int.reduceEq, reduceCtorEq] <;> rfl, by rw [cnzM]; simp only [*, if_true, if_false, reduceIte, Int.reduceEq, reduceCtorEq]⟩
  by_cases c_8_1 : (w).toInt = 1
  · refine E_tableIn 53 dX11_count_8 (by omega) (by omega) (by rw [c_8_1]; rfl) (by decide) ?_
    refine E_aload_n dX11_count_53 rfl ?_
    refine E_getf 32 (v := .int (z.F 39 32)) dX11_count_54 fl_X11_191 (by decide) (hg_39 _) rfl ?_
    exact E_iret dX11_count_57 rfl rfl ⟨by rw [cntM]; simp only [*, if_true, if_false, reduceIte, Int.reduceEq, reduceCtorEq] <;> rfl, by rw [cnzM]; simp only [*, if_true, if_false, reduceIte, Int.reduceEq, reduceCtorEq]⟩
  by_cases c_8_2 : (w).toInt = 2
  · refine E_tableIn 58 dX11_count_8 (by omega) (by omega) (by rw [c_8_2]; rfl) (by decide) ?_
    refine E_aload_n dX11_count_58 rfl ?_
    refine E_getf 31 (v := .int (z.F 39 31)) dX11_count_59 fl_X11_181 (by decide) (hg_39 _) rfl ?_
    exact E_iret dX11_count_62 rfl rfl ⟨by rw [cntM]; simp only [*, if_true, if_false, reduceIte, Int.reduceEq, reduceCtorEq] <;> rfl, by rw [cnzM]; simp only [*, if_true, if_false, reduceIte, Int.reduceEq, reduceCtorEq]⟩
  by_cases c_8_3 : (w).toInt = 3
  · refine E_tableIn 63 dX11_count_8 (by omega) (by omega) (by rw [c_8_3]; rfl) (by decide) ?_
    refine E_aload_n dX11_count_63 rfl ?_
    refine E_V0 dX11_count_64 cv_X11_174 (by decide) (hg_39 _) rfl rfl (Nat.le_of_ble_eq_true rfl) (Nat.le_of_ble_eq_true rfl) (c_Mod_written (z := z00 z) hx) (by decide) (Nat.zero_le _) (Nat.zero_le _) ?_
    exact E_iret dX11_count_67 rfl rfl ⟨by rw [cntM]; simp only [*, if_true, if_false, reduceIte, Int.reduceEq, reduceCtorEq] <;> rfl, by rw [cnzM]; simp only [*, if_true, if_false, reduceIte, Int.reduceEq, reduceCtorEq]⟩
  by_cases c_8_4 : (w).toInt = 4
  · refine E_tableIn 68 dX11_count_8 (by omega) (by omega) (by rw [c_8_4]; rfl) (by decide) ?_
    refine E.pick [1, 2, 0] rfl ?_
    have h9 := l_cfz w n 0 (z00 z) (by omega) hx hd
    rw [cntM, cnzM]
    simp only [*, if_true, if_false, reduceIte, Int.reduceEq, reduceCtorEq]
    exact h9
  by_cases c_8_5 : (w).toInt = 5
  · refine E_tableIn 85 dX11_count_8 (by omega) (by omega) (by rw [c_8_5]; rfl) (by decide) ?_
    refine E.pick [1, 2, 0] rfl ?_
    have h9 := l_coz w n 0 (z00 z) (by omega) hx hd hT
    rw [cntM, cnzM]
    simp only [*, if_true, if_false, reduceIte, Int.reduceEq, reduceCtorEq]
    exact h9
  refine E_tableOut 102 dX11_count_8 (by omega) (by decide) ?_
  refine E_iconst (v := (-1)) dX11_count_102 rfl ?_
  exact E_iret dX11_count_103 rfl rfl ⟨by rw [cntM]; simp only [*, if_true, if_false, reduceIte, Int.reduceEq, reduceCtorEq] <;> rfl, by rw [cnzM]; simp only [*, if_true, if_false, reduceIte, Int.reduceEq, reduceCtorEq]⟩
end Tells
