/-! Math.max, Math.min, the constants -/
section EMa
variable {y : MI} {d k n pc : Nat} {lv : List (Nat × Value)} {st : List Value} {h : HP} {Q : Option Value → HP → Prop}
theorem ml_max : Cond.static Lib.Math.max.name ∈ GT ∧ Cond.code Lib.Math.max.name Lib.Math.max.code 2 (some .int) ∈ GT ∧ Cond.initialized "java/lang/Math" ∈ GT := ⟨gt_in 415 (by decide +kernel) rfl, gt_in 416 (by decide +kernel) rfl, gt_in 14 (by decide +kernel) rfl⟩
theorem ml_min : Cond.static Lib.Math.min.name ∈ GT ∧ Cond.code Lib.Math.min.name Lib.Math.min.code 2 (some .int) ∈ GT := ⟨gt_in 608 (by decide +kernel) rfl, gt_in 609 (by decide +kernel) rfl⟩
theorem ml_lmin : Cond.static Lib.MathLoose.min_long.x ∈ GT ∧ Cond.code Lib.MathLoose.min_long.x Lib.MathLoose.min_long.code 4 (some .long) ∈ GT := ⟨gt_in 1137 (by decide +kernel) rfl, gt_in 1138 (by decide +kernel) rfl⟩
theorem E_mmax {idx : Nat} {a b : Int32} (hd : decode y.2.1 pc = .ok (.invokestatic idx, 3)) (hg : Cond.methodLink y.1.cls idx Lib.Math.max.name ∈ GT) (hd1 : 1 ≤ d) (hw : (st.map fun v => v.category).sum ≤ 8) (K : E y d k n (pc + 3) lv (.int (if a < b then b else a) :: st) h Q) : E y d k n pc lv (.int b :: .int a :: st) h Q := by
  intro p l e R s m args below meth c H locs cells slots mc ms N0 B D ca tys ls c1 c2 c3 c4 c5 c6 c7 c8
  have hts := c1.2.2.2.2.2.1
  exact va_mmax c1.1 c1.2.1 (c1.2.2.2.1.trans c8.1.symm) c1.2.2.2.2.1 (hts _ hg) (hts _ ml_max.1) (hts _ ml_max.2.2) (hts _ ml_max.2.1) (Nat.le_trans hd1 c2.1) (by rw [cat_map]; have := c2.2.1; omega) (by have := c2.2.2.1; omega) (by have := c2.2.2.2; omega) hd (K p l e R s m args below meth c H locs cells slots mc ms N0 B D ca tys ls c1 c2 c3 c4 c5 c6 c7 c8)
theorem E_mmin {idx : Nat} {a b : Int32} (hd : decode y.2.1 pc = .ok (.invokestatic idx, 3)) (hg : Cond.methodLink y.1.cls idx Lib.Math.min.name ∈ GT) (hd1 : 1 ≤ d) (hw : (st.map fun v => v.category).sum ≤ 8) (K : E y d k n (pc + 3) lv (.int (if b < a then b else a) :: st) h Q) : E y d k n pc lv (.int b :: .int a :: st) h Q := by
  intro p l e R s m args below meth c H locs cells slots mc ms N0 B D ca tys ls c1 c2 c3 c4 c5 c6 c7 c8
  have hts := c1.2.2.2.2.2.1
  exact va_mmin c1.1 c1.2.1 (c1.2.2.2.1.trans c8.1.symm) c1.2.2.2.2.1 (hts _ hg) (hts _ ml_min.1) (hts _ ml_max.2.2) (hts _ ml_min.2) (Nat.le_trans hd1 c2.1) (by rw [cat_map]; have := c2.2.1; omega) (by have := c2.2.2.1; omega) (by have := c2.2.2.2; omega) hd (K p l e R s m args below meth c H locs cells slots mc ms N0 B D ca tys ls c1 c2 c3 c4 c5 c6 c7 c8)
theorem E_lmin {idx : Nat} {a b : Int64} (hd : decode y.2.1 pc = .ok (.invokestatic idx, 3)) (hg : Cond.methodLink y.1.cls idx Lib.MathLoose.min_long.x ∈ GT) (hd1 : 1 ≤ d) (hw : (st.map fun v => v.category).sum ≤ 8) (K : E y d k n (pc + 3) lv (.long (if b < a then b else a) :: st) h Q) : E y d k n pc lv (.long b :: .long a :: st) h Q := by
  intro p l e R s m args below meth c H locs cells slots mc ms N0 B D ca tys ls c1 c2 c3 c4 c5 c6 c7 c8
  have hts := c1.2.2.2.2.2.1
  exact va_mmin_long c1.1 c1.2.1 (c1.2.2.2.1.trans c8.1.symm) c1.2.2.2.2.1 (hts _ hg) (hts _ ml_lmin.1) (hts _ ml_max.2.2) (hts _ ml_lmin.2) (Nat.le_trans hd1 c2.1) (by rw [cat_map]; have := c2.2.1; omega) (by have := c2.2.2.1; omega) (by have := c2.2.2.2; omega) hd (K p l e R s m args below meth c H locs cells slots mc ms N0 B D ca tys ls c1 c2 c3 c4 c5 c6 c7 c8)
theorem k_52 : Cond.constant RX3 52 1000000 ∈ GT := gt_in 409 (by decide +kernel) rfl
theorem k_142 : Cond.constant RX11 142 1000000 ∈ GT := gt_in 995 (by decide +kernel) rfl
theorem k_48 : Cond.constantLong RX6 48 (-1) ∈ GT := gt_in 657 (by decide +kernel) rfl
theorem k_210 : Cond.constantLong RX11 210 (-1) ∈ GT := gt_in 1115 (by decide +kernel) rfl
theorem k_218 : Cond.constantLong RX11 218 9223372036854775807 ∈ GT := gt_in 1124 (by decide +kernel) rfl
theorem k_233 : Cond.constantLong RX11 233 2305843009213693951 ∈ GT := gt_in 1139 (by decide +kernel) rfl
theorem a_int : Cond.arrayClass (kty 0) ∈ GT := gt_in 37 (by decide +kernel) rfl
theorem a_bool : Cond.arrayClass (kty 1) ∈ GT := gt_in 108 (by decide +kernel) rfl
theorem a_byte : Cond.arrayClass (kty 2) ∈ GT := gt_in 943 (by decide +kernel) rfl
theorem a_long : Cond.arrayClass (kty 3) ∈ GT := gt_in 944 (by decide +kernel) rfl
theorem mt_X3_58 : Cond.methodLink RX3 58 Lib.Math.max.name ∈ GT := gt_in 414 (by decide +kernel) rfl
theorem mt_X0_51 : Cond.methodLink RX0 51 Lib.Math.min.name ∈ GT := gt_in 607 (by decide +kernel) rfl
theorem mt_X6_76 : Cond.methodLink RX6 76 Lib.Math.min.name ∈ GT := gt_in 670 (by decide +kernel) rfl
theorem mt_X5_79 : Cond.methodLink RX5 79 Lib.Math.max.name ∈ GT := gt_in 721 (by decide +kernel) rfl
theorem mt_X11_227 : Cond.methodLink RX11 227 Lib.MathLoose.min_long.x ∈ GT := gt_in 1136 (by decide +kernel) rfl
theorem ck_X7_9 : Cond.classLink RX7 9 "SwitchDesk$Chain" ∈ GT := gt_in 160 (by decide +kernel) rfl
theorem fs_X4_19 : Cond.fieldLink RX4 19 "SwitchDesk$Numbers" "LOWEST" "[I" ∈ GT := gt_in 396 (by decide +kernel) rfl
theorem fs_X4_22 : Cond.fieldLink RX4 22 "SwitchDesk$Numbers" "HIGHEST" "[I" ∈ GT := gt_in 398 (by decide +kernel) rfl
end EMa
