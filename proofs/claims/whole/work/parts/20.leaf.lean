/-! LEAVES without loops -/
theorem b2i_t {p : Prop} [Decidable p] (h : p) : b2i p = 1 := if_pos h
theorem b2i_f {p : Prop} [Decidable p] (h : ¬ p) : b2i p = 0 := if_neg h
theorem si_t {p : Prop} [Decidable p] (h : p) : some (Value.int 1) = some (Value.int (b2i p)) := by rw [b2i_t h]
theorem si_f {p : Prop} [Decidable p] (h : ¬ p) : some (Value.int 0) = some (Value.int (b2i p)) := by rw [b2i_f h]
theorem i32_lt {a b : Int32} : a < b ↔ a.toInt < b.toInt := Int32.lt_iff_toInt_lt
theorem i32_le {a b : Int32} : a ≤ b ↔ a.toInt ≤ b.toInt := Int32.le_iff_toInt_le
theorem i32_eq {a b : Int32} : a = b ↔ a.toInt = b.toInt := Int32.toInt_inj.symm
/-- a letter a .. z -/
abbrev isL (x : Int32) : Prop := 97 ≤ x.toInt ∧ x.toInt ≤ 122
theorem isL_dec (x : Int32) : (97 ≤ x.toInt ∧ x.toInt ≤ 122) ↔ isL x := Iff.rfl
theorem c_isLetter (z : HP) (x : Int32) : EM mDesk_isLetter 0 0 0 [.int x] z (Det (some (.int (b2i (isL x)))) z) := by
  refine E_iload_n dX10_isLetter_0 rfl ?_
  refine E_bipush (v := 97) dX10_isLetter_1 rfl ?_
  refine E_icmp_lt 16 dX10_isLetter_3 (by decide) (fun c_3 => ?_) (fun c_3 => ?_)
  · refine E_iconst (v := 0) dX10_isLetter_16 rfl ?_
    exact E_iret dX10_isLetter_17 rfl rfl ⟨by first | exact si_t (by simp only [i32_lt, i32_le, i32_eq, Int32.reduceToInt] at *; exact ⟨by omega, by omega⟩) | exact si_f (by simp only [i32_lt, i32_le, i32_eq, Int32.reduceToInt] at *; omega), rfl⟩
  · refine E_iload_n dX10_isLetter_6 rfl ?_
    refine E_bipush (v := 123) dX10_isLetter_7 rfl ?_
    refine E_icmp_ge 16 dX10_isLetter_9 (by decide) (fun c_9 => ?_) (fun c_9 => ?_)
    · refine E_iconst (v := 0) dX10_isLetter_16 rfl ?_
      exact E_iret dX10_isLetter_17 rfl rfl ⟨by first | exact si_t (by simp only [i32_lt, i32_le, i32_eq, Int32.reduceToInt] at *; exact ⟨by omega, by omega⟩) | exact si_f (by simp only [i32_lt, i32_le, i32_eq, Int32.reduceToInt] at *; omega), rfl⟩
    · refine E_iconst (v := 1) dX10_isLetter_12 rfl ?_
      refine E_goto 17 dX10_isLetter_13 (by decide) ?_
      exact E_iret dX10_isLetter_17 rfl rfl ⟨by first | exact si_t (by simp only [i32_lt, i32_le, i32_eq, Int32.reduceToInt] at *; exact ⟨by omega, by omega⟩) | exact si_f (by simp only [i32_lt, i32_le, i32_eq, Int32.reduceToInt] at *; omega), rfl⟩
