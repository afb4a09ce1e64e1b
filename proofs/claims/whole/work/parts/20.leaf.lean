/-! LEAVES without loops -/
theorem b2i_t {p : Prop} [Decidable p] (h : p) : b2i p = 1 := if_pos h
theorem b2i_f {p : Prop} [Decidable p] (h : ¬ p) : b2i p = 0 := if_neg h
theorem b2i_ne {p : Prop} [Decidable p] (h : ¬ b2i p = 0) : p := by
  by_cases hp : p
  · exact hp
  · exact absurd (b2i_f hp) h
theorem b2i_e0 {p : Prop} [Decidable p] (h : b2i p = 0) : ¬ p := fun hp => by rw [b2i_t hp] at h; exact absurd h (by decide)
theorem b2i_01 {p : Prop} [Decidable p] : b2i p = 0 ∨ b2i p = 1 := by
  by_cases hp : p
  · exact Or.inr (b2i_t hp)
  · exact Or.inl (b2i_f hp)
theorem b2i_nar {p : Prop} [Decidable p] : narrow .boolean (.int (b2i p)) = .int (b2i p) := by
  rcases b2i_01 (p := p) with h | h <;> rw [h] <;> rfl
theorem si_t {p : Prop} [Decidable p] (h : p) : some (Value.int 1) = some (Value.int (b2i p)) := by rw [b2i_t h]
theorem si_f {p : Prop} [Decidable p] (h : ¬ p) : some (Value.int 0) = some (Value.int (b2i p)) := by rw [b2i_f h]
theorem i32_lt {a b : Int32} : a < b ↔ a.toInt < b.toInt := Int32.lt_iff_toInt_lt
theorem i32_le {a b : Int32} : a ≤ b ↔ a.toInt ≤ b.toInt := Int32.le_iff_toInt_le
theorem i32_eq {a b : Int32} : a = b ↔ a.toInt = b.toInt := Int32.toInt_inj.symm
theorem sv_if {p : Prop} [Decidable p] {a b : Int32} (h : p) : some (Value.int a) = some (Value.int (if p then a else b)) := by rw [if_pos h]
theorem sv_el {p : Prop} [Decidable p] {a b : Int32} (h : ¬ p) : some (Value.int b) = some (Value.int (if p then a else b)) := by rw [if_neg h]
/-- a letter a .. z -/
abbrev isL (x : Int32) : Prop := 97 ≤ x.toInt ∧ x.toInt ≤ 122
/-- within bounds -/
abbrev inB (x a b : Int32) : Prop := a.toInt ≤ x.toInt ∧ x.toInt ≤ b.toInt
/-- a place below n -/
abbrev ltN (x n : Int32) : Prop := 0 ≤ x.toInt ∧ x.toInt < n.toInt
theorem c_isLetter (z : HP) (x : Int32) : EM mDesk_isLetter 0 0 0 [.int x] z (Det (some (.int (b2i (isL x)))) z) := by
  refine E_iload_n dX10_isLetter_0 rfl ?_
  refine E_bipush (v := 97) dX10_isLetter_1 rfl ?_
  refine E_icmp_lt 16 dX10_isLetter_3 (by decide) (fun c_3 => ?_) (fun c_3 => ?_)
  · refine E_iconst (v := 0) dX10_isLetter_16 rfl ?_
    exact E_iret dX10_isLetter_17 rfl rfl ⟨by first | exact si_t (by simp only [i32_lt, i32_le, i32_eq, Int32.reduceToInt] at *; exact ⟨by omega, by omega⟩) | exact si_t (by simp only [i32_lt, i32_le, i32_eq, Int32.reduceToInt] at *; omega) | exact si_f (by simp only [i32_lt, i32_le, i32_eq, Int32.reduceToInt] at *; omega), rfl⟩
  · refine E_iload_n dX10_isLetter_6 rfl ?_
    refine E_bipush (v := 123) dX10_isLetter_7 rfl ?_
    refine E_icmp_ge 16 dX10_isLetter_9 (by decide) (fun c_9 => ?_) (fun c_9 => ?_)
    · refine E_iconst (v := 0) dX10_isLetter_16 rfl ?_
      exact E_iret dX10_isLetter_17 rfl rfl ⟨by first | exact si_t (by simp only [i32_lt, i32_le, i32_eq, Int32.reduceToInt] at *; exact ⟨by omega, by omega⟩) | exact si_t (by simp only [i32_lt, i32_le, i32_eq, Int32.reduceToInt] at *; omega) | exact si_f (by simp only [i32_lt, i32_le, i32_eq, Int32.reduceToInt] at *; omega), rfl⟩
    · refine E_iconst (v := 1) dX10_isLetter_12 rfl ?_
      refine E_goto 17 dX10_isLetter_13 (by decide) ?_
      exact E_iret dX10_isLetter_17 rfl rfl ⟨by first | exact si_t (by simp only [i32_lt, i32_le, i32_eq, Int32.reduceToInt] at *; exact ⟨by omega, by omega⟩) | exact si_t (by simp only [i32_lt, i32_le, i32_eq, Int32.reduceToInt] at *; omega) | exact si_f (by simp only [i32_lt, i32_le, i32_eq, Int32.reduceToInt] at *; omega), rfl⟩
theorem c_within (z : HP) (x a b : Int32) : EM mDesk_within 0 0 0 [.int x, .int a, .int b] z (Det (some (.int (b2i (inB x a b)))) z) := by
  refine E_iload_n dX10_within_0 rfl ?_
  refine E_iload_n dX10_within_1 rfl ?_
  refine E_icmp_lt 14 dX10_within_2 (by decide) (fun c_2 => ?_) (fun c_2 => ?_)
  · refine E_iconst (v := 0) dX10_within_14 rfl ?_
    exact E_iret dX10_within_15 rfl rfl ⟨by first | exact si_t (by simp only [i32_lt, i32_le, i32_eq, Int32.reduceToInt] at *; exact ⟨by omega, by omega⟩) | exact si_t (by simp only [i32_lt, i32_le, i32_eq, Int32.reduceToInt] at *; omega) | exact si_f (by simp only [i32_lt, i32_le, i32_eq, Int32.reduceToInt] at *; omega), rfl⟩
  · refine E_iload_n dX10_within_5 rfl ?_
    refine E_iload_n dX10_within_6 rfl ?_
    refine E_icmp_gt 14 dX10_within_7 (by decide) (fun c_7 => ?_) (fun c_7 => ?_)
    · refine E_iconst (v := 0) dX10_within_14 rfl ?_
      exact E_iret dX10_within_15 rfl rfl ⟨by first | exact si_t (by simp only [i32_lt, i32_le, i32_eq, Int32.reduceToInt] at *; exact ⟨by omega, by omega⟩) | exact si_t (by simp only [i32_lt, i32_le, i32_eq, Int32.reduceToInt] at *; omega) | exact si_f (by simp only [i32_lt, i32_le, i32_eq, Int32.reduceToInt] at *; omega), rfl⟩
    · refine E_iconst (v := 1) dX10_within_10 rfl ?_
      refine E_goto 15 dX10_within_11 (by decide) ?_
      exact E_iret dX10_within_15 rfl rfl ⟨by first | exact si_t (by simp only [i32_lt, i32_le, i32_eq, Int32.reduceToInt] at *; exact ⟨by omega, by omega⟩) | exact si_t (by simp only [i32_lt, i32_le, i32_eq, Int32.reduceToInt] at *; omega) | exact si_f (by simp only [i32_lt, i32_le, i32_eq, Int32.reduceToInt] at *; omega), rfl⟩
theorem c_isSmall (z : HP) (x : Int32) : EM mMod_isSmall 0 0 0 [.int x] z (Det (some (.int (b2i (isL x)))) z) := by
  refine E_iload_n dX11_isSmall_0 rfl ?_
  refine E_bipush (v := 97) dX11_isSmall_1 rfl ?_
  refine E_icmp_lt 16 dX11_isSmall_3 (by decide) (fun c_3 => ?_) (fun c_3 => ?_)
  · refine E_iconst (v := 0) dX11_isSmall_16 rfl ?_
    exact E_iret dX11_isSmall_17 rfl rfl ⟨by first | exact si_t (by simp only [i32_lt, i32_le, i32_eq, Int32.reduceToInt] at *; exact ⟨by omega, by omega⟩) | exact si_t (by simp only [i32_lt, i32_le, i32_eq, Int32.reduceToInt] at *; omega) | exact si_f (by simp only [i32_lt, i32_le, i32_eq, Int32.reduceToInt] at *; omega), rfl⟩
  · refine E_iload_n dX11_isSmall_6 rfl ?_
    refine E_bipush (v := 122) dX11_isSmall_7 rfl ?_
    refine E_icmp_gt 16 dX11_isSmall_9 (by decide) (fun c_9 => ?_) (fun c_9 => ?_)
    · refine E_iconst (v := 0) dX11_isSmall_16 rfl ?_
      exact E_iret dX11_isSmall_17 rfl rfl ⟨by first | exact si_t (by simp only [i32_lt, i32_le, i32_eq, Int32.reduceToInt] at *; exact ⟨by omega, by omega⟩) | exact si_t (by simp only [i32_lt, i32_le, i32_eq, Int32.reduceToInt] at *; omega) | exact si_f (by simp only [i32_lt, i32_le, i32_eq, Int32.reduceToInt] at *; omega), rfl⟩
    · refine E_iconst (v := 1) dX11_isSmall_12 rfl ?_
      refine E_goto 17 dX11_isSmall_13 (by decide) ?_
      exact E_iret dX11_isSmall_17 rfl rfl ⟨by first | exact si_t (by simp only [i32_lt, i32_le, i32_eq, Int32.reduceToInt] at *; exact ⟨by omega, by omega⟩) | exact si_t (by simp only [i32_lt, i32_le, i32_eq, Int32.reduceToInt] at *; omega) | exact si_f (by simp only [i32_lt, i32_le, i32_eq, Int32.reduceToInt] at *; omega), rfl⟩
theorem c_isIn (z : HP) (x a b : Int32) : EM mMod_isIn 0 0 0 [.int x, .int a, .int b] z (Det (some (.int (b2i (inB x a b)))) z) := by
  refine E_iload_n dX11_isIn_0 rfl ?_
  refine E_iload_n dX11_isIn_1 rfl ?_
  refine E_icmp_lt 14 dX11_isIn_2 (by decide) (fun c_2 => ?_) (fun c_2 => ?_)
  · refine E_iconst (v := 0) dX11_isIn_14 rfl ?_
    exact E_iret dX11_isIn_15 rfl rfl ⟨by first | exact si_t (by simp only [i32_lt, i32_le, i32_eq, Int32.reduceToInt] at *; exact ⟨by omega, by omega⟩) | exact si_t (by simp only [i32_lt, i32_le, i32_eq, Int32.reduceToInt] at *; omega) | exact si_f (by simp only [i32_lt, i32_le, i32_eq, Int32.reduceToInt] at *; omega), rfl⟩
  · refine E_iload_n dX11_isIn_5 rfl ?_
    refine E_iload_n dX11_isIn_6 rfl ?_
    refine E_icmp_gt 14 dX11_isIn_7 (by decide) (fun c_7 => ?_) (fun c_7 => ?_)
    · refine E_iconst (v := 0) dX11_isIn_14 rfl ?_
      exact E_iret dX11_isIn_15 rfl rfl ⟨by first | exact si_t (by simp only [i32_lt, i32_le, i32_eq, Int32.reduceToInt] at *; exact ⟨by omega, by omega⟩) | exact si_t (by simp only [i32_lt, i32_le, i32_eq, Int32.reduceToInt] at *; omega) | exact si_f (by simp only [i32_lt, i32_le, i32_eq, Int32.reduceToInt] at *; omega), rfl⟩
    · refine E_iconst (v := 1) dX11_isIn_10 rfl ?_
      refine E_goto 15 dX11_isIn_11 (by decide) ?_
      exact E_iret dX11_isIn_15 rfl rfl ⟨by first | exact si_t (by simp only [i32_lt, i32_le, i32_eq, Int32.reduceToInt] at *; exact ⟨by omega, by omega⟩) | exact si_t (by simp only [i32_lt, i32_le, i32_eq, Int32.reduceToInt] at *; omega) | exact si_f (by simp only [i32_lt, i32_le, i32_eq, Int32.reduceToInt] at *; omega), rfl⟩
theorem c_isNode (z : Sg) (x : Int32) : EM mMod_isNode 0 0 0 [.ref 39, .int x] (hp z) (Det (some (.int (b2i (ltN x (z.F 39 5))))) (hp z)) := by
  refine E_iload_n dX11_isNode_0 rfl ?_
  refine E_if_lt 16 dX11_isNode_1 (by decide) (fun c_1 => ?_) (fun c_1 => ?_)
  · refine E_iconst (v := 0) dX11_isNode_16 rfl ?_
    exact E_iret dX11_isNode_17 rfl rfl ⟨by first | exact si_t (by simp only [i32_lt, i32_le, i32_eq, Int32.reduceToInt] at *; exact ⟨by omega, by omega⟩) | exact si_t (by simp only [i32_lt, i32_le, i32_eq, Int32.reduceToInt] at *; omega) | exact si_f (by simp only [i32_lt, i32_le, i32_eq, Int32.reduceToInt] at *; omega), rfl⟩
  · refine E_iload_n dX11_isNode_4 rfl ?_
    refine E_aload_n dX11_isNode_5 rfl ?_
    refine E_getf 5 dX11_isNode_6 fl_X11_22 (by decide) (hg_39 _) rfl ?_
    refine E_icmp_ge 16 dX11_isNode_9 (by decide) (fun c_9 => ?_) (fun c_9 => ?_)
    · refine E_iconst (v := 0) dX11_isNode_16 rfl ?_
      exact E_iret dX11_isNode_17 rfl rfl ⟨by first | exact si_t (by simp only [i32_lt, i32_le, i32_eq, Int32.reduceToInt] at *; exact ⟨by omega, by omega⟩) | exact si_t (by simp only [i32_lt, i32_le, i32_eq, Int32.reduceToInt] at *; omega) | exact si_f (by simp only [i32_lt, i32_le, i32_eq, Int32.reduceToInt] at *; omega), rfl⟩
    · refine E_iconst (v := 1) dX11_isNode_12 rfl ?_
      refine E_goto 17 dX11_isNode_13 (by decide) ?_
      exact E_iret dX11_isNode_17 rfl rfl ⟨by first | exact si_t (by simp only [i32_lt, i32_le, i32_eq, Int32.reduceToInt] at *; exact ⟨by omega, by omega⟩) | exact si_t (by simp only [i32_lt, i32_le, i32_eq, Int32.reduceToInt] at *; omega) | exact si_f (by simp only [i32_lt, i32_le, i32_eq, Int32.reduceToInt] at *; omega), rfl⟩
theorem c_has (z : Sg) (x : Int32) : EM mTray_has 0 0 0 [.ref 6, .int x] (hp z) (Det (some (.int (b2i (ltN x (z.F 6 10))))) (hp z)) := by
  refine E_iload_n dX9_has_0 rfl ?_
  refine E_if_lt 16 dX9_has_1 (by decide) (fun c_1 => ?_) (fun c_1 => ?_)
  · refine E_iconst (v := 0) dX9_has_16 rfl ?_
    exact E_iret dX9_has_17 rfl rfl ⟨by first | exact si_t (by simp only [i32_lt, i32_le, i32_eq, Int32.reduceToInt] at *; exact ⟨by omega, by omega⟩) | exact si_t (by simp only [i32_lt, i32_le, i32_eq, Int32.reduceToInt] at *; omega) | exact si_f (by simp only [i32_lt, i32_le, i32_eq, Int32.reduceToInt] at *; omega), rfl⟩
  · refine E_iload_n dX9_has_4 rfl ?_
    refine E_aload_n dX9_has_5 rfl ?_
    refine E_getf 10 dX9_has_6 fl_X9_49 (by decide) (hg_6 _) rfl ?_
    refine E_icmp_ge 16 dX9_has_9 (by decide) (fun c_9 => ?_) (fun c_9 => ?_)
    · refine E_iconst (v := 0) dX9_has_16 rfl ?_
      exact E_iret dX9_has_17 rfl rfl ⟨by first | exact si_t (by simp only [i32_lt, i32_le, i32_eq, Int32.reduceToInt] at *; exact ⟨by omega, by omega⟩) | exact si_t (by simp only [i32_lt, i32_le, i32_eq, Int32.reduceToInt] at *; omega) | exact si_f (by simp only [i32_lt, i32_le, i32_eq, Int32.reduceToInt] at *; omega), rfl⟩
    · refine E_iconst (v := 1) dX9_has_12 rfl ?_
      refine E_goto 17 dX9_has_13 (by decide) ?_
      exact E_iret dX9_has_17 rfl rfl ⟨by first | exact si_t (by simp only [i32_lt, i32_le, i32_eq, Int32.reduceToInt] at *; exact ⟨by omega, by omega⟩) | exact si_t (by simp only [i32_lt, i32_le, i32_eq, Int32.reduceToInt] at *; omega) | exact si_f (by simp only [i32_lt, i32_le, i32_eq, Int32.reduceToInt] at *; omega), rfl⟩
theorem c_Tray_size (z : Sg) : EM mTray_size 0 0 0 [.ref 6] (hp z) (Det (some (.int (z.F 6 10))) (hp z)) := by
  refine E_aload_n dX9_size_0 rfl ?_
  refine E_getf 10 dX9_size_1 fl_X9_49 (by decide) (hg_6 _) rfl ?_
  exact E_iret dX9_size_4 rfl rfl ⟨rfl, rfl⟩
/-- what a tray's row holds at a node, or else d -/
def tg (z : Sg) (a : Nat) (x d : Int32) : Int32 := if ltN x (z.F 6 10) then z.A a x.toNatClampNeg else d
theorem tg_in {n : Nat} {x s : Int32} (h : ltN x s) (hs : s.toInt ≤ n) : vp_in x n := vp_in_iff.mpr ⟨h.1, by have := h.2; omega⟩
theorem c_kindOf (z : Sg) (hs : (z.F 6 10).toInt ≤ 60) (x : Int32) : EM mTray_kindOf 1 0 0 [.ref 6, .int x] (hp z) (Det (some (.int (tg z 7 x (-1)))) (hp z)) := by
  refine E_aload_n dX9_kindOf_0 rfl ?_
  refine E_iload_n dX9_kindOf_1 rfl ?_
  refine E_V1 dX9_kindOf_2 cv_X9_81 (by decide) (hg_6 _) rfl rfl (Nat.le_of_ble_eq_true rfl) (Nat.le_of_ble_eq_true rfl) (c_has z x) (by decide) (Nat.zero_le _) (Nat.zero_le _) ?_
  refine E_if_eq 17 dX9_kindOf_5 (by decide) (fun c_5 => ?_) (fun c_5 => ?_)
  · refine E_iconst (v := (-1)) dX9_kindOf_17 rfl ?_
    exact E_iret dX9_kindOf_18 rfl rfl ⟨by first | exact sv_if (b2i_ne c_5) | exact sv_el (b2i_e0 c_5), rfl⟩
  · refine E_aload_n dX9_kindOf_8 rfl ?_
    refine E_getf 0 dX9_kindOf_9 fl_X9_11 (by decide) (hg_6 _) rfl ?_
    refine E_iload_n dX9_kindOf_12 rfl ?_
    refine E_iald dX9_kindOf_13 (by decide) (hg_7 _) (tg_in (b2i_ne c_5) hs) ?_
    refine E_goto 18 dX9_kindOf_14 (by decide) ?_
    exact E_iret dX9_kindOf_18 rfl rfl ⟨by first | exact sv_if (b2i_ne c_5) | exact sv_el (b2i_e0 c_5), rfl⟩
theorem c_valueOf (z : Sg) (hs : (z.F 6 10).toInt ≤ 60) (x : Int32) : EM mTray_valueOf 1 0 0 [.ref 6, .int x] (hp z) (Det (some (.int (tg z 8 x (-1)))) (hp z)) := by
  refine E_aload_n dX9_valueOf_0 rfl ?_
  refine E_iload_n dX9_valueOf_1 rfl ?_
  refine E_V1 dX9_valueOf_2 cv_X9_81 (by decide) (hg_6 _) rfl rfl (Nat.le_of_ble_eq_true rfl) (Nat.le_of_ble_eq_true rfl) (c_has z x) (by decide) (Nat.zero_le _) (Nat.zero_le _) ?_
  refine E_if_eq 17 dX9_valueOf_5 (by decide) (fun c_5 => ?_) (fun c_5 => ?_)
  · refine E_iconst (v := (-1)) dX9_valueOf_17 rfl ?_
    exact E_iret dX9_valueOf_18 rfl rfl ⟨by first | exact sv_if (b2i_ne c_5) | exact sv_el (b2i_e0 c_5), rfl⟩
  · refine E_aload_n dX9_valueOf_8 rfl ?_
    refine E_getf 1 dX9_valueOf_9 fl_X9_15 (by decide) (hg_6 _) rfl ?_
    refine E_iload_n dX9_valueOf_12 rfl ?_
    refine E_iald dX9_valueOf_13 (by decide) (hg_8 _) (tg_in (b2i_ne c_5) hs) ?_
    refine E_goto 18 dX9_valueOf_14 (by decide) ?_
    exact E_iret dX9_valueOf_18 rfl rfl ⟨by first | exact sv_if (b2i_ne c_5) | exact sv_el (b2i_e0 c_5), rfl⟩
theorem c_groupOf (z : Sg) (hs : (z.F 6 10).toInt ≤ 60) (x : Int32) : EM mTray_groupOf 1 0 0 [.ref 6, .int x] (hp z) (Det (some (.int (tg z 9 x (-1)))) (hp z)) := by
  refine E_aload_n dX9_groupOf_0 rfl ?_
  refine E_iload_n dX9_groupOf_1 rfl ?_
  refine E_V1 dX9_groupOf_2 cv_X9_81 (by decide) (hg_6 _) rfl rfl (Nat.le_of_ble_eq_true rfl) (Nat.le_of_ble_eq_true rfl) (c_has z x) (by decide) (Nat.zero_le _) (Nat.zero_le _) ?_
  refine E_if_eq 17 dX9_groupOf_5 (by decide) (fun c_5 => ?_) (fun c_5 => ?_)
  · refine E_iconst (v := (-1)) dX9_groupOf_17 rfl ?_
    exact E_iret dX9_groupOf_18 rfl rfl ⟨by first | exact sv_if (b2i_ne c_5) | exact sv_el (b2i_e0 c_5), rfl⟩
  · refine E_aload_n dX9_groupOf_8 rfl ?_
    refine E_getf 2 dX9_groupOf_9 fl_X9_18 (by decide) (hg_6 _) rfl ?_
    refine E_iload_n dX9_groupOf_12 rfl ?_
    refine E_iald dX9_groupOf_13 (by decide) (hg_9 _) (tg_in (b2i_ne c_5) hs) ?_
    refine E_goto 18 dX9_groupOf_14 (by decide) ?_
    exact E_iret dX9_groupOf_18 rfl rfl ⟨by first | exact sv_if (b2i_ne c_5) | exact sv_el (b2i_e0 c_5), rfl⟩
theorem c_placeOf (z : Sg) (hs : (z.F 6 10).toInt ≤ 60) (x : Int32) : EM mTray_placeOf 1 0 0 [.ref 6, .int x] (hp z) (Det (some (.int (tg z 10 x (-1)))) (hp z)) := by
  refine E_aload_n dX9_placeOf_0 rfl ?_
  refine E_iload_n dX9_placeOf_1 rfl ?_
  refine E_V1 dX9_placeOf_2 cv_X9_81 (by decide) (hg_6 _) rfl rfl (Nat.le_of_ble_eq_true rfl) (Nat.le_of_ble_eq_true rfl) (c_has z x) (by decide) (Nat.zero_le _) (Nat.zero_le _) ?_
  refine E_if_eq 17 dX9_placeOf_5 (by decide) (fun c_5 => ?_) (fun c_5 => ?_)
  · refine E_iconst (v := (-1)) dX9_placeOf_17 rfl ?_
    exact E_iret dX9_placeOf_18 rfl rfl ⟨by first | exact sv_if (b2i_ne c_5) | exact sv_el (b2i_e0 c_5), rfl⟩
  · refine E_aload_n dX9_placeOf_8 rfl ?_
    refine E_getf 3 dX9_placeOf_9 fl_X9_21 (by decide) (hg_6 _) rfl ?_
    refine E_iload_n dX9_placeOf_12 rfl ?_
    refine E_iald dX9_placeOf_13 (by decide) (hg_10 _) (tg_in (b2i_ne c_5) hs) ?_
    refine E_goto 18 dX9_placeOf_14 (by decide) ?_
    exact E_iret dX9_placeOf_18 rfl rfl ⟨by first | exact sv_if (b2i_ne c_5) | exact sv_el (b2i_e0 c_5), rfl⟩
theorem c_firstIn (z : Sg) (hs : (z.F 6 10).toInt ≤ 60) (x : Int32) : EM mTray_firstIn 1 0 0 [.ref 6, .int x] (hp z) (Det (some (.int (tg z 12 x (-1)))) (hp z)) := by
  refine E_aload_n dX9_firstIn_0 rfl ?_
  refine E_iload_n dX9_firstIn_1 rfl ?_
  refine E_V1 dX9_firstIn_2 cv_X9_81 (by decide) (hg_6 _) rfl rfl (Nat.le_of_ble_eq_true rfl) (Nat.le_of_ble_eq_true rfl) (c_has z x) (by decide) (Nat.zero_le _) (Nat.zero_le _) ?_
  refine E_if_eq 17 dX9_firstIn_5 (by decide) (fun c_5 => ?_) (fun c_5 => ?_)
  · refine E_iconst (v := (-1)) dX9_firstIn_17 rfl ?_
    exact E_iret dX9_firstIn_18 rfl rfl ⟨by first | exact sv_if (b2i_ne c_5) | exact sv_el (b2i_e0 c_5), rfl⟩
  · refine E_aload_n dX9_firstIn_8 rfl ?_
    refine E_getf 5 dX9_firstIn_9 fl_X9_27 (by decide) (hg_6 _) rfl ?_
    refine E_iload_n dX9_firstIn_12 rfl ?_
    refine E_iald dX9_firstIn_13 (by decide) (hg_12 _) (tg_in (b2i_ne c_5) hs) ?_
    refine E_goto 18 dX9_firstIn_14 (by decide) ?_
    exact E_iret dX9_firstIn_18 rfl rfl ⟨by first | exact sv_if (b2i_ne c_5) | exact sv_el (b2i_e0 c_5), rfl⟩
theorem c_behind (z : Sg) (hs : (z.F 6 10).toInt ≤ 60) (x : Int32) : EM mTray_behind 1 0 0 [.ref 6, .int x] (hp z) (Det (some (.int (tg z 14 x (-1)))) (hp z)) := by
  refine E_aload_n dX9_behind_0 rfl ?_
  refine E_iload_n dX9_behind_1 rfl ?_
  refine E_V1 dX9_behind_2 cv_X9_81 (by decide) (hg_6 _) rfl rfl (Nat.le_of_ble_eq_true rfl) (Nat.le_of_ble_eq_true rfl) (c_has z x) (by decide) (Nat.zero_le _) (Nat.zero_le _) ?_
  refine E_if_eq 17 dX9_behind_5 (by decide) (fun c_5 => ?_) (fun c_5 => ?_)
  · refine E_iconst (v := (-1)) dX9_behind_17 rfl ?_
    exact E_iret dX9_behind_18 rfl rfl ⟨by first | exact sv_if (b2i_ne c_5) | exact sv_el (b2i_e0 c_5), rfl⟩
  · refine E_aload_n dX9_behind_8 rfl ?_
    refine E_getf 7 dX9_behind_9 fl_X9_33 (by decide) (hg_6 _) rfl ?_
    refine E_iload_n dX9_behind_12 rfl ?_
    refine E_iald dX9_behind_13 (by decide) (hg_14 _) (tg_in (b2i_ne c_5) hs) ?_
    refine E_goto 18 dX9_behind_14 (by decide) ?_
    exact E_iret dX9_behind_18 rfl rfl ⟨by first | exact sv_if (b2i_ne c_5) | exact sv_el (b2i_e0 c_5), rfl⟩
theorem c_lightsOf (z : Sg) (hs : (z.F 6 10).toInt ≤ 60) (x : Int32) : EM mTray_lightsOf 1 0 0 [.ref 6, .int x] (hp z) (Det (some (.int (tg z 11 x 0))) (hp z)) := by
  refine E_aload_n dX9_lightsOf_0 rfl ?_
  refine E_iload_n dX9_lightsOf_1 rfl ?_
  refine E_V1 dX9_lightsOf_2 cv_X9_81 (by decide) (hg_6 _) rfl rfl (Nat.le_of_ble_eq_true rfl) (Nat.le_of_ble_eq_true rfl) (c_has z x) (by decide) (Nat.zero_le _) (Nat.zero_le _) ?_
  refine E_if_eq 17 dX9_lightsOf_5 (by decide) (fun c_5 => ?_) (fun c_5 => ?_)
  · refine E_iconst (v := 0) dX9_lightsOf_17 rfl ?_
    exact E_iret dX9_lightsOf_18 rfl rfl ⟨by first | exact sv_if (b2i_ne c_5) | exact sv_el (b2i_e0 c_5), rfl⟩
  · refine E_aload_n dX9_lightsOf_8 rfl ?_
    refine E_getf 4 dX9_lightsOf_9 fl_X9_24 (by decide) (hg_6 _) rfl ?_
    refine E_iload_n dX9_lightsOf_12 rfl ?_
    refine E_iald dX9_lightsOf_13 (by decide) (hg_11 _) (tg_in (b2i_ne c_5) hs) ?_
    refine E_goto 18 dX9_lightsOf_14 (by decide) ?_
    exact E_iret dX9_lightsOf_18 rfl rfl ⟨by first | exact sv_if (b2i_ne c_5) | exact sv_el (b2i_e0 c_5), rfl⟩
/-- kinds that bear a value -/
abbrev hasV (x : Int32) : Prop := x = 1 ∨ x = 4 ∨ x = 6
theorem c_hasValue (z : HP) (x : Int32) : EM mTray_hasValue 0 0 0 [.int x] z (Det (some (.int (b2i (hasV x)))) z) := by
  refine E_iload_n dX9_hasValue_0 rfl ?_
  refine E_iconst (v := 1) dX9_hasValue_1 rfl ?_
  refine E_icmp_eq 16 dX9_hasValue_2 (by decide) (fun c_2 => ?_) (fun c_2 => ?_)
  · refine E_iconst (v := 1) dX9_hasValue_16 rfl ?_
    refine E_goto 21 dX9_hasValue_17 (by decide) ?_
    exact E_iret dX9_hasValue_21 rfl rfl ⟨by first | exact si_t (by simp_all [hasV]; done) | exact si_f (by simp_all [hasV]; done), rfl⟩
  · refine E_iload_n dX9_hasValue_5 rfl ?_
    refine E_iconst (v := 4) dX9_hasValue_6 rfl ?_
    refine E_icmp_eq 16 dX9_hasValue_7 (by decide) (fun c_7 => ?_) (fun c_7 => ?_)
    · refine E_iconst (v := 1) dX9_hasValue_16 rfl ?_
      refine E_goto 21 dX9_hasValue_17 (by decide) ?_
      exact E_iret dX9_hasValue_21 rfl rfl ⟨by first | exact si_t (by simp_all [hasV]; done) | exact si_f (by simp_all [hasV]; done), rfl⟩
    · refine E_iload_n dX9_hasValue_10 rfl ?_
      refine E_bipush (v := 6) dX9_hasValue_11 rfl ?_
      refine E_icmp_ne 20 dX9_hasValue_13 (by decide) (fun c_13 => ?_) (fun c_13 => ?_)
      · refine E_iconst (v := 0) dX9_hasValue_20 rfl ?_
        exact E_iret dX9_hasValue_21 rfl rfl ⟨by first | exact si_t (by simp_all [hasV]; done) | exact si_f (by simp_all [hasV]; done), rfl⟩
      · refine E_iconst (v := 1) dX9_hasValue_16 rfl ?_
        refine E_goto 21 dX9_hasValue_17 (by decide) ?_
        exact E_iret dX9_hasValue_21 rfl rfl ⟨by first | exact si_t (by simp_all [hasV]; done) | exact si_f (by simp_all [hasV]; done), rfl⟩
abbrev takesP (k v : Int32) : Prop := if k = 1 then isL v ∨ v = 32 else inB k 0 6 ∧ (hasV k → inB v 0 4)
theorem c_takes (z : HP) (x v : Int32) : EM mTray_takes 1 0 0 [.int x, .int v] z (Det (some (.int (b2i (takesP x v)))) z) := by
  refine E_iload_n dX9_takes_0 rfl ?_
  refine E_iconst (v := 1) dX9_takes_1 rfl ?_
  refine E_icmp_ne 24 dX9_takes_2 (by decide) (fun c_2 => ?_) (fun c_2 => ?_)
  · refine E_iload_n dX9_takes_24 rfl ?_
    refine E_iconst (v := 0) dX9_takes_25 rfl ?_
    refine E_bipush (v := 6) dX9_takes_26 rfl ?_
    refine E_S3 dX9_takes_28 cs_X9_68 (Nat.le_of_ble_eq_true rfl) (Nat.le_of_ble_eq_true rfl) (c_within z x 0 6) (by decide) (Nat.zero_le _) (Nat.zero_le _) ?_
    refine E_if_eq 54 dX9_takes_31 (by decide) (fun c_31 => ?_) (fun c_31 => ?_)
    · refine E_iconst (v := 0) dX9_takes_54 rfl ?_
      exact E_iret dX9_takes_55 rfl rfl ⟨by first | exact si_t (by unfold takesP; rw [if_neg c_2]; first | exact ⟨b2i_ne c_31, fun h => absurd h (b2i_e0 c_38)⟩ | exact ⟨b2i_ne c_31, fun _ => b2i_ne c_47⟩) | exact si_f (by unfold takesP; rw [if_neg c_2]; first | exact fun h => b2i_e0 c_31 h.1 | exact fun h => b2i_e0 c_47 (h.2 (b2i_ne c_38))), rfl⟩
    · refine E_iload_n dX9_takes_34 rfl ?_
      refine E_S1 dX9_takes_35 cs_X9_61 (Nat.le_of_ble_eq_true rfl) (Nat.le_of_ble_eq_true rfl) (c_hasValue z x) (by decide) (Nat.zero_le _) (Nat.zero_le _) ?_
      refine E_if_eq 50 dX9_takes_38 (by decide) (fun c_38 => ?_) (fun c_38 => ?_)
      · refine E_iconst (v := 1) dX9_takes_50 rfl ?_
        refine E_goto 55 dX9_takes_51 (by decide) ?_
        exact E_iret dX9_takes_55 rfl rfl ⟨by first | exact si_t (by unfold takesP; rw [if_neg c_2]; first | exact ⟨b2i_ne c_31, fun h => absurd h (b2i_e0 c_38)⟩ | exact ⟨b2i_ne c_31, fun _ => b2i_ne c_47⟩) | exact si_f (by unfold takesP; rw [if_neg c_2]; first | exact fun h => b2i_e0 c_31 h.1 | exact fun h => b2i_e0 c_47 (h.2 (b2i_ne c_38))), rfl⟩
      · refine E_iload_n dX9_takes_41 rfl ?_
        refine E_iconst (v := 0) dX9_takes_42 rfl ?_
        refine E_iconst (v := 4) dX9_takes_43 rfl ?_
        refine E_S3 dX9_takes_44 cs_X9_68 (Nat.le_of_ble_eq_true rfl) (Nat.le_of_ble_eq_true rfl) (c_within z v 0 4) (by decide) (Nat.zero_le _) (Nat.zero_le _) ?_
        refine E_if_eq 54 dX9_takes_47 (by decide) (fun c_47 => ?_) (fun c_47 => ?_)
        · refine E_iconst (v := 0) dX9_takes_54 rfl ?_
          exact E_iret dX9_takes_55 rfl rfl ⟨by first | exact si_t (by unfold takesP; rw [if_neg c_2]; first | exact ⟨b2i_ne c_31, fun h => absurd h (b2i_e0 c_38)⟩ | exact ⟨b2i_ne c_31, fun _ => b2i_ne c_47⟩) | exact si_f (by unfold takesP; rw [if_neg c_2]; first | exact fun h => b2i_e0 c_31 h.1 | exact fun h => b2i_e0 c_47 (h.2 (b2i_ne c_38))), rfl⟩
        · refine E_iconst (v := 1) dX9_takes_50 rfl ?_
          refine E_goto 55 dX9_takes_51 (by decide) ?_
          exact E_iret dX9_takes_55 rfl rfl ⟨by first | exact si_t (by unfold takesP; rw [if_neg c_2]; first | exact ⟨b2i_ne c_31, fun h => absurd h (b2i_e0 c_38)⟩ | exact ⟨b2i_ne c_31, fun _ => b2i_ne c_47⟩) | exact si_f (by unfold takesP; rw [if_neg c_2]; first | exact fun h => b2i_e0 c_31 h.1 | exact fun h => b2i_e0 c_47 (h.2 (b2i_ne c_38))), rfl⟩
  · refine E_iload_n dX9_takes_5 rfl ?_
    refine E_S1 dX9_takes_6 cs_X9_65 (Nat.le_of_ble_eq_true rfl) (Nat.le_of_ble_eq_true rfl) (c_isLetter z v) (by decide) (Nat.zero_le _) (Nat.zero_le _) ?_
    refine E_if_ne 18 dX9_takes_9 (by decide) (fun c_9 => ?_) (fun c_9 => ?_)
    · refine E_iconst (v := 1) dX9_takes_18 rfl ?_
      refine E_goto 23 dX9_takes_19 (by decide) ?_
      exact E_iret dX9_takes_23 rfl rfl ⟨by first | exact si_t (by unfold takesP; rw [if_pos c_2]; first | exact Or.inl (b2i_ne c_9) | exact Or.inr c_15) | exact si_f (by unfold takesP; rw [if_pos c_2]; exact fun h => h.elim (b2i_e0 c_9) c_15), rfl⟩
    · refine E_iload_n dX9_takes_12 rfl ?_
      refine E_bipush (v := 32) dX9_takes_13 rfl ?_
      refine E_icmp_ne 22 dX9_takes_15 (by decide) (fun c_15 => ?_) (fun c_15 => ?_)
      · refine E_iconst (v := 0) dX9_takes_22 rfl ?_
        exact E_iret dX9_takes_23 rfl rfl ⟨by first | exact si_t (by unfold takesP; rw [if_pos c_2]; first | exact Or.inl (b2i_ne c_9) | exact Or.inr c_15) | exact si_f (by unfold takesP; rw [if_pos c_2]; exact fun h => h.elim (b2i_e0 c_9) c_15), rfl⟩
      · refine E_iconst (v := 1) dX9_takes_18 rfl ?_
        refine E_goto 23 dX9_takes_19 (by decide) ?_
        exact E_iret dX9_takes_23 rfl rfl ⟨by first | exact si_t (by unfold takesP; rw [if_pos c_2]; first | exact Or.inl (b2i_ne c_9) | exact Or.inr c_15) | exact si_f (by unfold takesP; rw [if_pos c_2]; exact fun h => h.elim (b2i_e0 c_9) c_15), rfl⟩
