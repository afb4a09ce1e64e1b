/-! THE BOOK: add, take; word -/
def bcp (z : Sg) (n i : Nat) : Sg := stA z 25 (fun j => if 12 * n ≤ j ∧ j < 12 * n + i then z.A 23 (j - 12 * n) else z.A 25 j)
def badd (z : Sg) (n t : Nat) : Sg := stF (stA (bcp z n t) 26 (upd (z.A 26) n (nI t))) 24 3 (nI (n + 1))
theorem l_bcp {n t : Nat} (hn : n < 40) (ht : t ≤ 12) (z : Sg) (hT : z.F 22 1 = nI t) (hB : z.F 24 3 = nI n) : ∀ (m i : Nat) (z' : Sg), i + m = t → z' = bcp z n i → E mBook_add 1 0 0 23 [(0, .ref 24), (1, .ref 22), (2, .int (nI t)), (3, .int (nI i))] [] (hp z') (Det (some (.int (nI n))) (hp (badd z n t))) := by
  intro m
  induction m with
  | zero =>
    intro i z' hi hz
    have hB' : z'.F 24 3 = nI n := by rw [hz]; exact hB
    have hcl : (nI n).toNatClampNeg = n := nI_clamp (by omega)
    refine E_iload_n dX0_add_23 rfl ?_
    refine E_iload_n dX0_add_24 rfl ?_
    refine E_icmp_ge 53 dX0_add_25 (by decide) (fun c_25 => ?_) (fun c_25 => ?_)
    · refine E_aload_n dX0_add_53 rfl ?_
      refine E_getf 1 dX0_add_54 fl_X0_15 (by decide) (hg_24 _) rfl ?_
      refine E_aload_n dX0_add_57 rfl ?_
      refine E_getf 3 dX0_add_58 fl_X0_48 (by decide) (hg_24 _) rfl ?_
      rw [hB']
      refine E_iload_n dX0_add_61 rfl ?_
      refine E_iast dX0_add_62 (by decide) (hg_26 _) (vp_in_nI (by omega) (by omega)) ?_
      rw [hs_26]
      rw [hcl]
      refine E_aload_n dX0_add_63 rfl ?_
      refine E_dup dX0_add_64 rfl ?_
      refine E_getf 3 (v := .int (z'.F 24 3)) dX0_add_65 fl_X0_48 (by decide) (hg_24 _) rfl ?_
      rw [hB']
      refine E_iconst (v := 1) dX0_add_68 rfl ?_
      refine E_iadd dX0_add_69 ?_
      rw [nI_1]
      refine E_put 3 dX0_add_70 fp_X0_48 (fitsV_int _) (by decide) (hg_24 _) (Nat.le_of_ble_eq_true rfl) ?_
      rw [hs_24_3]
      refine E_aload_n dX0_add_73 rfl ?_
      refine E_getf 3 (v := .int (nI (n + 1))) dX0_add_74 fl_X0_48 (by decide) (hg_24 _) rfl ?_
      refine E_iconst (v := 1) dX0_add_77 rfl ?_
      refine E_isub dX0_add_78 ?_
      exact E_iret dX0_add_79 rfl rfl ⟨by rw [nI_pred], by rw [hz, show i = t by omega]; rfl⟩
    · exact absurd (nI_le (by omega) (by omega)) c_25
  | succ m ih =>
    intro i z' hi hz
    have hB' : z'.F 24 3 = nI n := by rw [hz]; exact hB
    have hT' : z'.F 22 1 = nI t := by rw [hz]; exact hT
    have h23 : z'.A 23 = z.A 23 := by rw [hz]; rfl
    have hsz : (z'.F 22 1).toInt ≤ 26 := by rw [hT', nI_toInt (by omega)]; omega
    have hsa := c_signAt z' hsz (nI i)
    rw [if_pos (show ltN (nI i) (z'.F 22 1) from ⟨by rw [nI_toInt (by omega)]; omega, by rw [hT', nI_toInt (by omega), nI_toInt (by omega)]; omega⟩), nI_clamp (by omega), h23] at hsa
    have he : nI n * 12 + nI i = nI (12 * n + i) := by rw [show (12 : Int32) = nI 12 from rfl, pk_mul, nI_add, Nat.mul_comm]
    refine E_iload_n dX0_add_23 rfl ?_
    refine E_iload_n dX0_add_24 rfl ?_
    refine E_icmp_ge 53 dX0_add_25 (by decide) (fun c_25 => ?_) (fun c_25 => ?_)
    · exact absurd c_25 (nI_ge (by omega) (by omega))
    · refine E_aload_n dX0_add_28 rfl ?_
      refine E_getf 0 dX0_add_29 fl_X0_11 (by decide) (hg_24 _) rfl ?_
      refine E_aload_n dX0_add_32 rfl ?_
      refine E_getf 3 dX0_add_33 fl_X0_48 (by decide) (hg_24 _) rfl ?_
      rw [hB']
      refine E_bipush (v := 12) dX0_add_36 rfl ?_
      refine E_imul dX0_add_38 ?_
      refine E_iload_n dX0_add_39 rfl ?_
      refine E_iadd dX0_add_40 ?_
      rw [he]
      refine E_aload_n dX0_add_41 rfl ?_
      refine E_iload_n dX0_add_42 rfl ?_
      refine E_V1 dX0_add_43 cv_X0_57 (by decide) (hg_22 _) rfl rfl (Nat.le_of_ble_eq_true rfl) (Nat.le_of_ble_eq_true rfl) (hsa) (by decide) (Nat.zero_le _) (Nat.zero_le _) ?_
      refine E_iast dX0_add_46 (by decide) (hg_25 _) (vp_in_nI (by omega) (by omega)) ?_
      rw [hs_25]
      rw [nI_clamp (by omega)]
      refine E_iincL 1 dX0_add_47 rfl rfl (by decide) rfl ?_
      rw [nI_1]
      refine E_goto 23 dX0_add_50 (by decide) ?_
      refine E.pick [1, 2, 3, 0] rfl ?_
      refine ih (i + 1) _ (by omega) ?_
      rw [hz]
      unfold bcp
      rw [stA_stA]
      congr 1
      funext j
      rw [A_stA, if_pos rfl]
      unfold upd
      dsimp only
      by_cases h1 : j = 12 * n + i
      · rw [if_pos h1, if_pos (by omega), h1, Nat.add_sub_cancel_left]
      · rw [if_neg h1]
        by_cases h2 : 12 * n ≤ j ∧ j < 12 * n + i
        · rw [if_pos h2, if_pos (by omega)]
        · rw [if_neg h2, if_neg (by omega)]
theorem bcp_0 (z : Sg) (n : Nat) : bcp z n 0 = z := by
  unfold bcp
  rw [show (fun j => if 12 * n ≤ j ∧ j < 12 * n + 0 then z.A 23 (j - 12 * n) else z.A 25 j) = z.A 25 from funext fun j => if_neg (by omega), stA_self]
theorem c_Book_add {n t : Nat} (hn : n ≤ 40) (ht : t ≤ 12) (z : Sg) (hT : z.F 22 1 = nI t) (hB : z.F 24 3 = nI n) : EM mBook_add 1 0 0 [.ref 24, .ref 22] (hp z) (Det (some (.int (if n < 40 then nI n else (-1)))) (hp (if n < 40 then badd z n t else z))) := by
  by_cases hlt : n < 40
  · rw [if_pos hlt, if_pos hlt]
    refine E_aload_n dX0_add_0 rfl ?_
    refine E_getf 3 dX0_add_1 fl_X0_48 (by decide) (hg_24 _) rfl ?_
    refine E_bipush (v := 40) dX0_add_4 rfl ?_
    rw [hB]
    refine E_icmp_lt 11 dX0_add_6 (by decide) (fun c_6 => ?_) (fun c_6 => ?_)
    · refine E_aload_n dX0_add_11 rfl ?_
      refine E_V0 dX0_add_12 cv_X0_32 (by decide) (hg_22 _) rfl rfl (Nat.le_of_ble_eq_true rfl) (Nat.le_of_ble_eq_true rfl) (c_Tape_size z) (by decide) (Nat.zero_le _) (Nat.zero_le _) ?_
      rw [hT]
      refine E_bipush (v := 12) dX0_add_15 rfl ?_
      refine E_mmin dX0_add_17 mt_X0_51 (by decide) (Nat.le_of_ble_eq_true rfl) ?_
      rw [if_neg (show ¬ (12 : Int32) < nI t from nI_nlt (a := 12) (by omega) (by omega))]
      refine E_istore_n dX0_add_20 (by decide) rfl ?_
      refine E_iconst (v := 0) dX0_add_21 rfl ?_
      refine E_istore_n dX0_add_22 (by decide) rfl ?_
      refine E.pick [2, 3, 1, 0] rfl ?_
      exact l_bcp hlt ht z hT hB t 0 z (by omega) (bcp_0 z n).symm
    · exact absurd (nI_lt (b := 40) hlt (by omega)) c_6
  · rw [if_neg hlt, if_neg hlt]
    refine E_aload_n dX0_add_0 rfl ?_
    refine E_getf 3 dX0_add_1 fl_X0_48 (by decide) (hg_24 _) rfl ?_
    refine E_bipush (v := 40) dX0_add_4 rfl ?_
    rw [hB]
    refine E_icmp_lt 11 dX0_add_6 (by decide) (fun c_6 => ?_) (fun c_6 => ?_)
    · exact absurd c_6 (nI_nlt (b := 40) (by omega) (by omega))
    · refine E_iconst (v := (-1)) dX0_add_9 rfl ?_
      exact E_iret dX0_add_10 rfl rfl ⟨rfl, rfl⟩
theorem fnd_cases (z : Sg) (a len k : Nat) : ∀ (m W : Nat), fnd z a len k m W = -1 ∧ (∀ V, W ≤ V → V < W + m → ¬ eqW z a len k V) ∨ ∃ V, W ≤ V ∧ V < W + m ∧ fnd z a len k m W = nI V ∧ eqW z a len k V ∧ ∀ U, W ≤ U → U < V → ¬ eqW z a len k U
  | 0, W => Or.inl ⟨rfl, fun V h1 h2 => absurd h2 (by omega)⟩
  | m + 1, W => by
    rw [fnd]
    by_cases h : eqW z a len k W
    · rw [if_pos h]
      exact Or.inr ⟨W, Nat.le_refl W, by omega, rfl, h, fun U h1 h2 => absurd h2 (by omega)⟩
    · rw [if_neg h]
      rcases fnd_cases z a len k m (W + 1) with ⟨h1, h2⟩ | ⟨V, h1, h2, h3, h4, h5⟩
      · refine Or.inl ⟨h1, fun V h3 h4 => ?_⟩
        by_cases e : V = W
        · rw [e]; exact h
        · exact h2 V (by omega) (by omega)
      · refine Or.inr ⟨V, by omega, by omega, h3, h4, fun U h6 h7 => ?_⟩
        by_cases e : U = W
        · rw [e]; exact h
        · exact h5 U (by omega) h7
theorem nI_m1 {V : Nat} (h : V < 2 ^ 31) : ¬ nI V = -1 := fun e => by
  rw [i32_eq, nI_toInt h] at e
  simp only [Int32.reduceToInt] at e
  omega
abbrev wOK (z : Sg) (t : Nat) (c : Int32) : Prop := inB c 0 10000 ∧ wdP (z.A 23) t
/-- the number that a word gets, and the book behind it -/
def wNum (z : Sg) (n t : Nat) : Int32 := if fnd z 23 26 t n 0 = -1 then (if n < 40 then nI n else (-1)) else fnd z 23 26 t n 0
def wBook (z : Sg) (n t : Nat) : Sg := if fnd z 23 26 t n 0 = -1 then (if n < 40 then badd z n t else z) else z
def wPut (z : Sg) (w c : Int32) : Sg := if ltN w (z.F 24 3) then stA z 27 (upd (z.A 27) w.toNatClampNeg c) else z
theorem bk_add {z : Sg} {n t : Nat} (h : bkOK z n) (hn : n < 40) (h1 : 1 ≤ t) (ht : t ≤ 12) : bkOK (badd z n t) (n + 1) := by
  refine ⟨rfl, by omega, fun W hW => ?_⟩
  show ∃ L, 1 ≤ L ∧ L ≤ 12 ∧ upd (z.A 26) n (nI t) W = nI L
  by_cases e : W = n
  · rw [e, pk_us]
    exact ⟨t, h1, ht, rfl⟩
  · rw [pk_un e]
    exact h.2.2 W (by omega)
theorem wBook_le {z : Sg} {n t : Nat} (h : bkOK z n) (h1 : 1 ≤ t) (ht : t ≤ 12) : ((wBook z n t).F 24 3).toInt ≤ 40 := by
  unfold wBook
  split
  · split
    · next hn => exact bk_le (bk_add h hn h1 ht)
    · exact bk_le h
  · exact bk_le h
theorem c_Book_take {z : Sg} {n t : Nat} (h : bkOK z n) (ht : t ≤ 26) (hT : z.F 22 1 = nI t) (c : Int32) : EM mBook_take 5 0 0 [.ref 24, .ref 22, .int c] (hp z) (Det (some (.int (if wOK z t c then wNum z n t else (-1)))) (hp (if wOK z t c then wPut (wBook z n t) (wNum z n t) c else z))) := by
  have tail : wOK z t c → E mBook_take 5 0 0 44 [(0, .ref 24), (1, .ref 22), (2, .int c), (3, .int (wNum z n t))] [] (hp (wBook z n t)) (Det (some (.int (wNum z n t))) (hp (wPut (wBook z n t) (wNum z n t) c))) := by
    intro ok
    have hle := wBook_le h (show 1 ≤ t from ok.2.2.1) ok.2.1
    refine E_aload_n dX0_take_44 rfl ?_
    refine E_iload_n dX0_take_45 rfl ?_
    refine E_V1 dX0_take_46 cv_X0_44 (by decide) (hg_24 _) rfl rfl (Nat.le_of_ble_eq_true rfl) (Nat.le_of_ble_eq_true rfl) (c_Book_has _ _) (by decide) (Nat.zero_le _) (Nat.zero_le _) ?_
    refine E_if_eq 59 dX0_take_49 (by decide) (fun c_49 => ?_) (fun c_49 => ?_)
    · refine E_iload_n dX0_take_59 rfl ?_
      exact E_iret dX0_take_60 rfl rfl ⟨rfl, by first | rw [wPut, if_pos (b2i_ne c_49)] | rw [wPut, if_neg (b2i_e0 c_49)]⟩
    · refine E_aload_n dX0_take_52 rfl ?_
      refine E_getf 2 dX0_take_53 fl_X0_18 (by decide) (hg_24 _) rfl ?_
      refine E_iload_n dX0_take_56 rfl ?_
      refine E_iload_n dX0_take_57 rfl ?_
      refine E_iast dX0_take_58 (by decide) (hg_27 _) (tg_in (b2i_ne c_49) hle) ?_
      rw [hs_27]
      refine E_iload_n dX0_take_59 rfl ?_
      exact E_iret dX0_take_60 rfl rfl ⟨rfl, by first | rw [wPut, if_pos (b2i_ne c_49)] | rw [wPut, if_neg (b2i_e0 c_49)]⟩
  refine E_iload_n dX0_take_0 rfl ?_
  refine E_iconst (v := 0) dX0_take_1 rfl ?_
  refine E_sipush (v := 10000) dX0_take_2 rfl ?_
  refine E_S3 dX0_take_5 cs_X0_21 (Nat.le_of_ble_eq_true rfl) (Nat.le_of_ble_eq_true rfl) (c_within _ c 0 10000) (by decide) (Nat.zero_le _) (Nat.zero_le _) ?_
  refine E_if_eq 18 dX0_take_8 (by decide) (fun c_8 => ?_) (fun c_8 => ?_)
  · refine E_iconst (v := (-1)) dX0_take_18 rfl ?_
    exact E_iret dX0_take_19 rfl rfl (by first | exact ⟨by rw [if_neg (show ¬ wOK z t c from fun h9 => b2i_e0 c_8 h9.1)], by rw [if_neg (show ¬ wOK z t c from fun h9 => b2i_e0 c_8 h9.1)]⟩ | exact ⟨by rw [if_neg (show ¬ wOK z t c from fun h9 => b2i_e0 c_15 h9.2)], by rw [if_neg (show ¬ wOK z t c from fun h9 => b2i_e0 c_15 h9.2)]⟩)
  · refine E_aload_n dX0_take_11 rfl ?_
    refine E_V0 dX0_take_12 cv_X0_25 (by decide) (hg_22 _) rfl rfl (Nat.le_of_ble_eq_true rfl) (Nat.le_of_ble_eq_true rfl) (c_isWord ht z hT) (by decide) (Nat.zero_le _) (Nat.zero_le _) ?_
    refine E_if_ne 20 dX0_take_15 (by decide) (fun c_15 => ?_) (fun c_15 => ?_)
    · have ok : wOK z t c := ⟨b2i_ne c_8, b2i_ne c_15⟩
      rw [if_pos ok, if_pos ok]
      replace tail := tail ok
      refine E_aload_n dX0_take_20 rfl ?_
      refine E_aload_n dX0_take_21 rfl ?_
      refine E_getN 0 dX0_take_22 fl_X0_31 (by decide) (hg_22 _) rfl ?_
      refine E_aload_n dX0_take_25 rfl ?_
      refine E_V0 dX0_take_26 cv_X0_32 (by decide) (hg_22 _) rfl rfl (Nat.le_of_ble_eq_true rfl) (Nat.le_of_ble_eq_true rfl) (c_Tape_size z) (by decide) (Nat.zero_le _) (Nat.zero_le _) ?_
      rw [hT]
      refine E_V2 dX0_take_29 cv_X0_36 (by decide) (hg_24 _) rfl rfl (Nat.le_of_ble_eq_true rfl) (Nat.le_of_ble_eq_true rfl) (c_find (by decide) (by decide) (hg_23 z) h (by omega)) (by decide) (Nat.zero_le _) (Nat.zero_le _) ?_
      refine E_istore_n dX0_take_32 (by decide) rfl ?_
      refine E_iload_n dX0_take_33 rfl ?_
      refine E_iconst (v := (-1)) dX0_take_34 rfl ?_
      refine E_icmp_ne 44 dX0_take_35 (by decide) (fun c_35 => ?_) (fun c_35 => ?_)
      · refine E.pick [1, 2, 3, 0] rfl ?_
        first | exact (by rw [wNum, wBook, if_pos c_35, if_pos c_35] at tail; rw [wNum, wBook, if_pos c_35, if_pos c_35]; exact tail) | exact (by rw [wNum, wBook, if_neg c_35, if_neg c_35] at tail; rw [wNum, wBook, if_neg c_35, if_neg c_35]; exact tail)
      · refine E_aload_n dX0_take_38 rfl ?_
        refine E_aload_n dX0_take_39 rfl ?_
        refine E_V1 dX0_take_40 cv_X0_40 (by decide) (hg_24 _) rfl rfl (Nat.le_of_ble_eq_true rfl) (Nat.le_of_ble_eq_true rfl) (c_Book_add h.2.1 ok.2.1 z hT h.1) (by decide) (Nat.zero_le _) (Nat.zero_le _) ?_
        refine E_istore_n dX0_take_43 (by decide) rfl ?_
        refine E.pick [1, 2, 3, 0] rfl ?_
        first | exact (by rw [wNum, wBook, if_pos c_35, if_pos c_35] at tail; rw [wNum, wBook, if_pos c_35, if_pos c_35]; exact tail) | exact (by rw [wNum, wBook, if_neg c_35, if_neg c_35] at tail; rw [wNum, wBook, if_neg c_35, if_neg c_35]; exact tail)
    · refine E_iconst (v := (-1)) dX0_take_18 rfl ?_
      exact E_iret dX0_take_19 rfl rfl (by first | exact ⟨by rw [if_neg (show ¬ wOK z t c from fun h9 => b2i_e0 c_8 h9.1)], by rw [if_neg (show ¬ wOK z t c from fun h9 => b2i_e0 c_8 h9.1)]⟩ | exact ⟨by rw [if_neg (show ¬ wOK z t c from fun h9 => b2i_e0 c_15 h9.2)], by rw [if_neg (show ¬ wOK z t c from fun h9 => b2i_e0 c_15 h9.2)]⟩)
