/-! AT AND LETTER: the desk's throws, the law's two methods with a table, both sides together -/
abbrev HH : List (Nat × Nat × Nat × Nat) := [(0, 10, 13, 13)]
abbrev xc : PCell := .inr (12, [])
theorem G_V1 {y yc : MI} {d k n pc idx ci i dc kc nc : Nat} {lv : List (Nat × Value)} {st fs : List Value} {h h2 : HP} {q : vw_C} {r : Option Value} {tb : Code → Prop} {G : GP} {a1 : Value} (hd : decode y.2.1 pc = .ok (.invokevirtual idx, 3)) (ok : okV y.1.cls idx yc 1) (hi : 3 ≤ i) (hh : h[i]? = some (.inr (ci, fs))) (hc : CL[ci]? = some q) (hq : q.1 = yc.1.cls) (hl : (lg_sl [.ref i, a1]).length ≤ yc.2.2.1) (hw : (st.map fun v => v.category).sum ≤ 8) (C : EM yc dc kc nc [.ref i, a1] h (Det r h2)) (hdc : dc + 1 ≤ d) (hk : kc ≤ k) (hn : nc ≤ n) (K : EG y d (k - kc) (n - nc) (pc + 3) lv (r.toList ++ st) h2 tb G) : EG y d k n pc lv (a1 :: .ref i :: st) h tb G :=
  G_callV [a1] st hd ok rfl rfl hi hh hc hq hl hw C hdc hk hn (fun r' h' e => by obtain ⟨rfl, rfl⟩ := e; exact K)
section AtL
variable {c : Nat} {z : Sg} {w i : Int32}
abbrev ptv (z : Sg) (w : Int32) : Value := if w = 0 then .ref z.T else if w = 1 then va_rf z.S else .null
theorem x_at_null (hpt : ptv z w = .null) : EG mDesk_at 6 1 6 0 (lv_args 0 [.ref 3, .int w, .int i]) [] (hp z) tb0 (GX (hp z ++ [xc])) := by
  have hc := c_part z w
  rw [show (if w = 0 then Value.ref z.T else if w = 1 then va_rf z.S else .null) = .null from hpt] at hc
  refine G_aload_n dX10_at_0 rfl ?_
  refine G_getf 3 dX10_at_1 fl_X10_35 (by decide) (hg_3 _) rfl ?_
  refine G_iload_n dX10_at_4 rfl ?_
  refine G_V1 dX10_at_5 cv_X10_132 (by decide) (hg_18 _) rfl rfl (Nat.le_of_ble_eq_true rfl) (Nat.le_of_ble_eq_true rfl) hc (by decide) (Nat.zero_le _) (Nat.zero_le _) ?_
  refine G_astore_nN dX10_at_8 (by decide) rfl ?_
  refine G_aload_nN dX10_at_9 rfl ?_
  refine G_ifnullN 25 dX10_at_10 (by decide) ?_
  exact G_throw rfl dX10_at_25 dX10_at_28 dX10_at_29 dX10_at_32 (by decide) (by decide) (by decide) (by decide)
theorem x_at_out {c0 : Nat} {r : List Int32} (hpt : ptv z w = .ref c0) (hch : ch z.D c0 r) (hno : ¬ (0 ≤ i ∧ i < nI r.length)) : EG mDesk_at 6 1 6 0 (lv_args 0 [.ref 3, .int w, .int i]) [] (hp z) tb0 (GX (hp z ++ [xc])) := by
  obtain ⟨v0, x0, hcell⟩ := ch_cell hch
  have hc := c_part z w
  rw [show (if w = 0 then Value.ref z.T else if w = 1 then va_rf z.S else .null) = .ref c0 from hpt] at hc
  have last : EG mDesk_at 6 1 6 25 [(3, .ref c0), (0, .ref 3), (1, .int w), (2, .int i)] [] (hp z) tb0 (GX (hp z ++ [xc])) := G_throw rfl dX10_at_25 dX10_at_28 dX10_at_29 dX10_at_32 (by decide) (by decide) (by decide) (by decide)
  refine G_aload_n dX10_at_0 rfl ?_
  refine G_getf 3 dX10_at_1 fl_X10_35 (by decide) (hg_3 _) rfl ?_
  refine G_iload_n dX10_at_4 rfl ?_
  refine G_V1 dX10_at_5 cv_X10_132 (by decide) (hg_18 _) rfl rfl (Nat.le_of_ble_eq_true rfl) (Nat.le_of_ble_eq_true rfl) hc (by decide) (Nat.zero_le _) (Nat.zero_le _) ?_
  refine G_astore_n dX10_at_8 (by decide) rfl ?_
  refine G_aload_n dX10_at_9 rfl ?_
  refine G_ifnull dX10_at_10 ?_
  refine G_iload_n dX10_at_13 rfl ?_
  refine G_if_lt 25 dX10_at_14 (by decide) (fun _ => last) (fun c1 => ?_)
  refine G_iload_n dX10_at_17 rfl ?_
  refine G_aload_n dX10_at_18 rfl ?_
  refine G_getf 2 dX10_at_19 fl_X10_136 (ch_ge hch) hcell rfl ?_
  refine G_icmp_lt 33 dX10_at_22 (by decide) (fun c2 => absurd ⟨?_, c2⟩ hno) (fun _ => last)
  rw [i32_lt] at c1
  rw [i32_le]
  omega
theorem c_at_in {c0 j : Nat} {r : List Int32} (hpt : ptv z w = .ref c0) (hch : ch z.D c0 r) (hr : r.length < 2 ^ 31) (hj : j < r.length) : EM mDesk_at 2 0 0 [.ref 3, .int w, .int (nI j)] (hp z) (Det (some (.int (r.getD (r.length - 1 - j) 0))) (hp z)) := by
  obtain ⟨v0, x0, hcell⟩ := ch_cell hch
  have hc := c_part z w
  rw [show (if w = 0 then Value.ref z.T else if w = 1 then va_rf z.S else .null) = .ref c0 from hpt] at hc
  have hsg := c_Chain_signAt z c0 r hr hch j hj
  refine E_aload_n dX10_at_0 rfl ?_
  refine E_getf 3 dX10_at_1 fl_X10_35 (by decide) (hg_3 _) rfl ?_
  refine E_iload_n dX10_at_4 rfl ?_
  refine E_V1 dX10_at_5 cv_X10_132 (by decide) (hg_18 _) rfl rfl (Nat.le_of_ble_eq_true rfl) (Nat.le_of_ble_eq_true rfl) hc (by decide) (Nat.zero_le _) (Nat.zero_le _) ?_
  refine E_astore_n dX10_at_8 (by decide) rfl ?_
  refine E_aload_n dX10_at_9 rfl ?_
  refine E_ifnull dX10_at_10 ?_
  refine E_iload_n dX10_at_13 rfl ?_
  refine E_if_lt 25 dX10_at_14 (by decide) (fun c1 => ?_) (fun c1 => ?_)
  · rw [i32_lt, nI_toInt (by omega)] at c1
    simp only [Int32.reduceToInt] at c1
    omega
  refine E_iload_n dX10_at_17 rfl ?_
  refine E_aload_n dX10_at_18 rfl ?_
  refine E_getf 2 dX10_at_19 fl_X10_136 (ch_ge hch) hcell rfl ?_
  refine E_icmp_lt 33 dX10_at_22 (by decide) (fun c2 => ?_) (fun c2 => ?_)
  · refine E_aload_n dX10_at_33 rfl ?_
    refine E_iload_n dX10_at_34 rfl ?_
    refine E_V1 dX10_at_35 cv_X10_145 (ch_ge hch) hcell rfl rfl (Nat.le_of_ble_eq_true rfl) (Nat.le_of_ble_eq_true rfl) hsg (by decide) (Nat.zero_le _) (Nat.zero_le _) ?_
    exact E_iret dX10_at_38 rfl rfl ⟨rfl, rfl⟩
  · rw [i32_lt, nI_toInt (by omega), nI_toInt hr] at c2
    omega
theorem x_letter (hs : (z.F 24 3).toInt ≤ 40) (hno : ¬ (0 ≤ i ∧ i < bg z 26 w)) : EG mDesk_letter 6 1 6 0 (lv_args 0 [.ref 3, .int w, .int i]) [] (hp z) tb0 (GX (hp z ++ [xc])) := by
  have hc := c_sizeOf z hs w
  have last : EG mDesk_letter 6 1 6 16 [(0, .ref 3), (1, .int w), (2, .int i)] [] (hp z) tb0 (GX (hp z ++ [xc])) := G_throw rfl dX10_letter_16 dX10_letter_19 dX10_letter_20 dX10_letter_23 (by decide) (by decide) (by decide) (by decide)
  refine G_iload_n dX10_letter_0 rfl ?_
  refine G_if_lt 16 dX10_letter_1 (by decide) (fun _ => last) (fun c1 => ?_)
  refine G_iload_n dX10_letter_4 rfl ?_
  refine G_aload_n dX10_letter_5 rfl ?_
  refine G_getf 5 dX10_letter_6 fl_X10_49 (by decide) (hg_3 _) rfl ?_
  refine G_iload_n dX10_letter_9 rfl ?_
  refine G_V1 dX10_letter_10 cv_X10_157 (by decide) (hg_24 _) rfl rfl (Nat.le_of_ble_eq_true rfl) (Nat.le_of_ble_eq_true rfl) hc (by decide) (Nat.zero_le _) (Nat.zero_le _) ?_
  refine G_icmp_lt 24 dX10_letter_13 (by decide) (fun c2 => absurd ⟨?_, c2⟩ hno) (fun _ => last)
  rw [i32_lt] at c1
  rw [i32_le]
  omega
theorem c_letter_in {N W L j : Nat} (h : bkOK z N) (hW : W < N) (hL : z.A 26 W = nI L) (hL2 : L ≤ 12) (hj : j < L) : EM mDesk_letter 3 0 0 [.ref 3, .int (nI W), .int (nI j)] (hp z) (Det (some (.int (z.A 25 (12 * W + j)))) (hp z)) := by
  have hc := c_sizeOfN h hW
  have hsg := c_signOf (i := j) h hW hL hL2 hj
  rw [hL] at hc
  refine E_iload_n dX10_letter_0 rfl ?_
  refine E_if_lt 16 dX10_letter_1 (by decide) (fun c1 => ?_) (fun c1 => ?_)
  · rw [i32_lt, nI_toInt (by omega)] at c1
    simp only [Int32.reduceToInt] at c1
    omega
  refine E_iload_n dX10_letter_4 rfl ?_
  refine E_aload_n dX10_letter_5 rfl ?_
  refine E_getf 5 dX10_letter_6 fl_X10_49 (by decide) (hg_3 _) rfl ?_
  refine E_iload_n dX10_letter_9 rfl ?_
  refine E_V1 dX10_letter_10 cv_X10_157 (by decide) (hg_24 _) rfl rfl (Nat.le_of_ble_eq_true rfl) (Nat.le_of_ble_eq_true rfl) hc (by decide) (Nat.zero_le _) (Nat.zero_le _) ?_
  refine E_icmp_lt 24 dX10_letter_13 (by decide) (fun c2 => ?_) (fun c2 => ?_)
  · refine E_aload_n dX10_letter_24 rfl ?_
    refine E_getf 5 dX10_letter_25 fl_X10_49 (by decide) (hg_3 _) rfl ?_
    refine E_iload_n dX10_letter_28 rfl ?_
    refine E_iload_n dX10_letter_29 rfl ?_
    refine E_V2 dX10_letter_30 cv_X10_160 (by decide) (hg_24 _) rfl rfl (Nat.le_of_ble_eq_true rfl) (Nat.le_of_ble_eq_true rfl) hsg (by decide) (Nat.zero_le _) (Nat.zero_le _) ?_
    exact E_iret dX10_letter_33 rfl rfl ⟨rfl, rfl⟩
  · rw [i32_lt, nI_toInt (by omega), nI_toInt (by omega)] at c2
    omega
/-- the law's own two methods: 0 and the answer in out, or 1 -/
def zv (z : Sg) (v : Int32) : Sg := stL z 63 (vp_updL (z.L 63) 0 v.toInt64)
def zx (z : Sg) : Sg := stD z (z.D ++ [xc])
theorem c_L_at_ok {v : Int32} {dc : Nat} (hC : EM mDesk_at dc 0 0 [.ref 3, .int w, .int i] (hp z) (Det (some (.int v)) (hp z))) (hdc : dc ≤ 6 := by decide) : EG mLaw_at 7 1 6 0 (lv_args 0 [.ref 3, .int w, .int i, .ref 63]) [] (hp z) (tbH HH) (GE (Det (some (.int 0)) (hp (zv z v)))) := by
  refine EG.ofE ?_
  refine E_aload_n dL_at_0 rfl ?_
  refine E_iconst (v := nI 0) dL_at_1 rfl ?_
  refine E_aload_n dL_at_2 rfl ?_
  refine E_iload_n dL_at_3 rfl ?_
  refine E_iload_n dL_at_4 rfl ?_
  refine E_V2 dL_at_5 cv_L_7 (by decide) (hg_3 _) rfl rfl (Nat.le_of_ble_eq_true rfl) (Nat.le_of_ble_eq_true rfl) hC (by omega) (Nat.zero_le _) (Nat.zero_le _) ?_
  refine E_i2l dL_at_8 ?_
  refine E_last dL_at_9 (by decide) (hg_63 _) (vp_in_nI (by decide) (by decide)) ?_
  rw [hs_63]
  refine E_goto 17 dL_at_10 (by decide) ?_
  refine E_iconst (v := 0) dL_at_17 rfl ?_
  exact E_iret dL_at_18 rfl rfl ⟨rfl, rfl⟩
theorem c_L_at_no {h' : HP} (hC : EG mDesk_at 6 1 6 0 (lv_args 0 [.ref 3, .int w, .int i]) [] (hp z) tb0 (GX h')) : EG mLaw_at 7 1 6 0 (lv_args 0 [.ref 3, .int w, .int i, .ref 63]) [] (hp z) (tbH HH) (GE (Det (some (.int 1)) h')) := by
  refine G_aload_n dL_at_0 rfl ?_
  refine G_iconst (v := nI 0) dL_at_1 rfl ?_
  refine G_aload_n dL_at_2 rfl ?_
  refine G_iload_n dL_at_3 rfl ?_
  refine G_iload_n dL_at_4 rfl ?_
  refine G_callX (yc := mDesk_at) [.int w, .int i] [.int (nI 0), .ref 63] ⟨0, 10, 13, 13⟩ dL_at_5 cv_L_7 (gt_in 739 (by decide +kernel) rfl) rfl rfl (by decide) (hg_3 _) rfl rfl (Nat.le_of_ble_eq_true rfl) (Nat.le_of_ble_eq_true rfl) hC (by decide) (by decide) (by decide) (fun _ h9 => h9) (by decide) (by decide) (q_gt q_linkL) dL_at_13 (by decide) rfl ?_
  refine E_iconst (v := 1) dL_at_15 rfl ?_
  exact E_iret dL_at_16 rfl rfl ⟨rfl, rfl⟩
theorem c_L_letter_ok {v : Int32} {dc : Nat} (hC : EM mDesk_letter dc 0 0 [.ref 3, .int w, .int i] (hp z) (Det (some (.int v)) (hp z))) (hdc : dc ≤ 6 := by decide) : EG mLaw_letter 7 1 6 0 (lv_args 0 [.ref 3, .int w, .int i, .ref 63]) [] (hp z) (tbH HH) (GE (Det (some (.int 0)) (hp (zv z v)))) := by
  refine EG.ofE ?_
  refine E_aload_n dL_letter_0 rfl ?_
  refine E_iconst (v := nI 0) dL_letter_1 rfl ?_
  refine E_aload_n dL_letter_2 rfl ?_
  refine E_iload_n dL_letter_3 rfl ?_
  refine E_iload_n dL_letter_4 rfl ?_
  refine E_V2 dL_letter_5 cv_L_15 (by decide) (hg_3 _) rfl rfl (Nat.le_of_ble_eq_true rfl) (Nat.le_of_ble_eq_true rfl) hC (by omega) (Nat.zero_le _) (Nat.zero_le _) ?_
  refine E_i2l dL_letter_8 ?_
  refine E_last dL_letter_9 (by decide) (hg_63 _) (vp_in_nI (by decide) (by decide)) ?_
  rw [hs_63]
  refine E_goto 17 dL_letter_10 (by decide) ?_
  refine E_iconst (v := 0) dL_letter_17 rfl ?_
  exact E_iret dL_letter_18 rfl rfl ⟨rfl, rfl⟩
theorem c_L_letter_no {h' : HP} (hC : EG mDesk_letter 6 1 6 0 (lv_args 0 [.ref 3, .int w, .int i]) [] (hp z) tb0 (GX h')) : EG mLaw_letter 7 1 6 0 (lv_args 0 [.ref 3, .int w, .int i, .ref 63]) [] (hp z) (tbH HH) (GE (Det (some (.int 1)) h')) := by
  refine G_aload_n dL_letter_0 rfl ?_
  refine G_iconst (v := nI 0) dL_letter_1 rfl ?_
  refine G_aload_n dL_letter_2 rfl ?_
  refine G_iload_n dL_letter_3 rfl ?_
  refine G_iload_n dL_letter_4 rfl ?_
  refine G_callX (yc := mDesk_letter) [.int w, .int i] [.int (nI 0), .ref 63] ⟨0, 10, 13, 13⟩ dL_letter_5 cv_L_15 (gt_in 812 (by decide +kernel) rfl) rfl rfl (by decide) (hg_3 _) rfl rfl (Nat.le_of_ble_eq_true rfl) (Nat.le_of_ble_eq_true rfl) hC (by decide) (by decide) (by decide) (fun _ h9 => h9) (by decide) (by decide) (q_gt q_linkL) dL_letter_13 (by decide) rfl ?_
  refine E_iconst (v := 1) dL_letter_15 rfl ?_
  exact E_iret dL_letter_16 rfl rfl ⟨rfl, rfl⟩
theorem okH_at : okH RL 58 mLaw_at 4 HH := ⟨⟨q_gt (by decide +kernel), q_gt (by decide +kernel), by decide +kernel, ⟨by decide +kernel, by decide +kernel, by decide +kernel⟩, by decide⟩, q_gt (by decide +kernel), q_gt (by decide +kernel)⟩
theorem okH_letter : okH RL 80 mLaw_letter 4 HH := ⟨⟨q_gt (by decide +kernel), q_gt (by decide +kernel), by decide +kernel, ⟨by decide +kernel, by decide +kernel, by decide +kernel⟩, by decide⟩, q_gt (by decide +kernel), q_gt (by decide +kernel)⟩
def OKT (c : Nat) (z : Sg) (yL yM : MI) (w i : Int32) : Prop := ∃ (a b : Int32) (z1 z2 : Sg), EG yL 7 1 6 0 (lv_args 0 [.ref 3, .int w, .int i, .ref 63]) [] (hp z) (tbH HH) (GE (Det (some (.int a)) (hp z1))) ∧ EM yM 1 0 0 [.ref 39, .int w, .int i] (hp z1) (Det (some (.int b)) (hp z2)) ∧ z2.F 39 0 = a ∧ (a = 0 → z2.L 63 0 = b.toInt64) ∧ RR (c + 1) z2 z2 ∧ z1.X = z.X ∧ z2.X = z1.X
theorem F390 (z : Sg) (v : Int32) : (stF z 39 0 v).F 39 0 = v := by simp [stF, va_up, Sg.F, upd]
theorem SD_zv (z : Sg) (v : Int32) : SD z (zv z v) := ⟨fun _ _ => rfl, fun _ _ => rfl, rfl, rfl, rfl, ⟨[], (List.append_nil _).symm⟩, rfl⟩
theorem zv_L (z : Sg) (v : Int32) : (zv z v).L 63 0 = v.toInt64 := by simp [zv, stL, va_up, vp_updL, Sg.L]
theorem i_nat {n : Nat} (hn : n < 2 ^ 31) (h : 0 ≤ i ∧ i < nI n) : ∃ j, j < n ∧ i = nI j := by
  obtain ⟨h1, h2⟩ := h
  rw [i32_le] at h1
  rw [i32_lt, nI_toInt hn] at h2
  simp only [Int32.reduceToInt] at h1
  refine ⟨i.toInt.toNat, by omega, ?_⟩
  rw [i32_eq, nI_toInt (by omega)]
  omega
theorem s_at (h : RR c z z) (w i : Int32) : OKT c z mLaw_at mMod_at w i := by
  have hR := h
  obtain ⟨-, ⟨r, sd, o, k, hs⟩, -⟩ := h
  obtain ⟨a, b, -⟩ := hs
  have hx : (z.F 39 24).toInt ≤ 200 := by
    rw [a.2.2.2.1, nI_toInt (by have := a.2.1; omega)]
    have := a.2.1
    omega
  have hs' : (z.F 39 25).toInt ≤ 200 := by
    cases sd with
    | none => rw [b.2]; decide
    | some rs =>
      obtain ⟨s, -, b2⟩ := b
      rw [b2.2.2.2.1, nI_toInt (by have := b2.2.1; omega)]
      have := b2.2.1
      omega
  have no : ¬ atP z w i → EG mDesk_at 6 1 6 0 (lv_args 0 [.ref 3, .int w, .int i]) [] (hp z) tb0 (GX (hp z ++ [xc])) → OKT c z mLaw_at mMod_at w i := fun hn hE => by
    rw [hp_push] at hE
    refine ⟨1, atR (zx z) w i, zx z, atZ (zx z) w i, c_L_at_no hE, c_Mod_at (z := zx z) hx hs' w i, ?_, fun h9 => absurd h9 (by decide), ?_, rfl, rfl⟩
    · unfold atZ
      rw [if_neg (show ¬ atP (zx z) w i from hn), F390]
    · exact hR.up.c ((SD_D z _).tr (SD_F _ _ _)) ((SN.rf z).tr (SN_F0 (zx z) _))
  have chain : ∀ (c0 : Nat) (r0 : List Int32) (L : Int32) (f : Nat → Int32), ptv z w = .ref c0 → TXT z.D c0 L f r0 → inB w 0 1 → (if w = 0 then z.F 39 24 else z.F 39 25) = L → (∀ j, (if w = 0 then z.A 48 j else z.A 49 j) = f j) → OKT c z mLaw_at mMod_at w i := by
    intro c0 r0 L f hpt ht hin hL hf
    obtain ⟨t1, t2, -, t4, t5⟩ := ht
    by_cases hi : 0 ≤ i ∧ i < nI r0.length
    · obtain ⟨j, hj, rfl⟩ := i_nat (by omega) hi
      have hyes : atP z w (nI j) := ⟨hin, hi.1, by rw [hL, t4]; exact hi.2⟩
      have hC := c_at_in hpt t1 (by omega) hj
      have hv : atR z w (nI j) = r0.getD (r0.length - 1 - j) 0 := by
        unfold atR
        rw [if_pos hyes, hf, nI_clamp (by omega)]
        exact t5 j hj
      rw [← hv] at hC
      refine ⟨0, atR z w (nI j), zv z (atR z w (nI j)), atZ (zv z (atR z w (nI j))) w (nI j), c_L_at_ok hC, c_Mod_at (z := zv z _) hx hs' w (nI j), ?_, fun _ => zv_L z _, ?_, rfl, rfl⟩
      · unfold atZ
        rw [if_pos (show atP (zv z _) w (nI j) from hyes), F390]
      · exact hR.up.c ((SD_zv z _).tr (SD_F _ _ _)) ((SN.rf z).tr (SN_F0 (zv z _) _))
    · refine no (fun hy => hi ⟨hy.2.1, ?_⟩) (x_at_out hpt t1 hi)
      rw [← t4, ← hL]
      exact hy.2.2
  by_cases h0 : w = 0
  · exact chain z.T r (z.F 39 24) (z.A 48) (by unfold ptv; rw [if_pos h0]) a (by rw [h0]; decide) (if_pos h0) (fun _ => if_pos h0)
  · by_cases h1 : w = 1
    · cases sd with
      | none =>
        refine no (fun hy => ?_) (x_at_null (by unfold ptv; rw [if_neg h0, if_pos h1, b.1]; rfl))
        have h2 := hy.2.1
        have h3 := hy.2.2
        rw [if_neg h0, b.2, i32_lt] at h3
        rw [i32_le] at h2
        simp only [Int32.reduceToInt] at h2
        rw [show (-1 : Int32).toInt = -1 from by decide] at h3
        omega
      | some rs =>
        obtain ⟨s, b1, b2⟩ := b
        exact chain s rs (z.F 39 25) (z.A 49) (by unfold ptv; rw [if_neg h0, if_pos h1, b1]; rfl) b2 (by rw [h1]; decide) (if_neg h0) (fun _ => if_neg h0)
    · refine no (fun hy => ?_) (x_at_null (by unfold ptv; rw [if_neg h0, if_neg h1]))
      obtain ⟨h2, h3⟩ := hy.1
      simp only [Int32.reduceToInt] at h2 h3
      rcases (show w.toInt = 0 ∨ w.toInt = 1 by omega) with h4 | h4
      · exact h0 (i32_eq.mpr (by rw [h4]; rfl))
      · exact h1 (i32_eq.mpr (by rw [h4]; rfl))
theorem s_letter (h : RR c z z) (w i : Int32) : OKT c z mLaw_letter mMod_letter w i := by
  have hR := h
  obtain ⟨-, -, -, ⟨N, hb⟩, -⟩ := h
  have hN := hb.2.2.1
  have hbk : bkOK z N := ⟨hb.1, hN, fun W hW => by obtain ⟨⟨L, l1, l2, l3, -⟩, -⟩ := hb.2.2.2 W hW; exact ⟨L, l1, l2, l3⟩⟩
  have hmd : mdOK z N := ⟨hb.2.1, hN, fun W hW => by obtain ⟨⟨L, l1, l2, -, l4, -⟩, -⟩ := hb.2.2.2 W hW; exact ⟨L, l1, l2, l4⟩⟩
  have hs : (z.F 24 3).toInt ≤ 40 := by rw [hb.1, nI_toInt (by omega)]; omega
  have no : ¬ ltP z w i → ¬ (0 ≤ i ∧ i < bg z 26 w) → OKT c z mLaw_letter mMod_letter w i := fun hn hno => by
    have hE := x_letter hs hno
    rw [hp_push] at hE
    refine ⟨1, ltR (zx z) w i, zx z, ltZ (zx z) w i, c_L_letter_no hE, c_Mod_letter (z := zx z) hmd w i, ?_, fun h9 => absurd h9 (by decide), ?_, rfl, rfl⟩
    · unfold ltZ
      rw [if_neg (show ¬ ltP (zx z) w i from hn), F390]
    · exact hR.up.c ((SD_D z _).tr (SD_F _ _ _)) ((SN.rf z).tr (SN_F0 (zx z) _))
  by_cases hw : ltN w (nI N)
  · obtain ⟨W, hW, rfl⟩ := ltN_nat (by omega) hw
    obtain ⟨⟨L, l1, l2, l3, l4, l5⟩, -⟩ := hb.2.2.2 W hW
    have hbg : bg z 26 (nI W) = nI L := by
      unfold bg
      rw [hb.1, if_pos hw, nI_clamp (by omega), l3]
    have hin : inB (nI W) 0 (z.F 39 32 - 1) := by
      rw [hb.2.1, show nI N - 1 = nI (N - 1) from pk_sub (b := 1) (by omega)]
      exact ⟨by rw [nI_toInt (by omega)]; simp only [Int32.reduceToInt]; omega, by rw [nI_toInt (by omega), nI_toInt (by omega)]; omega⟩
    by_cases hi : 0 ≤ i ∧ i < nI L
    · obtain ⟨j, hj, rfl⟩ := i_nat (by omega) hi
      have hyes : ltP z (nI W) (nI j) := ⟨hin, hi.1, by rw [nI_clamp (by omega), l4]; exact hi.2⟩
      have hC := c_letter_in hbk hW l3 l2 hj
      have hv : ltR z (nI W) (nI j) = z.A 25 (12 * W + j) := by
        unfold ltR
        rw [if_pos hyes, show (12 : Int32) * nI W + nI j = nI (12 * W + j) by rw [show (12 : Int32) = nI 12 from rfl, pk_mul, nI_add], nI_clamp (by omega)]
        exact (l5 j hj).1.symm
      rw [← hv] at hC
      refine ⟨0, ltR z (nI W) (nI j), zv z (ltR z (nI W) (nI j)), ltZ (zv z (ltR z (nI W) (nI j))) (nI W) (nI j), c_L_letter_ok hC, c_Mod_letter (z := zv z _) hmd (nI W) (nI j), ?_, fun _ => zv_L z _, ?_, rfl, rfl⟩
      · unfold ltZ
        rw [if_pos (show ltP (zv z _) (nI W) (nI j) from hyes), F390]
      · exact hR.up.c ((SD_zv z _).tr (SD_F _ _ _)) ((SN.rf z).tr (SN_F0 (zv z _) _))
    · refine no (fun hy => hi ⟨hy.2.1, ?_⟩) (by rw [hbg]; exact hi)
      have h3 := hy.2.2
      rw [nI_clamp (by omega), l4] at h3
      exact h3
  · refine no (fun hy => ?_) (fun h9 => ?_)
    · obtain ⟨W, hW, rfl⟩ := lt_in hmd hy.1
      exact hw (nat_ltN hW (by omega))
    · have hbg : bg z 26 w = 0 := by
        unfold bg
        rw [hb.1, if_neg hw]
      rw [hbg, i32_le, i32_lt] at h9
      omega
end AtL
