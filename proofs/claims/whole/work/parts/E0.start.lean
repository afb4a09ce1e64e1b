/-! THE START: the claim's entry as a pure heap of three cells, and the law's end as the claim asks it -/
def R_law : String := "SwitchDeskLaw"
def lw_P (b : Addr) (xs : List Int32) (args : Array Value) (s : State) : Prop := args = #[.ref b] ∧ s.IntsAt b xs ∧ xs.length ≤ 2048 ∧ (Jvm.Cond.and given_1 narrow_1).before args s = true
def lw_Q (_ : Array Value) (s : State) (o : Outcome) (t : State) : Prop := o = .returned (some (.int 1)) ∧ Framed s o t [] 601024 7293034
def lw_Z (below : List Frame) (a : Array Value) (s : State) : State → Prop := fun t => ∃ o, t.status = .running ∧ Ended t below o ∧ lw_Q a s o t
def lw_At (p : Program) (s : State) (m : MethodId) (meth : Method) (c : Code) (b L : Nat) (xs : Nat → Int32) : Prop :=
  p.tables.exec = Jvm.exec ∧ c.code = code ∧ meth.sig.returnType = ret ∧ c.maxLocals = 7 ∧ s.vm.findClass R_law = some m.cls ∧ (∀ w ∈ lw_tbl, w.before #[Value.ref b] s = true) ∧ va_X b L xs s s.heap ∧ b < s.heap.size ∧ meth.locks = false ∧ (Jvm.Cond.and given_1 narrow_1).before #[Value.ref b] s = true
theorem e_cls : ∀ k, k < 13 → ∃ (q : vw_C) (n : Nat), CL[k]? = some q ∧ (∀ w ∈ u_ws q.1 q.2.1 q.2.2, w ∈ GT) ∧ Cond.instantiable q.1 n ∈ GT := by
  intro k hk
  match k, hk with
  | 0, _ => exact ⟨(RX0, TX0, 4), 4, rfl, ly_X0, q_gt (by decide +kernel)⟩
  | 1, _ => exact ⟨(RX1, TX1, 3), 3, rfl, ly_X1, q_gt (by decide +kernel)⟩
  | 2, _ => exact ⟨(RX2, TX2, 7), 7, rfl, ly_X2, q_gt (by decide +kernel)⟩
  | 3, _ => exact ⟨(RX3, TX3, 10), 10, rfl, ly_X3, q_gt (by decide +kernel)⟩
  | 4, _ => exact ⟨(RX4, TX4, 1), 1, rfl, ly_X4, q_gt (by decide +kernel)⟩
  | 5, _ => exact ⟨(RX5, TX5, 5), 5, rfl, ly_X5, q_gt (by decide +kernel)⟩
  | 6, _ => exact ⟨(RX6, TX6, 4), 4, rfl, ly_X6, q_gt (by decide +kernel)⟩
  | 7, _ => exact ⟨(RX7, TX7, 7), 7, rfl, ly_X7, q_gt (by decide +kernel)⟩
  | 8, _ => exact ⟨(RX8, TX8, 2), 2, rfl, ly_X8, q_gt (by decide +kernel)⟩
  | 9, _ => exact ⟨(RX9, TX9, 11), 11, rfl, ly_X9, q_gt (by decide +kernel)⟩
  | 10, _ => exact ⟨(RX10, TX10, 9), 9, rfl, ly_X10, q_gt (by decide +kernel)⟩
  | 11, _ => exact ⟨(RX11, TX11, 38), 38, rfl, ly_X11, q_gt (by decide +kernel)⟩
  | 12, _ => exact ⟨(R_nse, TX0, 0), 6, rfl, fun w hw => by simp [u_ws] at hw, q_gt (by decide +kernel)⟩
theorem e_known {args : Array Value} {s : State} (hts : ∀ w ∈ GT, w.before args s = true) : ∃ D : va_G, ∀ (k : Nat) (q : vw_C), CL[k]? = some q → u_Kn s q.1 q.2.1 q.2.2 (D.1 k) (D.2 k) := by
  have key : ∀ k : Nat, ∃ (c : ClassId) (f : Nat → Nat), ∀ q : vw_C, CL[k]? = some q → u_Kn s q.1 q.2.1 q.2.2 c f := by
    intro k
    by_cases hk : k < 13
    · obtain ⟨q, n, h1, h2, h3⟩ := e_cls k hk
      obtain ⟨c, f, h⟩ := u_known hts h2 (hts _ h3)
      exact ⟨c, f, fun q' hq => by cases h1.symm.trans hq; exact h⟩
    · refine ⟨0, fun _ => 0, fun q hq => ?_⟩
      have h9 : CL.length = 13 := rfl
      have := (List.getElem?_eq_some_iff.mp hq).1
      omega
  exact ⟨(fun k => Classical.choose (key k), fun k => Classical.choose (Classical.choose_spec (key k))), fun k q hq => Classical.choose_spec (Classical.choose_spec (key k)) q hq⟩
theorem e_nest : (∀ w ∈ lw_tbl, (match w with | .methodLinkNest _ _ _ _ => w.onTables | .fieldLinkNest _ _ _ _ _ _ => w.onTables | _ => true) = true) ∧ Cond.arrayOver (.object "SwitchDesk$Chain") ∈ lw_tbl := ⟨fun w _ => by cases w <;> rfl, by decide +kernel⟩
theorem e_NI {args : Array Value} {s : State} (hts : ∀ w ∈ lw_tbl, w.before args s = true) : NI s := ⟨fun _ _ _ _ h => va_Nw.of rfl (hts _ h), fun _ _ _ _ _ _ h => va_Nw.of rfl (hts _ h), va_AO.of (hts _ e_nest.2)⟩
abbrev tLow : Term := .static "SwitchDesk$Numbers" "LOWEST" "[I"
abbrev tHigh : Term := .static "SwitchDesk$Numbers" "HIGHEST" "[I"
theorem e_tab {b : Addr} {s : State} (hgv : (Jvm.Cond.and given_1 narrow_1).before #[Value.ref b] s = true) (tm : Term) (f : Nat → Int32) (h1 : Cond.arrayOf tm .int ∈ flatC (Jvm.Cond.and given_1 narrow_1)) (h2 : Cond.eq (.length tm) (.int 5) ∈ flatC (Jvm.Cond.and given_1 narrow_1)) (h3 : ∀ j, j < 5 → Cond.eq (.elem tm (.int (Int32.ofNat j))) (.int (f j)) ∈ flatC (Jvm.Cond.and given_1 narrow_1)) : ∃ t : Nat, tm.eval #[Value.ref b] s none [] s = some (.ref t) ∧ va_T .int t 5 (fun j => .int (f j)) (AA s.heap.size) s s.heap := by
  have hs := flat_of_before _ hgv
  exact va_Tof (by decide) (hs _ h1) (va_eqt (hs _ h2)) (fun j hj => va_eqt (hs _ (h3 j hj))) (fun a h9 h8 => by unfold AA at h8; omega)
theorem e_XI {b L : Nat} {xs : Nat → Int32} {s : State} (hts : ∀ w ∈ lw_tbl, w.before #[Value.ref b] s = true) (hX : va_X b L xs s s.heap) (hbl : b < s.heap.size) (hgv : (Jvm.Cond.and given_1 narrow_1).before #[Value.ref b] s = true) : ∃ B : Nat → Nat, B 0 = b ∧ XI s.heap.size B ((hp (zb (L, xs))).take 3) s s.heap := by
  have hs := flat_of_before _ hgv
  have hA : ∀ a : Nat, a < s.heap.size → ¬ AA s.heap.size a := fun a h9 h8 => by unfold AA at h8; omega
  obtain ⟨t1, e1, T1⟩ := e_tab hgv tLow lowF (by decide +kernel) (by decide +kernel) (by decide +kernel)
  obtain ⟨t2, e2, T2⟩ := e_tab hgv tHigh highF (by decide +kernel) (by decide +kernel) (by decide +kernel)
  obtain ⟨scr, x1, x2, x3, x4, x5⟩ := hX
  refine ⟨fun j => if j = 0 then b else if j = 1 then t1 else t2, rfl, fun j hj => ?_, va_Zof (hts _ (by decide +kernel)) (hts _ (by decide +kernel)) e1 hA, va_Zof (hts _ (by decide +kernel)) (hts _ (by decide +kernel)) e2 hA, vx_Zqof (hts _ (by decide +kernel)) (hts _ (by decide +kernel)) (hs _ (by decide +kernel)) hA, vx_Zqof (hts _ (by decide +kernel)) (hts _ (by decide +kernel)) (hs _ (by decide +kernel)) hA, va_Nw.of rfl (hts _ (by decide +kernel))⟩
  match j, hj with
  | 0, _ => exact ⟨L, xs, rfl, scr, x1, x2, x3, Nat.le_of_eq x4.symm, by rw [x4], x5, hA b hbl⟩
  | 1, _ => exact ⟨5, lowF, rfl, T1⟩
  | 2, _ => exact ⟨5, highF, rfl, T2⟩
theorem e_HI {b L : Nat} {xs : Nat → Int32} {s : State} (hts : ∀ w ∈ lw_tbl, w.before #[Value.ref b] s = true) (hX : va_X b L xs s s.heap) (hbl : b < s.heap.size) (hgv : (Jvm.Cond.and given_1 narrow_1).before #[Value.ref b] s = true) : ∃ (B : Nat → Nat) (D : va_G), B 0 = b ∧ HI s.heap.size B D (fun _ => 0) [] ((hp (zb (L, xs))).take 3) s s.heap := by
  obtain ⟨B, hB, hXI⟩ := e_XI hts hX hbl hgv
  obtain ⟨D, hD⟩ := e_known (args := #[Value.ref b]) (s := s) (fun w hw => hts w (List.mem_filter.mp hw).1)
  refine ⟨B, D, hB, ⟨hD, fun k q h => by simp at h⟩, fun k q h => ?_, rfl, Nat.le_refl 3, fun i k x hi h3 => ?_, hXI⟩
  · obtain ⟨c, hc, -⟩ := wd_of h
    exact absurd (List.getElem?_eq_some_iff.mp hc).1 (by show ¬ k + 3 < 3; omega)
  · exact absurd (List.getElem?_eq_some_iff.mp hi).1 (by show ¬ i < 3; omega)
/-- nothing that was there before is written -/
theorem e_end {below : List Frame} {args : Array Value} {s t : State} {B : Nat → Nat} {D : va_G} (h : MQ below (EQ s.heap.size B D (fun r _ => r = some (.int 1))) args s 601024 7293034 (AA s.heap.size) t) : lw_Z below args s t := by
  obtain ⟨o, h1, h2, ⟨r, h', ca, tys, ho, hr, -, -⟩, L, hF, hL⟩ := h
  obtain ⟨f1, f2, q1, q2, q3, q4, q5, q6⟩ := hF
  refine ⟨o, h1, h2, by rw [ho, hr]; rfl, f1, f2, q1, q2, q3, q4, q5, fun a c hc => ?_⟩
  obtain ⟨c9, e1, e2, e3, e4⟩ := q6 a c hc
  refine ⟨c9, e1, e2, e3, fun i _ => e4 i (fun hm => ?_)⟩
  have h9 := hL _ hm
  have h8 := (Array.getElem?_eq_some_iff.mp hc).1
  unfold AA at h9
  have h7 : s.heap.size ≤ a := h9
  omega
