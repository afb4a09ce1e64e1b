/-! THROWING CONTRACTS over the pure heap: the throw, the callee that throws, its call in a method with a table, and the call of that method -/
abbrev nseUp : List String := ["java/lang/RuntimeException", "java/lang/Exception"]
abbrev q_inits : List MethodName := [⟨"java/lang/RuntimeException", "<init>", "()V"⟩, ⟨"java/lang/Exception", "<init>", "()V"⟩, ⟨"java/lang/Throwable", "<init>", "()V"⟩]
abbrev q_bad : List Cond := [.castable R_nse R_nse, .superclass "java/lang/Throwable" "java/lang/Object"] ++ q_inits.map (fun x => .declares x)
theorem q_at0 : ∀ w ∈ vx_at0 RX10 144 R_nse nseUp, (w ∈ lw_tbl ∧ goodWord w = true) ∨ w ∈ q_bad := by decide +kernel
theorem q_badOn : ∀ w ∈ q_bad, w.onTables = true := by decide +kernel
theorem q_initIn : ∀ x ∈ q_inits, Cond.instanceMethod x ∈ lw_tbl ∧ (lw_tbl.any fun w => match w with | .code y _ _ _ => decide (y = x) | _ => false) = true := by decide +kernel
theorem q_code {x : MethodName} (h : (lw_tbl.any fun w => match w with | .code y _ _ _ => decide (y = x) | _ => false) = true) : ∃ b n r, Cond.code x b n r ∈ GT := by
  obtain ⟨w, h1, h2⟩ := List.any_eq_true.mp h
  cases w with
  | code y b n r =>
    have e : y = x := of_decide_eq_true h2
    subst e
    exact ⟨b, n, r, List.mem_filter.mpr ⟨h1, rfl⟩⟩
  | _ => cases h2
theorem q_decl {args : Array Value} {s : State} {x : MethodName} {b : ByteArray} {n : Nat} {r : Option FieldType} (hi : (Cond.instanceMethod x).before args s = true) (hc : (Cond.code x b n r).before args s = true) : (Cond.declares x).before args s = true := by
  obtain ⟨mk, meth, hn, hm, hst, -⟩ := Cond.instanceMethod_spec hi
  obtain ⟨meth', cM, hm', -, -, -, -, -, -, hsig⟩ := Cond.code_spec hn hc
  cases hm.symm.trans hm'
  simp [Cond.before, Cond.holds, Cond.value, hn, hm, hst, hsig]
theorem q_link : Cond.classLink RX10 142 R_nse ∈ lw_tbl ∧ goodWord (Cond.classLink RX10 142 R_nse) = true := by decide +kernel
theorem q_init : Cond.initialized R_nse ∈ lw_tbl ∧ goodWord (Cond.initialized R_nse) = true := by decide +kernel
theorem q_linkL : Cond.classLink RL 13 R_nse ∈ lw_tbl ∧ goodWord (Cond.classLink RL 13 R_nse) = true := by decide +kernel
theorem q_self (vm : Vm) (c : ClassId) : vm.assignable c c = true := by
  show vm.assignableAux 256 c c = true
  unfold Vm.assignableAux
  rw [beq_self_eq_true, Bool.true_or]
theorem q_cast {args : Array Value} {s : State} {E : String} {c : ClassId} (h : s.vm.findClass E = some c) : (Cond.castable E E).before args s = true := by simp [Cond.before, Cond.holds, Cond.value, h, q_self]
theorem q_gt {w : Cond} (h : w ∈ lw_tbl ∧ goodWord w = true) : w ∈ GT := List.mem_filter.mpr h
theorem q_words {args : Array Value} {s : State} {c : ClassId} (hts : ∀ w ∈ GT, w.before args s = true) (hfc : s.vm.findClass R_nse = some c) (hsup : (Cond.superclass "java/lang/Throwable" "java/lang/Object").before args s = true) : ∀ w ∈ vx_at0 RX10 144 R_nse nseUp, w.before args s = true := by
  intro w hw
  rcases q_at0 w hw with h | h
  · exact hts _ (q_gt h)
  · rcases List.mem_append.mp h with h | h
    · rcases List.mem_cons.mp h with rfl | h
      · exact q_cast hfc
      · rcases List.mem_cons.mp h with rfl | h
        · exact hsup
        · exact absurd h List.not_mem_nil
    · obtain ⟨x, hx, rfl⟩ := List.mem_map.mp h
      obtain ⟨h1, h2⟩ := q_initIn x hx
      obtain ⟨b, n, r, h3⟩ := q_code h2
      exact q_decl (hts _ (List.mem_filter.mpr ⟨h1, rfl⟩)) (hts _ h3)
section EX
variable {y yc : MI} {d k n pc : Nat} {lv : List (Nat × Value)} {st : List Value} {h h' : HP} {Q : Option Value → HP → Prop} {tb : Code → Prop} {G : GP}
/-- 'throw new NoSuchElementException()' in a method of the desk -/
theorem G_throw (hy : y.1.cls = RX10) (d0 : decode y.2.1 pc = .ok (.new 142, 3)) (d3 : decode y.2.1 (pc + 3) = .ok (.dup, 1)) (d4 : decode y.2.1 (pc + 4) = .ok (.invokespecial 144, 3)) (d7 : decode y.2.1 (pc + 7) = .ok (.athrow, 1)) (hd : 6 ≤ d) (hk : 1 ≤ k) (hn : 6 ≤ n) (hw : (st.map fun v => v.category).sum ≤ 8) : EG y d k n pc lv st h tb0 (GX (h ++ [.inr (12, [])])) := by
  intro p l e R s m args below meth c H locs cells slots mc ms N0 B D ca tys ls c1 c2 c3 c4 c5 c6 c7 c8 ct
  have hts := c1.2.2.2.2.2.1
  have hX : XI N0 B h s H := c7.2.2.2.2.2
  have hback : ∀ a : Nat, a < H.size → ¬ AA N0 a → s.heap[a]? = H[a]? := fun a _ ha => (c6.2.1 a (by unfold AA at ha; omega) ha).symm
  have hfc : s.vm.findClass R_nse = some (D.1 12) := (c7.1.1 12 (R_nse, TX0, 0) rfl).2.1
  have hr1 := c2.1
  have hr2 := c2.2.1
  have hr3 := c2.2.2.1
  have hr4 := c2.2.2.2
  refine vx_throw0 (cc := y.2.1) (own := RX10) (cls := R_nse) (names := nseUp) (ik := 142) (ic := 144) (A := AA N0) c1.1 c1.2.1 l.2 (by rw [← hy]; exact c1.2.2.2.2.1) (by decide +kernel) (by decide +kernel) (hts _ (q_gt q_link)) (hts _ (q_gt q_init)) (q_words hts hfc (va_Nw.use rfl hX.2.2.2.2.2)) ?_ (hX.2.2.2.1.kept hback) (hX.2.2.2.2.1.kept hback) c6 (c8.1.trans c1.2.2.2.1.symm) d0 d3 d4 d7 (fun x hx => (ct x hx).elim) ?_ ?_ (by omega) (by omega) c1.2.2.2.2.2.2.1 ?_ c6.2.2 (by omega) (by omega)
  · intro w hw
    unfold vx_ot
    rcases List.mem_cons.mp hw with rfl | hw
    · rw [q_link.2, Bool.or_true]
    · rcases List.mem_cons.mp hw with rfl | hw
      · rw [q_init.2, Bool.or_true]
      · rcases q_at0 w hw with h9 | h9
        · rw [h9.2, Bool.or_true]
        · rw [q_badOn w h9, Bool.true_or]
  · show 2 + 3 < R.frames
    omega
  · rw [cat_map]
    show _ + (13 * (2 + 1) + 42) ≤ R.locals
    omega
  · intro t ce hal hz hkeep hce hcv hcl
    have hK := c7.1.1 12 (R_nse, TX0, 0) rfl
    have hcls : ce.cls = D.1 12 := Option.some.inj (hcl.symm.trans hK.2.1)
    refine ⟨rfl, _, tys, HI.push (cA := 0) (c7.moved hal) ⟨(R_nse, TX0, 0), rfl, ce, hce, hcls, hcv, fun j hj => absurd hj (Nat.not_lt_zero _)⟩ hz hkeep (c7.moved hal).1 (fun _ _ h9 => h9) (fun _ _ h9 => nomatch h9), ?_, ?_⟩
    · rw [hz]
      have := c6.1
      omega
    · intro q hq hn
      rw [hkeep q (Nat.lt_of_lt_of_le hq c6.1)]
      exact c6.2.1 q hq hn
theorem met_of_X {vs : List Value} (hE : EG y d k n 0 (lv_args 0 vs) [] h tb0 (GX h')) (hy : plainName y.1.cls = true) (hl : (lg_sl vs).length ≤ y.2.2.1) (l : LNT) (N0 : Nat) (B : Nat → Nat) (D : va_G) (ca : Nat → ClassId) (tys : List (ClassId × FieldType)) : vx_Met l.1 y.1 (Cond.code y.1 y.2.1 y.2.2.1 y.2.2.2 :: GT) { frames := d, cells := k, slots := n, locals := 40 * d } (PI N0 B D ca tys h vs) (fun _ _ _ _ => False) (XC N0 B D h') k n (AA N0) := by
  refine vx_ofW (cc := y.2.1) (maxL := y.2.2.1) (ret := y.2.2.2) hy rfl ?_
  intro p e s m args below meth c s₁ Bd hml hex hv
  obtain ⟨rfl, hI, hN, hz⟩ := hv
  have hts := atoms_spec (ws := Cond.code y.1 y.2.1 y.2.2.1 y.2.2.2 :: GT) Bd.pre
  rw [lg_entry_eq]
  refine hE p l e _ s m _ below meth c s.heap [] 0 0 k n N0 B D ca tys _ ⟨Bd.exec, Bd.bytes, Bd.returns, hml, findClass_of_methodNamed Bd.named, fun w hw => hts w (List.mem_cons_of_mem _ hw), Bd.notSynchronized, (name_of_methodNamed Bd.named Bd.method).1, hN⟩ ⟨Nat.le_refl _, Nat.le_refl _, Nat.le_refl _, Nat.le_refl _⟩ (by omega) (by omega) hz va_S.rf hI ?_ hex
  rw [← lv_args_map]
  exact lv_entry _ (by rw [lg_sl_len]; exact hl)
/-- a callee that throws, caught by the only row of this method's table, whose handler puts it by -/
theorem G_callX {idx np ci i dc kc nc j : Nat} {fs : List Value} {q : vw_C} {lv' : List (Nat × Value)} (As rest : List Value) (x : ExceptionTableEntry) (hd : decode y.2.1 pc = .ok (.invokevirtual idx, 3)) (ok : okV y.1.cls idx yc np) (hnest : Cond.methodLink y.1.cls idx yc.1 ∈ GT) (hst : st = As.reverse ++ .ref i :: rest) (hnp : As.length = np) (hi : 3 ≤ i) (hh : h[i]? = some (.inr (ci, fs))) (hc : CL[ci]? = some q) (hq : q.1 = yc.1.cls) (hl : (lg_sl (.ref i :: As)).length ≤ yc.2.2.1) (hw : (rest.map fun v => v.category).sum ≤ 8)
    (hC : EG yc dc kc nc 0 (lv_args 0 (.ref i :: As)) [] h tb0 (GX h')) (hdc : dc + 1 ≤ d) (hk : kc ≤ k) (hn : nc ≤ n) (htb : ∀ c, tb c → c.exceptionTable.toList = [x]) (hx : covers x pc = true) (h0 : x.catchType ≠ 0) (hlink : Cond.classLink y.1.cls x.catchType R_nse ∈ GT)
    (d4 : decode y.2.1 x.handlerPc = .ok (.astore j, 2)) (hj : j < y.2.2.1) (hlv : lv.filter (fun q => !(q.1 == j) && !(q.1 + 1 == j && q.2.category == 2)) = lv') (K : E y d (k - kc) (n - nc) (x.handlerPc + 2) lv' [] h' Q) : EG y d k n pc lv st h tb (GE Q) := by
  intro p l e R s m args below meth c H locs cells slots mc ms N0 B D ca tys ls c1 c2 c3 c4 c5 c6 c7 c8 ct
  obtain ⟨⟨g1, g2, g3, g4, g5⟩, g6, g7, g8⟩ := ok
  have hts := c1.2.2.2.2.2.1
  have hM := met_of_X hC g3 hl l N0 B D ca tys
  subst hst
  have hR : dc + 1 ≤ R.frames ∧ 8 + (yc.2.2.1 + 11) + 40 * dc ≤ R.locals := ⟨Nat.le_trans hdc c2.1, by have := c2.2.1; omega⟩
  have hroom : cells + kc ≤ R.cells ∧ slots + nc ≤ R.slots := ⟨by have := c2.2.2.1; omega, by have := c2.2.2.2; omega⟩
  have hW8 : 2 * (F0 m pc ls ((As.reverse ++ Value.ref i :: rest).map (tv (adr N0 B)))).monitorRoom + ((rest.map (tv (adr N0 B))).map fun v => v.category).sum ≤ 8 := lv_room (by rw [cat_map]; exact hw)
  have hrc : ∃ cell : Cell, H[adr N0 B i]? = some cell ∧ cell.vm.isStatics = false ∧ s.vm.findClass yc.1.cls = some cell.cls := by
    rw [← hq]
    exact va_recv c7.1 c7.2.1 hc (wd_get hi hh)
  have hstk : (F0 m pc ls ((As.reverse ++ Value.ref i :: rest).map (tv (adr N0 B)))).stack = (As.map (tv (adr N0 B))).reverse ++ .ref (adr N0 B i) :: rest.map (tv (adr N0 B)) := by
    show (As.reverse ++ Value.ref i :: rest).map (tv (adr N0 B)) = _
    rw [List.map_append, List.map_reverse]
    rfl
  have hp : PreV s H yc.1.cls (adr N0 B i) (PI N0 B D ca tys h (.ref i :: As)) (As.map (tv (adr N0 B))) := ⟨PI_blind, hrc, PI_at (vs := .ref i :: As) c7 c1.2.2.2.2.2.2.2.2 (Nat.le_trans c5 c6.1)⟩
  have hrun : vx_Run p l.1 e R s m args below meth c H locs cells slots kc nc (F0 m pc ls ((As.reverse ++ Value.ref i :: rest).map (tv (adr N0 B)))) (rest.map (tv (adr N0 B))) (fun _ _ _ => False) (XC N0 B D h') (AA N0) :=
    vx_runV ⟨c1.1, c1.2.1, c1.2.2.2.1, c1.2.2.2.2.1, hts⟩ hM ⟨callB_of np hts (gt_good yc g1) rfl rfl rfl (hts _ g2) (hts _ hnest) g4 hR, hts _ g6, hts _ g7⟩ hp rfl (by rw [List.length_map]; exact hnp) c8.1 hstk hW8 hd hroom
  intro T hT X
  rcases hrun T hT X with ⟨_, _, _, _, _, _, _, _, _, _, hno, _⟩ | ⟨q9, st₀, t, T', L, E9, ce, hs0, X', hL, e1, e2, ⟨hE9, ca', tys', hI, hz, hkp⟩, hce, hcv, hcl, stp⟩
  · exact hno.elim
  · subst hE9
    obtain ⟨v, XV, stV⟩ := q_caught X' (g := F0 m pc ls (rest.map (tv (adr N0 B)))) rfl c1.2.2.2.2.1 (htb c ct) hx h0 (hts _ hlink) hcl (by rw [e1]; exact hce) hcv (q_self _ _)
    rw [hs0] at hz hkp
    have hal : t.vm.Alike s.vm := by rw [← e2]; exact X'.warmed.alike.symm
    have hI2 : HI N0 B D ca' tys' h' s T'.heap := by rw [e1]; exact hI.moved hal
    have hS2 : va_S (AA N0) s.heap T'.heap (locs ++ L) := ⟨Nat.le_trans c6.1 (by rw [e1]; exact hz), fun q h1 h2 => by rw [e1, hkp q (Nat.lt_of_lt_of_le h1 c6.1) h2]; exact c6.2.1 q h1 h2, fun q hq => by
      rcases List.mem_append.mp hq with h | h
      · exact c6.2.2 q h
      · exact hL q h⟩
    have hW : W p l.1 e R s m args below meth c T'.heap (locs ++ L) (cells + kc) (slots + nc) (GE Q below args s mc ms N0 B D) (F0 m x.handlerPc ls [.ref q9]) :=
      lv_astore c1.1 c1.2.1 d4 c8 hj rfl (fun ls2 c9 => K p l e R s m args below meth c T'.heap (locs ++ L) (cells + kc) (slots + nc) mc ms N0 B D ca' tys' ls2 c1 c2 (by omega) (by omega) c5 hS2 hI2 ⟨c9.1, c9.2.1, fun q hq => c9.2.2 q (List.mem_cons_of_mem _ (by rw [lm_filter, hlv]; exact hq))⟩)
    obtain ⟨t2, a1, b1⟩ := hW (T'.setVm v) rfl XV
    exact ⟨t2, stp.trans (stV _ a1), b1⟩
/-- what is known of a static method with a table -/
def okH (own : String) (idx : Nat) (yc : MI) (np : Nat) (hh : List (Nat × Nat × Nat × Nat)) : Prop := (Cond.codeWith yc.1 yc.2.1 yc.2.2.1 yc.2.2.2 hh ∈ GT ∧ Cond.initialized yc.1.cls ∈ GT ∧ plainName yc.1.cls = true ∧ (yc.1.cls ≠ "java/lang/invoke/MethodHandle" ∧ yc.1.cls ≠ "java/lang/invoke/VarHandle" ∧ (parseMethodDescriptor yc.1.desc).map (fun d => d.parameters.length) = some np) ∧ yc.2.2.1 ≤ 21) ∧ Cond.static yc.1 ∈ GT ∧ Cond.methodLink own idx yc.1 ∈ GT
abbrev tbH (hh : List (Nat × Nat × Nat × Nat)) (c : Code) : Prop := c.exceptionTable.toList = tableOf hh
theorem gt_goodW {hh : List (Nat × Nat × Nat × Nat)} (y : MI) (hy : Cond.codeWith y.1 y.2.1 y.2.2.1 y.2.2.2 hh ∈ GT) : GoodIn GT (Cond.codeWith y.1 y.2.1 y.2.2.1 y.2.2.2 hh :: GT) := by
  intro w hw
  rcases List.mem_cons.mp hw with rfl | h
  · exact ⟨hy, good_of_word (List.mem_filter.mp hy).2⟩
  · exact ⟨h, good_of_word (List.mem_filter.mp h).2⟩
theorem met_of_W {vs : List Value} {hh : List (Nat × Nat × Nat × Nat)} (hE : EG y d k n 0 (lv_args 0 vs) [] h (tbH hh) (GE Q)) (hy : plainName y.1.cls = true) (hl : (lg_sl vs).length ≤ y.2.2.1) (l : LNT) (N0 : Nat) (B : Nat → Nat) (D : va_G) (ca : Nat → ClassId) (tys : List (ClassId × FieldType)) : Met l.1 y.1 (Cond.codeWith y.1 y.2.1 y.2.2.1 y.2.2.2 hh :: GT) { frames := d, cells := k, slots := n, locals := 40 * d } (PI N0 B D ca tys h vs) (EQ N0 B D Q) k n (AA N0) := by
  refine q_ofWH (cc := y.2.1) (maxL := y.2.2.1) (ret := y.2.2.2) hy rfl ?_
  intro p e s m args below meth c s₁ Bd hml hv
  obtain ⟨rfl, hI, hN, hz⟩ := hv
  have hts := atoms_spec (ws := Cond.codeWith y.1 y.2.1 y.2.2.1 y.2.2.2 hh :: GT) Bd.pre
  have htb : c.exceptionTable.toList = tableOf hh := vx_table (x := y.1) Bd (hts _ List.mem_cons_self)
  rw [lg_entry_eq]
  refine hE p l e _ s m _ below meth c s.heap [] 0 0 k n N0 B D ca tys _ ⟨Bd.exec, Bd.bytes, Bd.returns, hml, findClass_of_methodNamed Bd.named, fun w hw => hts w (List.mem_cons_of_mem _ hw), Bd.notSynchronized, (name_of_methodNamed Bd.named Bd.method).1, hN⟩ ⟨Nat.le_refl _, Nat.le_refl _, Nat.le_refl _, Nat.le_refl _⟩ (by omega) (by omega) hz va_S.rf hI ?_ htb
  rw [← lv_args_map]
  exact lv_entry _ (by rw [lg_sl_len]; exact hl)
theorem E_callSW {idx np dc kc nc : Nat} {hh : List (Nat × Nat × Nat × Nat)} {Qc : Option Value → HP → Prop} (As rest : List Value) (hd : decode y.2.1 pc = .ok (.invokestatic idx, 3)) (ok : okH y.1.cls idx yc np hh) (hst : st = As.reverse ++ rest) (hnp : As.length = np) (hl : (lg_sl As).length ≤ yc.2.2.1) (hw : (rest.map fun v => v.category).sum ≤ 8)
    (hC : EG yc dc kc nc 0 (lv_args 0 As) [] h (tbH hh) (GE Qc)) (hdc : dc + 1 ≤ d) (hk : kc ≤ k) (hn : nc ≤ n) (K : ∀ r h', Qc r h' → E y d (k - kc) (n - nc) (pc + 3) lv (r.toList ++ rest) h' Q) : E y d k n pc lv st h Q := by
  intro p l e R s m args below meth c H locs cells slots mc ms N0 B D ca tys ls c1 c2 c3 c4 c5 c6 c7 c8
  obtain ⟨⟨g1, g2, g3, g4, g5⟩, g6, g8⟩ := ok
  have hts := c1.2.2.2.2.2.1
  have hM := met_of_W hC g3 hl l N0 B D ca tys
  subst hst
  have hR : dc + 1 ≤ R.frames ∧ 8 + (yc.2.2.1 + 11) + 40 * dc ≤ R.locals := ⟨Nat.le_trans hdc c2.1, by have := c2.2.1; omega⟩
  have hroom : cells + kc ≤ R.cells ∧ slots + nc ≤ R.slots := ⟨by have := c2.2.2.1; omega, by have := c2.2.2.2; omega⟩
  have hW8 : 2 * (F0 m pc ls ((As.reverse ++ rest).map (tv (adr N0 B)))).monitorRoom + ((rest.map (tv (adr N0 B))).map fun v => v.category).sum ≤ 8 := lv_room (by rw [cat_map]; exact hw)
  have hstk : (F0 m pc ls ((As.reverse ++ rest).map (tv (adr N0 B)))).stack = (As.map (tv (adr N0 B))).reverse ++ rest.map (tv (adr N0 B)) := by
    show (As.reverse ++ rest).map (tv (adr N0 B)) = _
    rw [List.map_append, List.map_reverse]
  have hp : PreS s H (PI N0 B D ca tys h As) (As.map (tv (adr N0 B))) := ⟨PI_blind, PI_at c7 c1.2.2.2.2.2.2.2.2 (Nat.le_trans c5 c6.1)⟩
  have hcw : vx_CSW R s args y.1.cls idx yc.1 yc.2.1 yc.2.2.1 yc.2.2.2 hh (Cond.codeWith yc.1 yc.2.1 yc.2.2.1 yc.2.2.2 hh :: GT) { frames := dc, cells := kc, slots := nc, locals := 40 * dc } kc nc np :=
    ⟨⟨rfl, rfl, hR.1, hR.2, pay_in hts (gt_goodW yc g1), List.mem_cons_self⟩, hts _ g1, hts _ g2, ⟨g4.1, g4.2.1⟩, fun sig h => by have h2 := g4.2.2; rw [h] at h2; exact (Option.some.inj h2).symm, hts _ g8, hts _ g6⟩
  have hrun : va_Run p l.1 e R s m args below meth c H locs cells slots kc nc (F0 m pc ls ((As.reverse ++ rest).map (tv (adr N0 B)))) (rest.map (tv (adr N0 B))) (EQ N0 B D Qc (As.map (tv (adr N0 B))).toArray) (AA N0) :=
    vx_runSW ⟨c1.1, c1.2.1, c1.2.2.2.1, c1.2.2.2.2.1, hts⟩ hM hcw hp rfl (by rw [List.length_map]; exact hnp) c8.1 hstk hW8 hd hroom
  refine run_go hrun c6 (fun r h' ca' tys' H' locs' hq' hI' hS' => ?_)
  have K2 := K r h' hq' p l e R s m args below meth c H' locs' (cells + kc) (slots + nc) mc ms N0 B D ca' tys' ls c1 c2 (by omega) (by omega) c5 hS' hI' c8
  rw [List.map_append] at K2
  cases r <;> exact K2
end EX
