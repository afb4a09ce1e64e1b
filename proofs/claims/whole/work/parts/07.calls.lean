/-! CALLS: a triple of the callee's body gives its contract, and that the caller's step -/
section EC
variable {y : MI} {d k n pc : Nat} {lv : List (Nat × Value)} {st : List Value} {h : HP} {Q : Option Value → HP → Prop}
theorem lv_args_map (a : Nat → Nat) (vs : List Value) : ∀ i, lv_args i (vs.map (tv a)) = lm a (lv_args i vs) := by
  induction vs with
  | nil => intro i; rfl
  | cons v t ih =>
    intro i
    show (i, tv a v) :: lv_args (if (tv a v).category = 2 then i + 2 else i + 1) (t.map (tv a)) = lm a ((i, v) :: lv_args (if v.category = 2 then i + 2 else i + 1) t)
    rw [tv_cat, ih]
    rfl
theorem lg_sl_len (a : Nat → Nat) (vs : List Value) : (lg_sl (vs.map (tv a))).length = (lg_sl vs).length := by
  induction vs with
  | nil => rfl
  | cons v t ih =>
    show ((if (tv a v).category = 2 then [Slot.val (tv a v), .second] else [.val (tv a v)]) ++ lg_sl (t.map (tv a))).length = ((if v.category = 2 then [Slot.val v, .second] else [.val v]) ++ lg_sl t).length
    rw [tv_cat, List.length_append, List.length_append, ih]
    split <;> rfl
def PI (N0 : Nat) (B : Nat → Nat) (D : va_G) (ca : Nat → ClassId) (tys : List (ClassId × FieldType)) (h : HP) (vs : List Value) : Array Value → State → Prop := va_Pc (vs.map (tv (adr N0 B))) (fun U => HI N0 B D ca tys h U U.heap ∧ NI U ∧ N0 ≤ U.heap.size)
theorem met_of_E {vs : List Value} (hE : E y d k n 0 (lv_args 0 vs) [] h Q) (hy : plainName y.1.cls = true) (hl : (lg_sl vs).length ≤ y.2.2.1) (l : LNT) (N0 : Nat) (B : Nat → Nat) (D : va_G) (ca : Nat → ClassId) (tys : List (ClassId × FieldType)) : Met l.1 y.1 (Cond.code y.1 y.2.1 y.2.2.1 y.2.2.2 :: GT) { frames := d, cells := k, slots := n, locals := 40 * d } (PI N0 B D ca tys h vs) (EQ N0 B D Q) k n (AA N0) := by
  refine Met.ofW (cc := y.2.1) (maxL := y.2.2.1) (ret := y.2.2.2) hy rfl ?_
  intro p e s m args below meth c s₁ Bd hml hv
  obtain ⟨rfl, hI, hN, hz⟩ := hv
  have hts := atoms_spec (ws := Cond.code y.1 y.2.1 y.2.2.1 y.2.2.2 :: GT) Bd.pre
  rw [lg_entry_eq]
  refine hE p l e _ s m _ below meth c s.heap [] 0 0 k n N0 B D ca tys _ ⟨Bd.exec, Bd.bytes, Bd.returns, hml, findClass_of_methodNamed Bd.named, fun w hw => hts w (List.mem_cons_of_mem _ hw), Bd.notSynchronized, (name_of_methodNamed Bd.named Bd.method).1, hN⟩ ⟨Nat.le_refl _, Nat.le_refl _, Nat.le_refl _, Nat.le_refl _⟩ (by omega) (by omega) hz va_S.rf hI ?_
  rw [← lv_args_map]
  exact lv_entry _ (by rw [lg_sl_len]; exact hl)
theorem NI.warm {s U : State} (hW : s.WarmedH U.vm) (hN : NI s) : NI U := ⟨fun a i x b hm => (hN.1 a i x b hm).warmM hW, fun a i r nm ds b hm => (hN.2.1 a i r nm ds b hm).warmF hW, va_AO.moved hW.alike hN.2.2⟩
theorem run_go {p : Program} {l : Launch} {e : Env} {R : Room} {s : State} {m : MethodId} {args a : Array Value} {below : List Frame} {meth : Method} {c : Code} {H : Heap} {locs : List Loc} {cells slots kc nc pc N0 : Nat} {B : Nat → Nat} {D : va_G} {Qw : State → Prop} {Qc : Option Value → HP → Prop} {ls : Array Slot} {st0 rest : List Value}
    (hr : va_Run p l e R s m args below meth c H locs cells slots kc nc (F0 m pc ls st0) rest (EQ N0 B D Qc a) (AA N0)) (hS : va_S (AA N0) s.heap H locs)
    (kk : ∀ (r : Option Value) (h' : HP) (ca : Nat → ClassId) (tys : List (ClassId × FieldType)) (H' : Heap) (locs' : List Loc), Qc r h' → HI N0 B D ca tys h' s H' → va_S (AA N0) s.heap H' locs' → W p l e R s m args below meth c H' locs' (cells + kc) (slots + nc) Qw (F0 m (pc + 3) ls ((r.map (tv (adr N0 B))).toList ++ rest))) :
    W p l e R s m args below meth c H locs cells slots Qw (F0 m pc ls st0) := by
  intro T hT X
  obtain ⟨v, st₀, t, T', L, h0, X', hL, e1, e2, ⟨r, h', ca', tys', hv, hq, hI, hz, hk⟩, st⟩ := hr T hT X
  cases hv
  rw [h0] at hz hk
  have hal : t.vm.Alike s.vm := by rw [← e2]; exact X'.warmed.alike.symm
  have hI2 : HI N0 B D ca' tys' h' s T'.heap := by rw [e1]; exact hI.moved hal
  obtain ⟨t2, a1, b1⟩ := kk r h' ca' tys' T'.heap (locs ++ L) hq hI2
    ⟨Nat.le_trans hS.1 (by rw [e1]; exact hz), fun q h1 h2 => by rw [e1, hk q (Nat.lt_of_lt_of_le h1 hS.1) h2]; exact hS.2.1 q h1 h2, fun q hq => by
      rcases List.mem_append.mp hq with h | h
      · exact hS.2.2 q h
      · exact hL q h⟩ T' rfl X'
  exact ⟨t2, st t2 a1, b1⟩
def EM (y : MI) (d k n : Nat) (vs : List Value) (h : HP) (Q : Option Value → HP → Prop) : Prop := E y d k n 0 (lv_args 0 vs) [] h Q
/-- what is known of a callee's code -/
def okY (yc : MI) (np : Nat) : Prop := Cond.code yc.1 yc.2.1 yc.2.2.1 yc.2.2.2 ∈ GT ∧ Cond.initialized yc.1.cls ∈ GT ∧ plainName yc.1.cls = true ∧ (yc.1.cls ≠ "java/lang/invoke/MethodHandle" ∧ yc.1.cls ≠ "java/lang/invoke/VarHandle" ∧ (parseMethodDescriptor yc.1.desc).map (fun d => d.parameters.length) = some np) ∧ yc.2.2.1 ≤ 21
def okV (own : String) (idx : Nat) (yc : MI) (np : Nat) : Prop := okY yc np ∧ Cond.instanceMethod yc.1 ∈ GT ∧ Cond.selects yc.1.cls yc.1 yc.1 ∈ GT ∧ (Cond.methodLink own idx yc.1 ∈ GT ∨ ∃ host, Cond.methodLinkNest own idx yc.1 host ∈ lw_tbl)
def okS (own : String) (idx : Nat) (yc : MI) (np : Nat) : Prop := okY yc np ∧ Cond.static yc.1 ∈ GT ∧ (Cond.methodLink own idx yc.1 ∈ GT ∨ ∃ host, Cond.methodLinkNest own idx yc.1 host ∈ lw_tbl)
def okI (own : String) (idx : Nat) (yc : MI) (np : Nat) : Prop := okY yc np ∧ yc.2.2.2 = none ∧ yc.1.name = "<init>" ∧ Cond.instanceMethod yc.1 ∈ GT ∧ (Cond.methodLink own idx yc.1 ∈ GT ∨ ∃ host, Cond.methodLinkNest own idx yc.1 host ∈ lw_tbl)
theorem cat_map (a : Nat → Nat) (rest : List Value) : ((rest.map (tv a)).map fun v => v.category).sum = (rest.map fun v => v.category).sum := by
  rw [List.map_map]
  exact congrArg _ (List.map_congr_left (fun v _ => tv_cat _ v))
theorem PI_blind {N0 : Nat} {B : Nat → Nat} {D : va_G} {ca : Nat → ClassId} {tys : List (ClassId × FieldType)} {h : HP} {vs : List Value} : FrameBlind (PI N0 B D ca tys h vs) := by
  intro a U g mk q
  obtain ⟨q0, q1, q2, q3⟩ := q
  exact ⟨q0, q1.moved (u := U) (U := U.calling g mk a) (Vm.Alike.refl U.vm), ⟨fun a i x b hm => (q2.1 a i x b hm).same rfl rfl, fun a i r nm ds b hm => (q2.2.1 a i r nm ds b hm).same rfl rfl, va_AO.moved (u := U) (U := U.calling g mk a) (Vm.Alike.refl U.vm) q2.2.2⟩, q3⟩
theorem PI_at {N0 : Nat} {B : Nat → Nat} {D : va_G} {ca : Nat → ClassId} {tys : List (ClassId × FieldType)} {h : HP} {vs : List Value} {s : State} {H : Heap} (hI : HI N0 B D ca tys h s H) (hN : NI s) (hz : N0 ≤ H.size) : ∀ U : State, U.heap = H → s.WarmedH U.vm → PI N0 B D ca tys h vs (vs.map (tv (adr N0 B))).toArray U :=
  fun U hU hW => ⟨rfl, by rw [hU]; exact hI.moved hW.alike, hN.warm hW, by rw [hU]; exact hz⟩
theorem E_callV {yc : MI} {idx np ci i dc kc nc : Nat} {fs : List Value} {q : vw_C} {Qc : Option Value → HP → Prop} (As rest : List Value) (hd : decode y.2.1 pc = .ok (.invokevirtual idx, 3)) (ok : okV y.1.cls idx yc np) (hst : st = As.reverse ++ .ref i :: rest) (hnp : As.length = np) (hi : 3 ≤ i) (hh : h[i]? = some (.inr (ci, fs))) (hc : CL[ci]? = some q) (hq : q.1 = yc.1.cls) (hl : (lg_sl (.ref i :: As)).length ≤ yc.2.2.1) (hw : (rest.map fun v => v.category).sum ≤ 8) (hC : EM yc dc kc nc (.ref i :: As) h Qc) (hdc : dc + 1 ≤ d) (hk : kc ≤ k) (hn : nc ≤ n) (K : ∀ r h', Qc r h' → E y d (k - kc) (n - nc) (pc + 3) lv (r.toList ++ rest) h' Q) : E y d k n pc lv st h Q := by
  intro p l e R s m args below meth c H locs cells slots mc ms N0 B D ca tys ls c1 c2 c3 c4 c5 c6 c7 c8
  obtain ⟨⟨g1, g2, g3, g4, g5⟩, g6, g7, g8⟩ := ok
  have hts := c1.2.2.2.2.2.1
  have hM := met_of_E hC g3 hl l N0 B D ca tys
  subst hst
  have hR : dc + 1 ≤ R.frames ∧ 8 + (yc.2.2.1 + 11) + 40 * dc ≤ R.locals := ⟨Nat.le_trans hdc c2.1, by have := c2.2.1; omega⟩
  have hroom : cells + kc ≤ R.cells ∧ slots + nc ≤ R.slots := ⟨by have := c2.2.2.1; omega, by have := c2.2.2.2; omega⟩
  have hW8 : 2 * (F0 m pc ls ((As.reverse ++ Value.ref i :: rest).map (tv (adr N0 B)))).monitorRoom + ((rest.map (tv (adr N0 B))).map fun v => v.category).sum ≤ 8 := lv_room (by rw [cat_map]; exact hw)
  have hrc : ∃ cell : Cell, H[adr N0 B i]? = some cell ∧ cell.vm.isStatics = false ∧ s.vm.findClass yc.1.cls = some cell.cls := by
    rw [← hq]
    exact va_recv c7.1 c7.2.1 hc (wd_get hi hh)
  have hstk : (F0 m pc ls ((As.reverse ++ Value.ref i :: rest).map (tv (adr N0 B)))).stack = (As.map (tv (adr N0 B))).reverse ++ .ref (adr N0 B i) :: rest.map (tv (adr N0 B)) := by
    show (As.reverse ++ Value.ref i :: rest).map (tv (adr N0 B)) = _
    rw [List.map_append, List.map_reverse]
    rfl
  have hp : PreV s H yc.1.cls (adr N0 B i) (PI N0 B D ca tys h (.ref i :: As)) (As.map (tv (adr N0 B))) := ⟨PI_blind, hrc, PI_at (vs := .ref i :: As) c7 c1.2.2.2.2.2.2.2.2 (Nat.le_trans c5 c6.1)⟩
  have hrun : va_Run p l e R s m args below meth c H locs cells slots kc nc (F0 m pc ls ((As.reverse ++ Value.ref i :: rest).map (tv (adr N0 B)))) (rest.map (tv (adr N0 B))) (EQ N0 B D Qc (Value.ref (adr N0 B i) :: As.map (tv (adr N0 B))).toArray) (AA N0) := by
    rcases g8 with g8 | ⟨host, g8⟩
    · exact va_runV ⟨c1.1, c1.2.1, c1.2.2.2.1, c1.2.2.2.2.1, hts⟩ hM ⟨callB_of np hts (gt_good yc g1) rfl rfl rfl (hts _ g2) (hts _ g8) g4 hR, hts _ g6, hts _ g7⟩ hp rfl (by rw [List.length_map]; exact hnp) c8.1 hstk hW8 hd hroom
    · exact va_runVN ⟨c1.1, c1.2.1, c1.2.2.2.1, c1.2.2.2.2.1, hts⟩ hM ⟨va_cnB np hts (gt_good yc g1) rfl rfl rfl (c1.2.2.2.2.2.2.2.2.1 _ _ _ _ g8) (hts _ g2) g4 hR, hts _ g6, hts _ g7⟩ hp rfl (by rw [List.length_map]; exact hnp) c8.1 hstk hW8 hd hroom
  refine run_go hrun c6 (fun r h' ca' tys' H' locs' hq' hI' hS' => ?_)
  have K2 := K r h' hq' p l e R s m args below meth c H' locs' (cells + kc) (slots + nc) mc ms N0 B D ca' tys' ls c1 c2 (by omega) (by omega) c5 hS' hI' c8
  rw [List.map_append] at K2
  cases r <;> exact K2
theorem E_callS {yc : MI} {idx np dc kc nc : Nat} {Qc : Option Value → HP → Prop} (As rest : List Value) (hd : decode y.2.1 pc = .ok (.invokestatic idx, 3)) (ok : okS y.1.cls idx yc np) (hst : st = As.reverse ++ rest) (hnp : As.length = np) (hl : (lg_sl As).length ≤ yc.2.2.1) (hw : (rest.map fun v => v.category).sum ≤ 8) (hC : EM yc dc kc nc As h Qc) (hdc : dc + 1 ≤ d) (hk : kc ≤ k) (hn : nc ≤ n) (K : ∀ r h', Qc r h' → E y d (k - kc) (n - nc) (pc + 3) lv (r.toList ++ rest) h' Q) : E y d k n pc lv st h Q := by
  intro p l e R s m args below meth c H locs cells slots mc ms N0 B D ca tys ls c1 c2 c3 c4 c5 c6 c7 c8
  obtain ⟨⟨g1, g2, g3, g4, g5⟩, g6, g8⟩ := ok
  have hts := c1.2.2.2.2.2.1
  have hM := met_of_E hC g3 hl l N0 B D ca tys
  subst hst
  have hR : dc + 1 ≤ R.frames ∧ 8 + (yc.2.2.1 + 11) + 40 * dc ≤ R.locals := ⟨Nat.le_trans hdc c2.1, by have := c2.2.1; omega⟩
  have hroom : cells + kc ≤ R.cells ∧ slots + nc ≤ R.slots := ⟨by have := c2.2.2.1; omega, by have := c2.2.2.2; omega⟩
  have hW8 : 2 * (F0 m pc ls ((As.reverse ++ rest).map (tv (adr N0 B)))).monitorRoom + ((rest.map (tv (adr N0 B))).map fun v => v.category).sum ≤ 8 := lv_room (by rw [cat_map]; exact hw)
  have hstk : (F0 m pc ls ((As.reverse ++ rest).map (tv (adr N0 B)))).stack = (As.map (tv (adr N0 B))).reverse ++ rest.map (tv (adr N0 B)) := by
    show (As.reverse ++ rest).map (tv (adr N0 B)) = _
    rw [List.map_append, List.map_reverse]
  have hp : PreS s H (PI N0 B D ca tys h As) (As.map (tv (adr N0 B))) := ⟨PI_blind, PI_at c7 c1.2.2.2.2.2.2.2.2 (Nat.le_trans c5 c6.1)⟩
  have hrun : va_Run p l e R s m args below meth c H locs cells slots kc nc (F0 m pc ls ((As.reverse ++ rest).map (tv (adr N0 B)))) (rest.map (tv (adr N0 B))) (EQ N0 B D Qc (As.map (tv (adr N0 B))).toArray) (AA N0) := by
    rcases g8 with g8 | ⟨host, g8⟩
    · exact va_runS ⟨c1.1, c1.2.1, c1.2.2.2.1, c1.2.2.2.2.1, hts⟩ hM ⟨callB_of np hts (gt_good yc g1) rfl rfl rfl (hts _ g2) (hts _ g8) g4 hR, hts _ g6⟩ hp rfl (by rw [List.length_map]; exact hnp) c8.1 hstk hW8 hd hroom
    · exact va_runSN ⟨c1.1, c1.2.1, c1.2.2.2.1, c1.2.2.2.2.1, hts⟩ hM ⟨va_cnB np hts (gt_good yc g1) rfl rfl rfl (c1.2.2.2.2.2.2.2.2.1 _ _ _ _ g8) (hts _ g2) g4 hR, hts _ g6, trivial⟩ hp rfl (by rw [List.length_map]; exact hnp) c8.1 hstk hW8 hd hroom
  refine run_go hrun c6 (fun r h' ca' tys' H' locs' hq' hI' hS' => ?_)
  have K2 := K r h' hq' p l e R s m args below meth c H' locs' (cells + kc) (slots + nc) mc ms N0 B D ca' tys' ls c1 c2 (by omega) (by omega) c5 hS' hI' c8
  rw [List.map_append] at K2
  cases r <;> exact K2
theorem E_callI {yc : MI} {idx np i dc kc nc : Nat} {Qc : Option Value → HP → Prop} (As rest : List Value) (hd : decode y.2.1 pc = .ok (.invokespecial idx, 3)) (ok : okI y.1.cls idx yc np) (hst : st = As.reverse ++ .ref i :: rest) (hnp : As.length = np) (hl : (lg_sl (.ref i :: As)).length ≤ yc.2.2.1) (hw : (rest.map fun v => v.category).sum ≤ 8) (hC : EM yc dc kc nc (.ref i :: As) h Qc) (hdc : dc + 1 ≤ d) (hk : kc ≤ k) (hn : nc ≤ n) (K : ∀ r h', Qc r h' → E y d (k - kc) (n - nc) (pc + 3) lv (r.toList ++ rest) h' Q) : E y d k n pc lv st h Q := by
  intro p l e R s m args below meth c H locs cells slots mc ms N0 B D ca tys ls c1 c2 c3 c4 c5 c6 c7 c8
  obtain ⟨⟨g1, g2, g3, g4, g5⟩, g9, g10, g6, g8⟩ := ok
  have hts := c1.2.2.2.2.2.1
  have hM := met_of_E hC g3 hl l N0 B D ca tys
  have hG := gt_good yc g1
  rw [g9] at hM hG
  subst hst
  have hR : dc + 1 ≤ R.frames ∧ 8 + (yc.2.2.1 + 11) + 40 * dc ≤ R.locals := ⟨Nat.le_trans hdc c2.1, by have := c2.2.1; omega⟩
  have hroom : cells + kc ≤ R.cells ∧ slots + nc ≤ R.slots := ⟨by have := c2.2.2.1; omega, by have := c2.2.2.2; omega⟩
  have hW8 : 2 * (F0 m pc ls ((As.reverse ++ Value.ref i :: rest).map (tv (adr N0 B)))).monitorRoom + ((rest.map (tv (adr N0 B))).map fun v => v.category).sum ≤ 8 := lv_room (by rw [cat_map]; exact hw)
  have hstk : (F0 m pc ls ((As.reverse ++ Value.ref i :: rest).map (tv (adr N0 B)))).stack = (As.map (tv (adr N0 B))).reverse ++ .ref (adr N0 B i) :: rest.map (tv (adr N0 B)) := by
    show (As.reverse ++ Value.ref i :: rest).map (tv (adr N0 B)) = _
    rw [List.map_append, List.map_reverse]
    rfl
  have hp : PreS s H (PI N0 B D ca tys h (.ref i :: As)) (.ref (adr N0 B i) :: As.map (tv (adr N0 B))) := ⟨PI_blind, PI_at (vs := .ref i :: As) c7 c1.2.2.2.2.2.2.2.2 (Nat.le_trans c5 c6.1)⟩
  have hrun : va_Run p l e R s m args below meth c H locs cells slots kc nc (F0 m pc ls ((As.reverse ++ Value.ref i :: rest).map (tv (adr N0 B)))) (rest.map (tv (adr N0 B))) (EQ N0 B D Qc (Value.ref (adr N0 B i) :: As.map (tv (adr N0 B))).toArray) (AA N0) := by
    rcases g8 with g8 | ⟨host, g8⟩
    · exact va_runI ⟨c1.1, c1.2.1, c1.2.2.2.1, c1.2.2.2.2.1, hts⟩ hM ⟨callB_of np hts hG rfl rfl rfl (hts _ g2) (hts _ g8) g4 hR, g10, hts _ g6⟩ hp rfl (by rw [List.length_map]; exact hnp) c8.1 hstk hW8 hd hroom
    · exact va_runIN ⟨c1.1, c1.2.1, c1.2.2.2.1, c1.2.2.2.2.1, hts⟩ hM ⟨va_cnB np hts hG rfl rfl rfl (c1.2.2.2.2.2.2.2.2.1 _ _ _ _ g8) (hts _ g2) g4 hR, g10, hts _ g6⟩ hp rfl (by rw [List.length_map]; exact hnp) c8.1 hstk hW8 hd hroom
  refine run_go hrun c6 (fun r h' ca' tys' H' locs' hq' hI' hS' => ?_)
  have K2 := K r h' hq' p l e R s m args below meth c H' locs' (cells + kc) (slots + nc) mc ms N0 B D ca' tys' ls c1 c2 (by omega) (by omega) c5 hS' hI' c8
  rw [List.map_append] at K2
  cases r <;> exact K2
end EC
