/-! THE HEAP'S RULES: fields, arrays, new cells -/
section EH
variable {y : MI} {d k n pc : Nat} {lv : List (Nat × Value)} {st : List Value} {h : HP} {Q : Option Value → HP → Prop}
theorem HI.set {N0 : Nat} {B : Nat → Nat} {D : va_G} {ca : Nat → ClassId} {tys : List (ClassId × FieldType)} {h : HP} {U : State} {H H1 : Heap} {i : Nat} {c0 c : PCell} (hI : HI N0 B D ca tys h U H) (hi : 3 ≤ i) (hc : h[i]? = some c0) (hat : va_at D CL (adr N0 B i, te (adr N0 B) (ca i) c) H1) (hz : H1.size = H.size) (oq : ∀ q, q ≠ adr N0 B i → H1[q]? = H[q]?) (hk : ∀ (k : Nat) (x : vp_A), c = .inl (k, x) → ∃ x0, c0 = .inl (k, x0)) : HI N0 B D ca tys (h.set i c) U H1 := by
  obtain ⟨h1, h2, h3, h4, h5, h6⟩ := hI
  refine ⟨h1, ?_, by rw [hz, List.length_set]; exact h3, by rw [List.length_set]; exact h4, fun j k' x hj h3' => ?_, h6.kept (fun j hj => ?_) (fun a ha hn => oq a (fun e => hn ?_))⟩
  · rw [← wd_set hi]
    exact h2.set wd_D (wd_get hi hc) hat oq
  · by_cases hij : i = j
    · subst hij
      rw [List.getElem?_set_self (List.getElem?_eq_some_iff.mp hc).1] at hj
      obtain ⟨x0, e0⟩ := hk k' x (Option.some.inj hj)
      exact h5 i k' x0 (by rw [hc, e0]) hi
    · rw [List.getElem?_set_ne hij] at hj
      exact h5 j k' x hj h3'
  · rw [List.getElem?_set_ne (by omega)]
  · rw [e, adr_ge hi]
    exact Nat.le_add_right _ _
theorem HI.push {N0 : Nat} {B : Nat → Nat} {D : va_G} {ca : Nat → ClassId} {tys tys' : List (ClassId × FieldType)} {h : HP} {U : State} {H H1 : Heap} {c : PCell} {cA : ClassId} (hI : HI N0 B D ca tys h U H) (hat : va_at D CL (H.size, te (adr N0 B) cA c) H1) (hz : H1.size = H.size + 1) (oq : ∀ q, q < H.size → H1[q]? = H[q]?) (hK : va_K D CL tys' U) (hsub : ∀ (t : Nat) (x : ClassId × FieldType), tys[t]? = some x → tys'[t]? = some x) (hk : ∀ (k : Nat) (x : vp_A), c = .inl (k, x) → k < 5 ∧ ∃ t : Nat, tys'[t]? = some (cA, kty k)) : HI N0 B D (fun j => if j = h.length then cA else ca j) tys' (h ++ [c]) U H1 := by
  obtain ⟨h1, h2, h3, h4, h5, h6⟩ := hI
  have hsz : N0 + (h.length - 3) = H.size := by omega
  refine ⟨hK, ?_, by rw [hz, List.length_append]; simp; omega, by rw [List.length_append]; omega, fun j k' x hj h3' => ?_, h6.kept (fun j hj => ?_) (fun a ha hn => oq a ha)⟩
  · rw [wd_push (ca := ca) h4 (fun i hi => if_neg (by omega)), if_pos rfl, hsz]
    refine (h2.kept fun j q hq => oq q.1 (h2 j q hq).lt).app (fun j q hq => ?_)
    have hz : j < 1 := (List.getElem?_eq_some_iff.mp hq).1
    rw [show j = 0 by omega] at hq
    cases hq
    exact hat
  · by_cases hl : j < h.length
    · rw [List.getElem?_append_left hl] at hj
      obtain ⟨a, t, b⟩ := h5 j k' x hj h3'
      dsimp only
      rw [if_neg (by omega)]
      exact ⟨a, t, hsub t _ b⟩
    · rw [List.getElem?_append_right (by omega)] at hj
      have hz : j - h.length < 1 := (List.getElem?_eq_some_iff.mp hj).1
      have hjl : j = h.length := by omega
      subst hjl
      rw [Nat.sub_self] at hj
      dsimp only
      rw [if_pos rfl]
      exact hk k' x (Option.some.inj hj)
  · rw [List.getElem?_append_left (by omega)]
theorem adr_new {N0 : Nat} {B : Nat → Nat} {D : va_G} {ca : Nat → ClassId} {tys : List (ClassId × FieldType)} {h : HP} {U : State} {H : Heap} (hI : HI N0 B D ca tys h U H) : adr N0 B h.length = H.size := by
  obtain ⟨-, -, h3, h4, -⟩ := hI
  rw [adr_ge h4]
  omega
/-- the links of a field, by class of the method, entry, class number, slot -/
def okF (own : String) (idx ci j : Nat) : Prop := ∃ (C : String) (T : u_T) (N : Nat), CL[ci]? = some (C, T, N) ∧ j < N ∧ (∀ w ∈ u_ws C T N, w ∈ GT) ∧ Cond.fieldLink own idx (T j).1 (T j).2.1 (T j).2.2.1 ∈ GT
def okC (ci : Nat) (ty : Nat → FieldType) : Prop := ∀ (C : String) (T : u_T) (N : Nat), CL[ci]? = some (C, T, N) → (∀ a, a < N → ∀ b, b < N → a ≠ b → (T a).2.1 ≠ (T b).2.1) ∧ ∀ a, a < N → parseFieldDescriptor (T a).2.2.1 = some (ty a)
def okN (own : String) (idx ci j : Nat) : Prop := ∃ (C : String) (T : u_T) (N : Nat) (host : String), CL[ci]? = some (C, T, N) ∧ j < N ∧ (∀ w ∈ u_ws C T N, w ∈ GT) ∧ Cond.fieldLinkNest own idx (T j).1 (T j).2.1 (T j).2.2.1 host ∈ lw_tbl
def okP (own : String) (idx ci j : Nat) (ty : FieldType) (fin : Bool) : Prop := ∃ (C : String) (T : u_T) (N : Nat) (ty0 : Nat → FieldType), CL[ci]? = some (C, T, N) ∧ j < N ∧ (∀ w ∈ u_ws C T N, w ∈ GT) ∧ Cond.fieldLink own idx (T j).1 (T j).2.1 (T j).2.2.1 ∈ GT ∧ okC ci ty0 ∧ ty0 j = ty ∧ (T j).2.2.2 = fin ∧ (fin = true → (T j).1 = own)
theorem E_getf {idx ci i : Nat} {fs : List Value} {v : Value} (j : Nat) (hd : decode y.2.1 pc = .ok (.getfield idx, 3)) (ok : okF y.1.cls idx ci j) (hi : 3 ≤ i) (hh : h[i]? = some (.inr (ci, fs))) (hv : fs[j]? = some v) (K : E y d k n (pc + 3) lv (v :: st) h Q) : E y d k n pc lv (.ref i :: st) h Q := by
  intro p l e R s m args below meth c H locs cells slots mc ms N0 B D ca tys ls c1 c2 c3 c4 c5 c6 c7 c8
  obtain ⟨C, T, N, a1, a2, a3, a4⟩ := ok
  exact va_get (v := tv (adr N0 B) v) c1.1 c1.2.1 c1.2.2.2.2.2.1 a3 c1.2.2.2.2.1 c7.1 c7.2.1 (i - 3) (wd_get hi hh) a1 j a2 (c1.2.2.2.2.2.1 _ a4) (fun _ h9 => h9) (by simp [List.getElem?_map, hv]) hd (K p l e R s m args below meth c H locs cells slots mc ms N0 B D ca tys ls c1 c2 c3 c4 c5 c6 c7 c8)
theorem E_getN {idx ci i : Nat} {fs : List Value} {v : Value} (j : Nat) (hd : decode y.2.1 pc = .ok (.getfield idx, 3)) (ok : okN y.1.cls idx ci j) (hi : 3 ≤ i) (hh : h[i]? = some (.inr (ci, fs))) (hv : fs[j]? = some v) (K : E y d k n (pc + 3) lv (v :: st) h Q) : E y d k n pc lv (.ref i :: st) h Q := by
  intro p l e R s m args below meth c H locs cells slots mc ms N0 B D ca tys ls c1 c2 c3 c4 c5 c6 c7 c8
  obtain ⟨C, T, N, host, a1, a2, a3, a4⟩ := ok
  exact va_getN (v := tv (adr N0 B) v) c1.1 c1.2.1 c1.2.2.2.2.2.1 a3 c1.2.2.2.2.1 c7.1 c7.2.1 (i - 3) (wd_get hi hh) a1 j a2 (va_Nw.use rfl (c1.2.2.2.2.2.2.2.2.2.1 _ _ _ _ _ _ a4)) (fun _ h9 => h9) (by simp [List.getElem?_map, hv]) hd (K p l e R s m args below meth c H locs cells slots mc ms N0 B D ca tys ls c1 c2 c3 c4 c5 c6 c7 c8)
/-- a value that may lie in a field or an array of this type -/
def fitsV (ty : FieldType) (v : Value) : Prop := ∀ a : Nat → Nat, narrow ty (tv a v) = tv a v ∧ fits ty (tv a v) = true
theorem fitsV_int (x : Int32) : fitsV .int (.int x) := fun _ => ⟨rfl, rfl⟩
theorem fitsV_obj (C : String) (x : Nat) : fitsV (.object C) (.ref x) := fun _ => ⟨rfl, rfl⟩
theorem fitsV_objN (C : String) : fitsV (.object C) .null := fun _ => ⟨rfl, rfl⟩
theorem fitsV_arr (t : FieldType) (x : Nat) : fitsV (.array t) (.ref x) := fun _ => ⟨rfl, rfl⟩
theorem E_put {idx ci i : Nat} {fs : List Value} {v : Value} (j : Nat) {ty : FieldType} (hd : decode y.2.1 pc = .ok (.putfield idx, 3)) (ok : okP y.1.cls idx ci j ty false) (hf : fitsV ty v) (hi : 3 ≤ i) (hh : h[i]? = some (.inr (ci, fs))) (hl : j < fs.length) (K : E y d k n (pc + 3) lv st (h.set i (.inr (ci, fs.set j v))) Q) : E y d k n pc lv (v :: .ref i :: st) h Q := by
  intro p l e R s m args below meth c H locs cells slots mc ms N0 B D ca tys ls c1 c2 c3 c4 c5 c6 c7 c8
  obtain ⟨C, T, N, ty0, hc, hk, hin, hlink, hC, hty, hfin, -⟩ := ok
  obtain ⟨hnm, hty0⟩ := hC C T N hc
  have hts := c1.2.2.2.2.2.1
  have hK := c7.1
  have hap := va_apart (own := y.1.cls) hts hin ty0 hty0 hnm hK hc
  obtain ⟨r, h1, cell, q1, q2, q3, q4⟩ := c7.2.1 (i - 3) _ (wd_get hi hh)
  have hr : r = (C, T, N) := Option.some.inj (h1.symm.trans hc)
  subst hr
  obtain ⟨hS, hfc, kC, hkC, hkind⟩ := hK.1 ci _ hc
  obtain ⟨cf, kf, fi, f, hfi, hsl⟩ := hS j hk
  have hlay := hts _ (hin _ (u_in_lay hk))
  unfold u_lay at hlay
  rw [if_neg (by rw [hfin]; decide)] at hlay
  have hst := (u_facts hfc hkC (u_lays hts hin hk) hfi).1
  have h6 := u_store hfc hkC hkind hlay hfi (hty ▸ hty0 j hk) (hf (adr N0 B)).1 (hf (adr N0 B)).2
  refine W.putK c1.1 c1.2.1 (f := f) ⟨c1.2.2.2.2.1, hts _ hlink, ⟨_, _, _, hfi⟩, hst⟩ (by rw [q2]; exact h6) q1 q3 (by rw [hsl]; exact k2_hasslot (q4 j hk)) rfl rfl hd fun H' e1 e2 e3 => ?_
  rw [hsl] at e1 ⊢
  have hat : va_at D CL (adr N0 B i, te (adr N0 B) (ca i) (.inr (ci, fs.set j v))) H' := by
    refine ⟨_, hc, t_OB.to (V := updV (vp_V (fs.map (tv (adr N0 B)))) j (tv (adr N0 B) v)) ⟨_, e1, q2, q3, t_set q4 hap hk _⟩ (fun x _ => ?_)⟩
    rw [vp_updV_set (by simpa using hl), List.map_set]
  exact K p l e R s m args below meth c H' _ cells slots mc ms N0 B D ca tys ls c1 c2 c3 c4 c5 (c6.put e2 e3 (by rw [adr_ge hi]; exact Nat.le_add_right _ _)) (c7.set hi hh hat e2 e3 (fun k' x e => by cases e)) c8
theorem E_putF {idx ci i : Nat} {fs : List Value} {v : Value} (j : Nat) {ty : FieldType} (hd : decode y.2.1 pc = .ok (.putfield idx, 3)) (ok : okP y.1.cls idx ci j ty true) (hy : y.1.name = "<init>") (hf : fitsV ty v) (hi : 3 ≤ i) (hh : h[i]? = some (.inr (ci, fs))) (hl : j < fs.length) (K : E y d k n (pc + 3) lv st (h.set i (.inr (ci, fs.set j v))) Q) : E y d k n pc lv (v :: .ref i :: st) h Q := by
  intro p l e R s m args below meth c H locs cells slots mc ms N0 B D ca tys ls c1 c2 c3 c4 c5 c6 c7 c8
  obtain ⟨C, T, N, ty0, hc, hk, hin, hlink, hC, hty, hfin, hdecl⟩ := ok
  obtain ⟨hnm, hty0⟩ := hC C T N hc
  have hts := c1.2.2.2.2.2.1
  have hK := c7.1
  have hap := va_apart (own := y.1.cls) hts hin ty0 hty0 hnm hK hc
  obtain ⟨r, h1, cell, q1, q2, q3, q4⟩ := c7.2.1 (i - 3) _ (wd_get hi hh)
  have hr : r = (C, T, N) := Option.some.inj (h1.symm.trans hc)
  subst hr
  obtain ⟨hS, hfc, kC, hkC, hkind⟩ := hK.1 ci _ hc
  obtain ⟨cf, kf, fi, f, hfi, hsl⟩ := hS j hk
  have hlay := hts _ (hin _ (u_in_lay hk))
  unfold u_lay at hlay
  rw [if_pos hfin] at hlay
  have hst := (u_facts hfc hkC (u_lays hts hin hk) hfi).1
  have hcf : m.cls = cf := by
    obtain ⟨_, _, c', _, _, _, -, -, hf', -, -, -, hown2, -⟩ := Cond.laysFinal_spec hlay
    have e1 : c' = cf := by have := hfi.symm.trans hf'; simp at this; exact this.1.symm
    rw [hdecl rfl] at hown2
    rw [← e1]; exact Option.some.inj (c1.2.2.2.2.1.symm.trans hown2)
  have h6 := u_fits hfc hkC hkind (Or.inr hlay) hfi (hty ▸ hty0 j hk) (hf (adr N0 B)).1 (hf (adr N0 B)).2
  refine W.putFinK c1.1 c1.2.1 c1.2.2.2.2.1 (hts _ hlink) hfi hst hcf (c1.2.2.2.2.2.2.2.1.trans hy) (by rw [q2]; exact h6) q1 q3 (by rw [hsl]; exact k2_hasslot (q4 j hk)) rfl rfl hd fun H' e1 e2 e3 => ?_
  rw [hsl] at e1 ⊢
  have hat : va_at D CL (adr N0 B i, te (adr N0 B) (ca i) (.inr (ci, fs.set j v))) H' := by
    refine ⟨_, hc, t_OB.to (V := updV (vp_V (fs.map (tv (adr N0 B)))) j (tv (adr N0 B) v)) ⟨_, e1, q2, q3, t_set q4 hap hk _⟩ (fun x _ => ?_)⟩
    rw [vp_updV_set (by simpa using hl), List.map_set]
  exact K p l e R s m args below meth c H' _ cells slots mc ms N0 B D ca tys ls c1 c2 c3 c4 c5 (c6.put e2 e3 (by rw [adr_ge hi]; exact Nat.le_add_right _ _)) (c7.set hi hh hat e2 e3 (fun k' x e => by cases e)) c8
end EH
