/-! REFERENCES IN ARRAYS, NEW CELLS, STATICS -/
section EN
variable {y : MI} {d k n pc : Nat} {lv : List (Nat × Value)} {st : List Value} {h : HP} {Q : Option Value → HP → Prop}
theorem CL_chain : CL[1]? = some (RX1, TX1, 3) := rfl
theorem E_aast {i nn v : Nat} {f : Nat → Option Nat} {x : Int32} {vs : List Value} (hd : decode y.2.1 pc = .ok (.aastore, 1)) (hi : 3 ≤ i) (hh : h[i]? = some (.inl (4, nn, .inr (.inr (.inr (.inr f)))))) (hx : vp_in x nn) (hv3 : 3 ≤ v) (hv : h[v]? = some (.inr (1, vs))) (K : E y d k n (pc + 1) lv st (h.set i (.inl (4, nn, .inr (.inr (.inr (.inr (va_up f x.toNatClampNeg (some v)))))))) Q) : E y d k n pc lv (.ref v :: .int x :: .ref i :: st) h Q := by
  intro p l e R s m args below meth c H locs cells slots mc ms N0 B D ca tys ls c1 c2 c3 c4 c5 c6 c7 c8
  obtain ⟨-, t, ht⟩ := c7.2.2.2.2.1 i _ _ hh hi
  have hlt : x.toNatClampNeg < nn := Nat.not_le.mp fun q => hx (Or.inr q)
  have h0 : ¬ x < 0 := fun q => hx (Or.inl q)
  obtain ⟨r', hr', cellV, g1, g2, g3, -⟩ := c7.2.1 (v - 3) _ (wd_get hv3 hv)
  have hcls := (c7.1.1 1 _ CL_chain).2
  obtain ⟨kA, comp, k1, k2, k3, -⟩ := (c7.1.2 t _ ht).2
  have hcomp : comp = D.1 1 := Option.some.inj (k3.symm.trans hcls.1)
  subst hcomp
  obtain ⟨kC, hkC, -⟩ := hcls.2
  refine W.aast c1.1 c1.2.1 (c7.2.1 (i - 3) _ (wd_get hi hh)) (fun q h => by cases h) (fun h => by cases h) k1 k2 rfl hkC ⟨h0, by show _ < (arrV _ _ _).slots.size; rw [arrV_size]; exact hlt⟩ g1 (fun q h => by rw [g3] at h; cases h) (by rw [g2]; exact hkC) (by rw [g2]; exact va_assign hcls) rfl rfl hd fun H1 e1 z oq => ?_
  refine K p l e R s m args below meth c H1 _ cells slots mc ms N0 B D ca tys ls c1 c2 c3 c4 c5 (c6.put z oq (by rw [adr_ge hi]; exact Nat.le_add_right _ _)) (c7.set hi hh ?_ z oq (fun k' x' e9 => by cases e9; exact ⟨_, rfl⟩)) c8
  show H1[adr N0 B i]? = some (vp_cell _ _)
  rw [e1]
  show some ((vp_cell (ca i) (nn, .inr (.inr (.inr (.inr (fun j => (f j).map (adr N0 B))))))).setSlot _ _) = some (vp_cell (ca i) (nn, .inr (.inr (.inr (.inr (fun j => (va_up f x.toNatClampNeg (some v) j).map (adr N0 B)))))))
  rw [vp_cell_q, vp_cell_q, arrV_store]
  congr 2
  funext q
  by_cases hq : q = x.toNatClampNeg
  · subst hq
    simp [updV, va_up, va_rf]
  · simp [updV, va_up, hq]
theorem E_aastN {i nn : Nat} {f : Nat → Option Nat} {x : Int32} (hd : decode y.2.1 pc = .ok (.aastore, 1)) (hi : 3 ≤ i) (hh : h[i]? = some (.inl (4, nn, .inr (.inr (.inr (.inr f)))))) (hx : vp_in x nn) (K : E y d k n (pc + 1) lv st (h.set i (.inl (4, nn, .inr (.inr (.inr (.inr (va_up f x.toNatClampNeg none))))))) Q) : E y d k n pc lv (.null :: .int x :: .ref i :: st) h Q := by
  intro p l e R s m args below meth c H locs cells slots mc ms N0 B D ca tys ls c1 c2 c3 c4 c5 c6 c7 c8
  obtain ⟨-, t, ht⟩ := c7.2.2.2.2.1 i _ _ hh hi
  refine va_WaastN (C := "SwitchDesk$Chain") c1.1 c1.2.1 (c7.2.1 (i - 3) _ (wd_get hi hh)) ((c7.1.2 t _ ht).1 nn (fun j => va_rf ((f j).map (adr N0 B)))) (fun h => by cases h) (by show ¬ (x < 0 ∨ (arrV _ _ _).slots.size ≤ _); rw [arrV_size]; exact hx) rfl rfl hd fun H1 e1 z oq => ?_
  refine K p l e R s m args below meth c H1 _ cells slots mc ms N0 B D ca tys ls c1 c2 c3 c4 c5 (c6.put z oq (by rw [adr_ge hi]; exact Nat.le_add_right _ _)) (c7.set hi hh ?_ z oq (fun k' x' e9 => by cases e9; exact ⟨_, rfl⟩)) c8
  show H1[adr N0 B i]? = some (vp_cell _ _)
  rw [e1]
  show some ((vp_cell (ca i) (nn, .inr (.inr (.inr (.inr (fun j => (f j).map (adr N0 B))))))).setSlot _ _) = some (vp_cell (ca i) (nn, .inr (.inr (.inr (.inr (fun j => (va_up f x.toNatClampNeg none j).map (adr N0 B)))))))
  rw [vp_cell_q, vp_cell_q, arrV_store]
  congr 2
  funext q
  by_cases hq : q = x.toNatClampNeg
  · subst hq
    simp [updV, va_up, va_rf]
  · simp [updV, va_up, hq]
/-- a class whose objects may be made -/
def okW (own : String) (idx ci : Nat) (N : Nat) (ty0 : Nat → FieldType) : Prop := ∃ (C : String) (T : u_T), CL[ci]? = some (C, T, N) ∧ (∀ w ∈ u_ws C T N, w ∈ GT) ∧ okC ci ty0 ∧ Cond.classLink own idx C ∈ GT ∧ Cond.instantiable C N ∈ GT ∧ Cond.initialized C ∈ GT
theorem E_new {idx ci N : Nat} {fs : List Value} {ty0 : Nat → FieldType} (hd : decode y.2.1 pc = .ok (.new idx, 3)) (ok : okW y.1.cls idx ci N ty0) (hfs : ∀ j, j < N → fs[j]? = some (defaultValue (ty0 j))) (hk : 1 ≤ k) (hn : N ≤ n) (K : E y d (k - 1) (n - N) (pc + 3) lv (.ref h.length :: st) (h ++ [.inr (ci, fs)]) Q) : E y d k n pc lv st h Q := by
  intro p l e R s m args below meth c H locs cells slots mc ms N0 B D ca tys ls c1 c2 c3 c4 c5 c6 c7 c8
  obtain ⟨C, T, hc, hin, hC, g1, g2, g3⟩ := ok
  obtain ⟨-, hty0⟩ := hC C T N hc
  have hts := c1.2.2.2.2.2.1
  have hKn := c7.1.1 ci _ hc
  refine W.newcK c1.1 c1.2.1 c1.2.2.2.2.1 (hts _ g1) (hts _ g2) (hts _ g3) rfl hd (by have := c2.2.2.1; omega) (by have := c2.2.2.2; omega) hKn.2.1 rfl fun H1 kC hkC e1 z1 o1 => ?_
  have hdef : ∀ (a : Nat → Nat) (ty : FieldType), tv a (defaultValue ty) = defaultValue ty := fun a ty => by cases ty <;> rfl
  have K2 := K p l e R s m args below meth c H1 locs (cells + 1) (slots + N) mc ms N0 B D _ tys ls c1 c2 (by omega) (by omega) c5 ⟨Nat.le_trans c6.1 (by omega), fun x h1 h2 => (o1 x (Nat.lt_of_lt_of_le h1 c6.1)).trans (c6.2.1 x h1 h2), c6.2.2⟩ (c7.push (cA := 0) (c := .inr (ci, fs)) ⟨_, hc, (u_born ty0 hts hin hKn hkC e1 hty0).to (fun j hj => by
    have h9 := hfs j hj
    simp [vp_V, List.getD_eq_getElem?_getD, List.getElem?_map, h9, hdef])⟩ z1 o1 c7.1 (fun _ _ q => q) (fun k' x e9 => by cases e9)) c8
  rw [List.map_cons] at K2
  show W p l e R s m args below meth c H1 locs (cells + 1) (slots + N) _ (F0 m (pc + 3) ls (.ref H.size :: _))
  rw [← adr_new c7]
  exact K2
theorem E_newa {kk nn : Nat} {x : Int32} {atype : ArrayType} {a0 : vp_A} (hd : decode y.2.1 pc = .ok (.newarray atype, 2)) (hg : Cond.arrayClass (kty kk) ∈ GT) (hty : newarray.typeOf atype = kty kk) (hk5 : kk < 4) (ha : ∀ cA : ClassId, vp_cell cA a0 = arrV cA nn (fun _ => defaultValue (kty kk))) (ha2 : ∀ a, ta a a0 = a0) (hx : ¬ x < 0) (hN : x.toNatClampNeg = nn) (hb : nn * componentBytes (kty kk) ≤ 536870912) (hk : 1 ≤ k) (hn : nn ≤ n) (K : E y d (k - 1) (n - nn) (pc + 2) lv (.ref h.length :: st) (h ++ [.inl (kk, a0)]) Q) : E y d k n pc lv (.int x :: st) h Q := by
  intro p l e R s m args below meth c H locs cells slots mc ms N0 B D ca tys ls c1 c2 c3 c4 c5 c6 c7 c8
  have hts := c1.2.2.2.2.2.1
  refine va_newaK c1.1 c1.2.1 (by rw [hty]; exact hts _ hg) rfl hd rfl hx hN (by rw [hty]; exact hb) (by have := c2.2.2.1; omega) (by have := c2.2.2.2; omega) rfl fun H1 cA e1 z1 o1 hAr hNm => ?_
  rw [hty] at e1 hAr hNm
  have hK2 : va_K D CL (tys ++ [(cA, kty kk)]) s := c7.1.app ⟨c7.1.1, fun j q hj => by
    have hz : j < 1 := (List.getElem?_eq_some_iff.mp hj).1
    rw [show j = 0 by omega] at hj
    cases hj
    refine ⟨hAr, ?_⟩
    match kk, hk5, hNm with
    | 0, _, h9 => exact h9
    | 1, _, h9 => exact h9
    | 2, _, h9 => exact h9
    | 3, _, h9 => exact h9⟩
  have K2 := K p l e R s m args below meth c H1 locs (cells + 1) (slots + nn) mc ms N0 B D _ _ ls c1 c2 (by omega) (by omega) c5 ⟨Nat.le_trans c6.1 (by omega), fun x h1 h2 => (o1 x (Nat.lt_of_lt_of_le h1 c6.1)).trans (c6.2.1 x h1 h2), c6.2.2⟩ (c7.push (cA := cA) (c := .inl (kk, a0)) (by
    show H1[H.size]? = some (vp_cell cA (ta _ a0))
    rw [ha2, ha]
    exact e1) z1 o1 hK2 (fun t x hx => by rw [List.getElem?_append_left (List.getElem?_eq_some_iff.mp hx).1]; exact hx) (fun k' x e9 => by
    cases e9
    exact ⟨by omega, tys.length, by simp⟩)) c8
  rw [List.map_cons] at K2
  show W p l e R s m args below meth c H1 locs (cells + 1) (slots + nn) _ (F0 m (pc + 2) ls (.ref H.size :: _))
  rw [← adr_new c7]
  exact K2
theorem E_newq {idx nn : Nat} {x : Int32} (hd : decode y.2.1 pc = .ok (.anewarray idx, 3)) (hg : Cond.classLink y.1.cls idx "SwitchDesk$Chain" ∈ GT) (hx : ¬ x < 0) (hN : x.toNatClampNeg = nn) (hb : nn * 4 ≤ 536870912) (hk : 1 ≤ k) (hn : nn ≤ n) (K : E y d (k - 1) (n - nn) (pc + 3) lv (.ref h.length :: st) (h ++ [.inl (4, nn, .inr (.inr (.inr (.inr (fun _ => none)))))]) Q) : E y d k n pc lv (.int x :: st) h Q := by
  intro p l e R s m args below meth c H locs cells slots mc ms N0 B D ca tys ls c1 c2 c3 c4 c5 c6 c7 c8
  have hts := c1.2.2.2.2.2.1
  subst hN
  refine W.anew c1.1 c1.2.1 c1.2.2.2.2.1 (hts _ hg) (va_AO.use c1.2.2.2.2.2.2.2.2.2.2) rfl hd rfl hx hb (by have := c2.2.2.1; omega) (by have := c2.2.2.2; omega) fun cA kA comp f1 f2 f3 f4 => ?_
  generalize hH1 : H.push ({ cls := cA, slots := Array.replicate x.toNatClampNeg .null, vm := .none } : Cell) = H1
  have z1 : H1.size = H.size + 1 := by rw [← hH1, Array.size_push]
  have e1 : H1[H.size]? = some (arrV cA x.toNatClampNeg (fun _ => .null)) := by rw [← hH1, Array.getElem?_push_size, ← arrV_new]
  have o1 : ∀ q : Nat, q < H.size → H1[q]? = H[q]? := fun q hq => by rw [← hH1, Array.getElem?_push, if_neg (Nat.ne_of_lt hq)]
  have hAr : ArrOfT s cA (.object "SwitchDesk$Chain") := fun N z => ⟨(fun k h => by cases h), kA, f2, comp, f3⟩
  have hK2 : va_K D CL (tys ++ [(cA, kty 4)]) s := c7.1.app ⟨c7.1.1, fun j q hj => by
    have hz : j < 1 := (List.getElem?_eq_some_iff.mp hj).1
    rw [show j = 0 by omega] at hj
    cases hj
    exact ⟨hAr, kA, comp, f2, f3, f4, f1⟩⟩
  have K2 := K p l e R s m args below meth c H1 locs (cells + 1) (slots + x.toNatClampNeg) mc ms N0 B D _ _ ls c1 c2 (by omega) (by omega) c5 ⟨Nat.le_trans c6.1 (by omega), fun x h1 h2 => (o1 x (Nat.lt_of_lt_of_le h1 c6.1)).trans (c6.2.1 x h1 h2), c6.2.2⟩ (c7.push (cA := cA) (c := .inl (4, x.toNatClampNeg, .inr (.inr (.inr (.inr (fun _ => none)))))) e1 z1 o1 hK2 (fun t x hx => by rw [List.getElem?_append_left (List.getElem?_eq_some_iff.mp hx).1]; exact hx) (fun k' x e9 => by
    cases e9
    exact ⟨by omega, tys.length, by simp⟩)) c8
  rw [List.map_cons] at K2
  show W p l e R s m args below meth c H1 locs (cells + 1) (slots + x.toNatClampNeg) _ (F0 m (pc + 3) ls (.ref H.size :: _))
  rw [← adr_new c7]
  exact K2
theorem E_lowest {idx : Nat} (hd : decode y.2.1 pc = .ok (.getstatic idx, 3)) (hg : Cond.fieldLink y.1.cls idx "SwitchDesk$Numbers" "LOWEST" "[I" ∈ GT) (K : E y d k n (pc + 3) lv (.ref 1 :: st) h Q) : E y d k n pc lv st h Q := by
  intro p l e R s m args below meth c H locs cells slots mc ms N0 B D ca tys ls c1 c2 c3 c4 c5 c6 c7 c8
  obtain ⟨cf, kf, fi, f, a, cell, h1, h2, h3, h4, h5, h6, h7, h8⟩ := c7.2.2.2.2.2.2.1
  exact W.gets c1.1 c1.2.1 c1.2.2.2.2.1 (c1.2.2.2.2.2.1 _ hg) h1 h2 h3 h4 h5 (fun e => by rw [e] at h6; cases h6) h7 rfl hd (K p l e R s m args below meth c H locs cells slots mc ms N0 B D ca tys ls c1 c2 c3 c4 c5 c6 c7 c8)
theorem E_highest {idx : Nat} (hd : decode y.2.1 pc = .ok (.getstatic idx, 3)) (hg : Cond.fieldLink y.1.cls idx "SwitchDesk$Numbers" "HIGHEST" "[I" ∈ GT) (K : E y d k n (pc + 3) lv (.ref 2 :: st) h Q) : E y d k n pc lv st h Q := by
  intro p l e R s m args below meth c H locs cells slots mc ms N0 B D ca tys ls c1 c2 c3 c4 c5 c6 c7 c8
  obtain ⟨cf, kf, fi, f, a, cell, h1, h2, h3, h4, h5, h6, h7, h8⟩ := c7.2.2.2.2.2.2.2.1
  exact W.gets c1.1 c1.2.1 c1.2.2.2.2.1 (c1.2.2.2.2.2.1 _ hg) h1 h2 h3 h4 h5 (fun e => by rw [e] at h6; cases h6) h7 rfl hd (K p l e R s m args below meth c H locs cells slots mc ms N0 B D ca tys ls c1 c2 c3 c4 c5 c6 c7 c8)
theorem E_objInit {idx i : Nat} (hd : decode y.2.1 pc = .ok (.invokespecial idx, 3)) (h1 : Cond.methodLink y.1.cls idx Lib.objectInit ∈ GT) (h2 : Cond.instanceMethod Lib.objectInit ∈ GT) (h3 : Cond.code Lib.objectInit ⟨#[0xb1]⟩ 1 none ∈ GT) (hd1 : 1 ≤ d) (hst : (st.map fun v => v.category).sum ≤ 20) (K : E y d k n (pc + 3) lv st h Q) : E y d k n pc lv (.ref i :: st) h Q := by
  intro p l e R s m args below meth c H locs cells slots mc ms N0 B D ca tys ls c1 c2 c3 c4 c5 c6 c7 c8
  have hts := c1.2.2.2.2.2.1
  refine W.objInit c1.1 c1.2.1 c1.2.2.2.2.1 (hts _ h1) (hts _ h2) (hts _ h3) rfl (by rw [c1.2.2.2.1]; exact c8.1) rfl hd (Nat.le_trans hd1 c2.1) ?_ (K p l e R s m args below meth c H locs cells slots mc ms N0 B D ca tys ls c1 c2 c3 c4 c5 c6 c7 c8)
  have hc : ((st.map (tv (adr N0 B))).map fun v => v.category) = st.map fun v => v.category := by
    rw [List.map_map]
    exact List.map_congr_left (fun v _ => tv_cat _ v)
  rw [hc]
  show 2 * 0 + _ + 12 ≤ _
  have := c2.2.1
  omega
end EN
