/-! A CATCH: one row in the table, the thrown object's class fits the row's -/
section Catch
variable {p : Program} {l : Launch} {e : Env} {R : Room} {s : State} {m : MethodId} {args : Array Value} {below : List Frame} {meth : Method} {c : Code} {T : State} {locs : List Loc} {cells slots : Nat}
/-- what the search leaves: the handler, and the class noted -/
abbrev q_F (e : Env) (U : State) (f : JFrame) (a : Addr) (pc : Nat) (v : Vm) : Prop := ∀ (Q : Handler → Bool → List Action → State → Prop) (F : Control → List Action → State → Prop) (d : Bool) (as : List Action), Sem.wp (findHandler f a) Q F e d as U ↔ Q (.found pc) d as (U.setVm v)
theorem q_find {U : State} {f : JFrame} {a : Addr} {x : ExceptionTableEntry} {k : ClassId} {cell : Cell} (hm : U.vm.method? f.method = some meth) (hc : meth.code = some c) (ht : c.exceptionTable.toList = [x]) (hx : covers x f.pc = true) (h0 : x.catchType ≠ 0) (hl : U.vm.ClassLinks e.platform f.method.cls x.catchType k) (hce : U.heap[a]? = some cell) (hno : ∀ q, cell.vm ≠ .statics q) (h1 : ∃ q, U.vm.classes[cell.cls]? = some q) (h2 : ∃ q, U.vm.classes[k]? = some q) (hfit : U.vm.assignable cell.cls k = true) : q_F e U f a x.handlerPc (U.vm.noted f.method.cls x.catchType (.cls k)) := by
  intro Q F d as
  rw [W.findHandler_eq hm hc, ht]
  simp only [covers] at hx
  obtain ⟨w1, w2⟩ := (resolveClass_links e.toSetting hl).op (op := VmOp.resolveClass f.method.cls x.catchType) rfl
  have al : U.vm.Alike (U.vm.noted f.method.cls x.catchType (.cls k)) := (Vm.Alike.refl U.vm).noted _ _ _
  obtain ⟨q1, e1⟩ := h1
  obtain ⟨q2, e2⟩ := h2
  obtain ⟨r1, f1, -⟩ := al.2.2 _ _ e1
  obtain ⟨r2, f2, -⟩ := al.2.2 _ _ e2
  have fit : (U.vm.noted f.method.cls x.catchType (.cls k)).assignable cell.cls k = true := by rw [al.assignable]; exact hfit
  simp [findHandler.go, hx, h0, w1, w2, hce, hno, f1, f2, fit, VmOp.dirties, VmOp.acts]
theorem q_step {tb : Tables} {e : Env} {s target : State} {g : JFrame} {c : Code} {below : List Frame} {a : Addr} {pc : Nat} {v : Vm} (h : At s g.method c below) (hfind : q_F e ((s.setTop g).pushFrame (.throwing a)) g a pc v) (hr : Steps tb e below ((s.setVm v).setTop { g with pc := pc, stack := [.ref a] }) target) : Steps tb e below ((s.setTop g).pushFrame (.throwing a)) target := by
  obtain ⟨h1, h2⟩ := h.throwing a
  have key : (stepThrowing e ((s.setTop g).pushFrame (.throwing a)) a (.java g :: s.frames.tail)).1 = (((s.setTop g).pushFrame (.throwing a)).setVm v).setFrames (.java { g with pc := pc, stack := [.ref a] } :: s.frames.tail) := by
    simp only [stepThrowing, searchFrame, vmDo]
    generalize hq : Sem.go _ e false [] _ = res
    obtain ⟨as, rfl, -⟩ := Sem.eq_ok_of hq (a := Handler.found pc) (s' := ((s.setTop g).pushFrame (.throwing a)).setVm v) (acts' := []) (by simp [hfind _ _ _ _])
    rfl
  refine Steps.head h1 h2 ?_
  rw [stepThread_throwing (frames_entered h.top _), key]
  obtain ⟨f, hf⟩ := Option.isSome_iff_exists.mp h.top
  obtain ⟨r, hfr⟩ := State.topJava?_eq_some.mp hf
  have hfv : (s.setVm v).frames = .java f :: r := hfr
  rw [State.setTop_of_frames _ hfv] at hr
  have two : ∀ (u : State) (F G : List Frame), ((u.setFrames F).setVm v).setFrames G = (u.setVm v).setFrames G := fun u F G => by
    rw [show (u.setFrames F).setVm v = (u.setVm v).setFrames F from rfl, State.setFrames_setFrames]
  rw [hfr, List.tail_cons, State.pushFrame, two, State.setTop_of_frames _ hfr, two]
  exact hr
theorem q_caught (X : Stand p l e R s m args below meth c T locs cells slots) {g : JFrame} {a : Addr} {own name : String} {x : ExceptionTableEntry} {cell : Cell} {k : ClassId} (hg : g.method = m) (hown : s.vm.findClass own = some m.cls) (ht : c.exceptionTable.toList = [x]) (hx : covers x g.pc = true) (h0 : x.catchType ≠ 0) (hlink : (Cond.classLink own x.catchType name).before args s = true) (hk : s.vm.findClass name = some k) (hce : T.heap[a]? = some cell) (hno : cell.vm = .none) (hfit : s.vm.assignable cell.cls k = true) :
    ∃ v, Stand p l e R s m args below meth c (T.setVm v) locs cells slots ∧ ∀ target, Steps p.tables e below ((T.setVm v).setTop { g with pc := x.handlerPc, stack := [.ref a] }) target → Steps p.tables e below ((T.setTop g).pushFrame (.throwing a)) target := by
  subst hg
  obtain ⟨k2, hk2, hcl⟩ := Cond.classLink_spec hown hlink e.platform (by rw [X.admits.platform])
  cases hk.symm.trans hk2
  obtain ⟨_, _, _, kt, hd, _, _, _, _, hkt, _, hopen⟩ := hcl.here
  have al := X.warmed.alike
  obtain ⟨kt2, hkt2, -⟩ := al.2.2 _ _ hkt
  have fit : T.vm.assignable cell.cls k = true := by rw [al.assignable]; exact hfit
  refine ⟨_, X.noted (X.warmed.noted hd hopen (State.rightAt_cls hcl)), fun target hr => ?_⟩
  exact q_step X.here (q_find (U := (T.setTop g).pushFrame (.throwing a)) (meth := meth) (c := c) X.method' X.code ht hx h0 (X.warmed.classLinks hcl) hce (VmData.ne_statics_of (by rw [hno]; rfl)) (Vm.classAt_of_assignable fit ⟨kt2, hkt2⟩) ⟨kt2, hkt2⟩ fit) hr
end Catch
