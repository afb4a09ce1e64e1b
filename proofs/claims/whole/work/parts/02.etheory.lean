/-! THE TRIPLE E: a method's walk over a PURE heap. A pure heap is a list of cells; a reference is the place of its cell; places 0, 1, 2 are three int arrays that nobody writes (the script, two tables). -/
abbrev PCell : Type := (Nat × vp_A) ⊕ (Nat × List Value)
abbrev HP : Type := List PCell
abbrev MI : Type := MethodName × ByteArray × Nat × Option FieldType
def R_nse : String := "java/util/NoSuchElementException"
def CL : List vw_C := vwCl ++ [(R_nse, TX0, 0)]
def kty (k : Nat) : FieldType := match k with
  | 0 => .int
  | 1 => .boolean
  | 2 => .byte
  | 3 => .long
  | _ => .object "SwitchDesk$Chain"
def adr (N0 : Nat) (B : Nat → Nat) (i : Nat) : Nat := if i < 3 then B i else N0 + (i - 3)
def tv (a : Nat → Nat) (v : Value) : Value := match v with
  | .ref i => .ref (a i)
  | .int x => .int x
  | .long x => .long x
  | .float x => .float x
  | .double x => .double x
  | .null => .null
  | .retAddr x => .retAddr x
def ta (a : Nat → Nat) (x : vp_A) : vp_A := (x.1, match x.2 with
  | .inr (.inr (.inr (.inr f))) => .inr (.inr (.inr (.inr (fun j => (f j).map a))))
  | .inl f => .inl f
  | .inr (.inl f) => .inr (.inl f)
  | .inr (.inr (.inl f)) => .inr (.inr (.inl f))
  | .inr (.inr (.inr (.inl f))) => .inr (.inr (.inr (.inl f))))
def te (a : Nat → Nat) (cA : ClassId) (c : PCell) : va_E := match c with
  | .inl q => .inl (cA, ta a q.2)
  | .inr q => .inr (q.1, q.2.map (tv a))
def wd (N0 : Nat) (B : Nat → Nat) (ca : Nat → ClassId) (h : HP) : va_W := (h.drop 3).mapIdx (fun i c => (N0 + i, te (adr N0 B) (ca (i + 3)) c))
def AA (N0 : Nat) : Nat → Prop := fun q => N0 ≤ q
theorem tv_cat (a : Nat → Nat) (v : Value) : (tv a v).category = v.category := by cases v <;> rfl
theorem tv_rf (a : Nat → Nat) (r : Option Nat) : tv a (va_rf r) = va_rf (r.map a) := by cases r <;> rfl
theorem adr_ge {N0 : Nat} {B : Nat → Nat} {i : Nat} (h : 3 ≤ i) : adr N0 B i = N0 + (i - 3) := by
  unfold adr
  rw [if_neg (by omega)]
theorem wd_get {N0 : Nat} {B : Nat → Nat} {ca : Nat → ClassId} {h : HP} {i : Nat} {c : PCell} (h3 : 3 ≤ i) (hc : h[i]? = some c) : (wd N0 B ca h)[i - 3]? = some (adr N0 B i, te (adr N0 B) (ca i) c) := by
  unfold wd
  rw [List.getElem?_mapIdx, List.getElem?_drop, show 3 + (i - 3) = i by omega, hc, Option.map_some, adr_ge h3, show i - 3 + 3 = i by omega]
theorem wd_of {N0 : Nat} {B : Nat → Nat} {ca : Nat → ClassId} {h : HP} {k : Nat} {q : Nat × va_E} (hq : (wd N0 B ca h)[k]? = some q) : ∃ c, h[k + 3]? = some c ∧ q = (N0 + k, te (adr N0 B) (ca (k + 3)) c) := by
  unfold wd at hq
  rw [List.getElem?_mapIdx, List.getElem?_drop, show 3 + k = k + 3 by omega] at hq
  cases hc : h[k + 3]? with
  | none => rw [hc] at hq; simp at hq
  | some c =>
    rw [hc, Option.map_some] at hq
    exact ⟨c, rfl, (Option.some.inj hq).symm⟩
theorem wd_D {N0 : Nat} {B : Nat → Nat} {ca : Nat → ClassId} {h : HP} : va_D (AA N0) (wd N0 B ca h) := by
  refine ⟨fun i j p q hp hq e => ?_, fun k q hq => ?_⟩
  · obtain ⟨_, -, rfl⟩ := wd_of hp
    obtain ⟨_, -, rfl⟩ := wd_of hq
    dsimp only at e
    omega
  · obtain ⟨_, -, rfl⟩ := wd_of hq
    exact Nat.le_add_right _ _
theorem wd_set {N0 : Nat} {B : Nat → Nat} {ca : Nat → ClassId} {h : HP} {i : Nat} {c : PCell} (h3 : 3 ≤ i) : (wd N0 B ca h).set (i - 3) (adr N0 B i, te (adr N0 B) (ca i) c) = wd N0 B ca (h.set i c) := by
  apply List.ext_getElem?
  intro k
  unfold wd
  simp only [List.getElem?_set, List.getElem?_mapIdx, List.getElem?_drop, List.length_mapIdx, List.length_drop, adr_ge h3]
  by_cases hk : i - 3 = k
  · subst hk
    rw [if_pos rfl, if_pos (show i = 3 + (i - 3) by omega)]
    by_cases hl : i < h.length
    · rw [if_pos (by omega), if_pos (by omega), Option.map_some, show i - 3 + 3 = i by omega]
    · rw [if_neg (by omega), if_neg (by omega), Option.map_none]
  · rw [if_neg hk, if_neg (by omega)]
theorem wd_push {N0 : Nat} {B : Nat → Nat} {ca ca' : Nat → ClassId} {h : HP} {c : PCell} (h3 : 3 ≤ h.length) (hca : ∀ i, i < h.length → ca' i = ca i) : wd N0 B ca' (h ++ [c]) = wd N0 B ca h ++ [(N0 + (h.length - 3), te (adr N0 B) (ca' h.length) c)] := by
  unfold wd
  rw [List.drop_append_of_le_length h3, List.mapIdx_append]
  congr 1
  · apply List.ext_getElem?
    intro k
    simp only [List.getElem?_mapIdx, List.getElem?_drop]
    by_cases hl : 3 + k < h.length
    · rw [hca (k + 3) (by omega)]
    · rw [List.getElem?_eq_none (by omega)]
      rfl
  · simp only [List.mapIdx_cons, List.mapIdx_nil, List.length_drop, Nat.zero_add, show h.length - 3 + 3 = h.length by omega]
/-- the word 'superclass' stays, whatever is resolved -/
theorem sup_moved {C P : String} {u U : State} (hvm : u.vm.Alike U.vm) (h : va_Nw (.superclass C P) u) : va_Nw (.superclass C P) U := by
  have h' : (Cond.superclass C P).holds #[] u none u [] = true := h
  cases hc : u.vm.findClass C with
  | none => simp [Cond.holds, Cond.value, hc] at h'
  | some c =>
    obtain ⟨p, k, kp, h1, h2, h3, h4, h5, h6, h7⟩ := Cond.superclass_spec hc h'
    obtain ⟨k', e1, e2⟩ := hvm.2.2 _ _ h2
    obtain ⟨kp', f1, f2⟩ := hvm.2.2 _ _ h3
    have g1 : U.vm.findClass C = some c := by rw [hvm.findClass]; exact hc
    have g2 : U.vm.findClass P = some p := by rw [hvm.findClass]; exact h1
    have a1 : k'.super = some p := by rw [e2]; exact h4
    have a2 : k'.kind = .ordinary := by rw [e2]; exact h5
    have a3 : kp'.kind = .ordinary := by rw [f2]; exact h6
    have a4 : k'.isInterface = false := by rw [e2]; exact h7
    show (Cond.superclass C P).holds #[] U none U [] = true
    simp [Cond.holds, Cond.value, g1, g2, e1, f1, a1, a2, a3, a4]
/-- what nobody writes: the script, the two tables, the statics that are only carried -/
def XI (N0 : Nat) (B : Nat → Nat) (h : HP) (U : State) (H : Heap) : Prop :=
  (∀ j, j < 3 → ∃ (n : Nat) (f : Nat → Int32), h[j]? = some (.inl (5, n, .inl f)) ∧ va_T .int (B j) n (fun i => .int (f i)) (AA N0) U H) ∧
  va_Z "SwitchDesk$Numbers" "LOWEST" "[I" (.ref (B 1)) (AA N0) U H ∧ va_Z "SwitchDesk$Numbers" "HIGHEST" "[I" (.ref (B 2)) (AA N0) U H ∧
  vx_Zq "java/lang/Throwable" "UNASSIGNED_STACK" "[Ljava/lang/StackTraceElement;" (AA N0) U H ∧ vx_Zq "java/lang/Throwable" "SUPPRESSED_SENTINEL" "Ljava/util/List;" (AA N0) U H ∧ va_Nw (.superclass "java/lang/Throwable" "java/lang/Object") U
def HI (N0 : Nat) (B : Nat → Nat) (D : va_G) (ca : Nat → ClassId) (tys : List (ClassId × FieldType)) (h : HP) (U : State) (H : Heap) : Prop :=
  va_K D CL tys U ∧ va_P D CL (wd N0 B ca h) H ∧ H.size + 3 = N0 + h.length ∧ 3 ≤ h.length ∧ (∀ (i k : Nat) (x : vp_A), h[i]? = some (.inl (k, x)) → 3 ≤ i → k < 5 ∧ ∃ t : Nat, tys[t]? = some (ca i, kty k)) ∧ XI N0 B h U H
theorem XI.moved {N0 : Nat} {B : Nat → Nat} {h : HP} {u U : State} {H : Heap} (hvm : u.vm.Alike U.vm) (hX : XI N0 B h u H) : XI N0 B h U H := by
  obtain ⟨h1, h2, h3, h4, h5, h6⟩ := hX
  refine ⟨fun j hj => ?_, h2.moved hvm, h3.moved hvm, h4.moved hvm, h5.moved hvm, sup_moved hvm h6⟩
  obtain ⟨n, f, a, b⟩ := h1 j hj
  exact ⟨n, f, a, b.moved hvm⟩
theorem XI.kept {N0 : Nat} {B : Nat → Nat} {h h' : HP} {U : State} {H H1 : Heap} (hX : XI N0 B h U H) (hh : ∀ j, j < 3 → h'[j]? = h[j]?) (hq : ∀ a : Nat, a < H.size → ¬ AA N0 a → H1[a]? = H[a]?) : XI N0 B h' U H1 := by
  obtain ⟨h1, h2, h3, h4, h5, h6⟩ := hX
  refine ⟨fun j hj => ?_, h2.kept hq, h3.kept hq, h4.kept hq, h5.kept hq, h6⟩
  obtain ⟨n, f, a, b⟩ := h1 j hj
  exact ⟨n, f, by rw [hh j hj]; exact a, b.kept hq⟩
theorem HI.moved {N0 : Nat} {B : Nat → Nat} {D : va_G} {ca : Nat → ClassId} {tys : List (ClassId × FieldType)} {h : HP} {u U : State} {H : Heap} (hvm : u.vm.Alike U.vm) (hI : HI N0 B D ca tys h u H) : HI N0 B D ca tys h U H := by
  obtain ⟨h1, h2, h3, h4, h5, h6⟩ := hI
  exact ⟨h1.moved hvm, h2, h3, h4, h5, h6.moved hvm⟩
def GT : List Cond := lw_tbl.filter goodWord
theorem gt_in {w : Cond} (i : Nat) (h : tables_1[i]? = some w) (hg : goodWord w = true) : w ∈ GT := List.mem_filter.mpr ⟨List.mem_append_right _ (List.mem_of_getElem? h), hg⟩
theorem gt_sel {q : MethodName × Nat} (i : Nat) (h : lw_privs[i]? = some q) : Cond.selects q.1.cls q.1 q.1 ∈ GT := List.mem_filter.mpr ⟨List.mem_append_left _ (List.mem_map.mpr ⟨q, List.mem_of_getElem? h, rfl⟩), rfl⟩
theorem gt_good (y : MI) (hy : Cond.code y.1 y.2.1 y.2.2.1 y.2.2.2 ∈ GT) : GoodIn GT (Cond.code y.1 y.2.1 y.2.2.1 y.2.2.2 :: GT) := by
  intro w hw
  rcases List.mem_cons.mp hw with rfl | h
  · exact ⟨hy, good_of_word (List.mem_filter.mp hy).2⟩
  · exact ⟨h, good_of_word (List.mem_filter.mp h).2⟩
/-- the links between nest mates -/
def NI (U : State) : Prop := (∀ a i x b, Cond.methodLinkNest a i x b ∈ lw_tbl → va_Nw (.methodLinkNest a i x b) U) ∧ (∀ a i r n d b, Cond.fieldLinkNest a i r n d b ∈ lw_tbl → va_Nw (.fieldLinkNest a i r n d b) U) ∧ va_AO "SwitchDesk$Chain" U
def CX (y : MI) (p : Program) (s : State) (m : MethodId) (args : Array Value) (meth : Method) (c : Code) : Prop :=
  p.tables.exec = Jvm.exec ∧ c.code = y.2.1 ∧ meth.sig.returnType = y.2.2.2 ∧ c.maxLocals = y.2.2.1 ∧ s.vm.findClass y.1.cls = some m.cls ∧ (∀ w ∈ GT, w.before args s = true) ∧ meth.locks = false ∧ meth.name = y.1.name ∧ NI s
def RM (R : Room) (d mc ms : Nat) : Prop := d ≤ R.frames ∧ 40 * d ≤ R.locals ∧ mc ≤ R.cells ∧ ms ≤ R.slots
def EQ (N0 : Nat) (B : Nat → Nat) (D : va_G) (Q : Option Value → HP → Prop) : Array Value → State → Outcome → State → Prop := fun _ st o t =>
  ∃ (r : Option Value) (h : HP) (ca : Nat → ClassId) (tys : List (ClassId × FieldType)), o = .returned (r.map (tv (adr N0 B))) ∧ Q r h ∧ HI N0 B D ca tys h t t.heap ∧ va_F (AA N0) st t
def lm (a : Nat → Nat) (lv : List (Nat × Value)) : List (Nat × Value) := lv.map (fun q => (q.1, tv a q.2))
/-- launches without stack traces -/
abbrev LNT : Type := { l : Launch // l.stackTraces = false }
def E (y : MI) (d k n pc : Nat) (lv : List (Nat × Value)) (st : List Value) (h : HP) (Q : Option Value → HP → Prop) : Prop :=
  ∀ (p : Program) (l : LNT) (e : Env) (R : Room) (s : State) (m : MethodId) (args : Array Value) (below : List Frame) (meth : Method) (c : Code) (H : Heap) (locs : List Loc) (cells slots mc ms N0 : Nat) (B : Nat → Nat) (D : va_G) (ca : Nat → ClassId) (tys : List (ClassId × FieldType)) (ls : Array Slot),
    CX y p s m args meth c → RM R d mc ms → cells + k ≤ mc → slots + n ≤ ms → N0 ≤ s.heap.size → va_S (AA N0) s.heap H locs → HI N0 B D ca tys h s H → lv_has ls y.2.2.1 (lm (adr N0 B) lv) →
    W p l.1 e R s m args below meth c H locs cells slots (MQ below (EQ N0 B D Q) args s mc ms (AA N0)) (F0 m pc ls (st.map (tv (adr N0 B))))
section EL
variable {y : MI} {d k n pc : Nat} {lv : List (Nat × Value)} {st : List Value} {h : HP} {Q : Option Value → HP → Prop}
theorem lm_filter (a : Nat → Nat) (lv : List (Nat × Value)) (i : Nat) : (lm a lv).filter (fun q => !(q.1 == i) && !(q.1 + 1 == i && q.2.category == 2)) = lm a (lv.filter (fun q => !(q.1 == i) && !(q.1 + 1 == i && q.2.category == 2))) := by
  unfold lm
  rw [List.filter_map]
  congr 1
  apply List.filter_congr
  intro q _
  simp [Function.comp, tv_cat]
theorem lm_filter2 (a : Nat → Nat) (lv : List (Nat × Value)) (i : Nat) : (lm a lv).filter (fun q => !(q.1 == i) && (!(q.1 == i + 1) && !(q.1 + 1 == i && q.2.category == 2))) = lm a (lv.filter (fun q => !(q.1 == i) && (!(q.1 == i + 1) && !(q.1 + 1 == i && q.2.category == 2)))) := by
  unfold lm
  rw [List.filter_map]
  congr 1
  apply List.filter_congr
  intro q _
  simp [Function.comp, tv_cat]
theorem lm_at {ls : Array Slot} {nL : Nat} {a : Nat → Nat} {lv : List (Nat × Value)} {i : Nat} {v : Value} (hl : lv_has ls nL (lm a lv)) (hv : lv.lookup i = some v) : ls[i]? = some (.val (tv a v)) := by
  have hm : (i, v) ∈ lv := by
    clear hl
    induction lv with
    | nil => simp at hv
    | cons q t ih =>
      obtain ⟨j, w⟩ := q
      rw [List.lookup_cons] at hv
      by_cases hj : i == j
      · rw [hj] at hv
        simp only [Option.some.injEq] at hv
        have : i = j := by simpa using hj
        subst this
        subst hv
        exact List.mem_cons_self
      · simp only [hj] at hv
        exact List.mem_cons_of_mem _ (ih hv)
  exact hl.2.2 (i, tv a v) (List.mem_map.mpr ⟨(i, v), hm, rfl⟩)
theorem E.weak {Q' : Option Value → HP → Prop} (hE : E y d k n pc lv st h Q) (hQ : ∀ r h', Q r h' → Q' r h') : E y d k n pc lv st h Q' := by
  intro p l e R s m args below meth c H locs cells slots mc ms N0 B D ca tys ls c1 c2 c3 c4 c5 c6 c7 c8 T hT X
  obtain ⟨t, a1, o, a2, a3, ⟨r, h', ca', tys', b1, b2, b3⟩, a5⟩ := hE p l e R s m args below meth c H locs cells slots mc ms N0 B D ca tys ls c1 c2 c3 c4 c5 c6 c7 c8 T hT X
  exact ⟨t, a1, o, a2, a3, ⟨r, h', ca', tys', b1, hQ _ _ b2, b3⟩, a5⟩
theorem E.mono {d' k' n' : Nat} (hE : E y d k n pc lv st h Q) (h1 : d ≤ d') (h2 : k ≤ k') (h3 : n ≤ n') : E y d' k' n' pc lv st h Q := by
  intro p l e R s m args below meth c H locs cells slots mc ms N0 B D ca tys ls c1 c2 c3 c4 c5 c6 c7 c8
  exact hE p l e R s m args below meth c H locs cells slots mc ms N0 B D ca tys ls c1 ⟨Nat.le_trans h1 c2.1, Nat.le_trans (Nat.mul_le_mul_left 40 h1) c2.2.1, c2.2.2⟩ (by omega) (by omega) c5 c6 c7 c8
/-- fewer locals, in any order -/
theorem E.locals (lv' : List (Nat × Value)) (hs : ∀ q ∈ lv', q ∈ lv) (hE : E y d k n pc lv' st h Q) : E y d k n pc lv st h Q := by
  intro p l e R s m args below meth c H locs cells slots mc ms N0 B D ca tys ls c1 c2 c3 c4 c5 c6 c7 c8
  refine hE p l e R s m args below meth c H locs cells slots mc ms N0 B D ca tys ls c1 c2 c3 c4 c5 c6 c7 ⟨c8.1, c8.2.1, fun q hq => ?_⟩
  obtain ⟨q', h1, rfl⟩ := List.mem_map.mp hq
  exact c8.2.2 _ (List.mem_map.mpr ⟨q', hs q' h1, rfl⟩)
end EL
