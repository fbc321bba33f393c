/-! exceptions that a method's own table catches: the search may note a class on its way (the catch type cold or warm), and pass a clause that isn't the object's -/
section Cb0
section
variable {Q : Handler → Pre} {E : CtlPost} {e : Env} {d : Bool} {acts : List Action} {s : State} {f : JFrame} {a : Addr}
theorem xf_go {x : ExceptionTableEntry} {t : List ExceptionTableEntry} {c : ClassId} {cell : Cell} (hx : covers x f.pc = true) (h0 : x.catchType ≠ 0)
    (hl : s.vm.ClassLinks e.platform f.method.cls x.catchType c) (hcell : s.heap[a]? = some cell) (hobj : ∀ k, cell.vm ≠ .statics k)
    (hk : ∃ k, s.vm.classes[cell.cls]? = some k) (hc : ∃ k, s.vm.classes[c]? = some k) :
    wp (findHandler.go f a (x :: t)) Q E e d acts s ↔ if s.vm.assignable cell.cls c = true then Q (.found x.handlerPc) d acts (s.setVm (s.vm.noted f.method.cls x.catchType (.cls c))) else wp (findHandler.go f a t) Q E e d acts (s.setVm (s.vm.noted f.method.cls x.catchType (.cls c))) := by
  simp only [covers] at hx
  obtain ⟨ha, ht⟩ := (resolveClass_links e.toSetting hl).op (op := VmOp.resolveClass f.method.cls x.catchType) rfl
  have hal : s.vm.Alike (s.vm.noted f.method.cls x.catchType (.cls c)) := (Vm.Alike.refl s.vm).noted _ _ _
  obtain ⟨k1, hk1⟩ := hk
  obtain ⟨k2, hk2⟩ := hc
  obtain ⟨k1', hk1', -⟩ := hal.2.2 _ _ hk1
  obtain ⟨k2', hk2', -⟩ := hal.2.2 _ _ hk2
  have hfit' : (s.vm.noted f.method.cls x.catchType (.cls c)).assignable cell.cls c = s.vm.assignable cell.cls c := hal.assignable ..
  cases hfit : s.vm.assignable cell.cls c <;> rw [hfit] at hfit' <;>
    simp [findHandler.go, hx, h0, ha, ht, hcell, hobj, hk1', hk2', hfit', VmOp.dirties, VmOp.acts]
end
section
variable {p : Program} {l : Launch} {e : Env} {R : Room} {s : State} {m : MethodId} {args : Array Value} {below : List Frame} {meth : Method} {c : Code} {locs : List Loc} {cells slots : Nat}
theorem xf_find {g : JFrame} {q : Addr} {cell : Cell} {own E : String} (hg : g.method = m) (hown : s.vm.findClass own = some m.cls) (hobj : cell.vm.isStatics = false) (hcl : s.vm.findClass E = some cell.cls)
    (x : ExceptionTableEntry) (rest : List ExceptionTableEntry) (hx : covers x g.pc = true) (h0 : x.catchType ≠ 0) {nm : String} (hlink : (Cond.classLink own x.catchType nm).before args s = true) {cT : ClassId} (hcT : s.vm.findClass nm = some cT) (hfit : s.vm.assignable cell.cls cT = true) :
    ∀ (pre : List ExceptionTableEntry), (∀ y ∈ pre, covers y g.pc = true ∧ y.catchType ≠ 0 ∧ ∃ nm, (Cond.classLink own y.catchType nm).before args s = true ∧ va_Nc E nm s) →
    ∀ (T S : State), Stand p l e R s m args below meth c T locs cells slots → S.vm = T.vm → S.heap[q]? = some cell → ∃ vm', Stand p l e R s m args below meth c (T.setVm vm') locs cells slots ∧
      ∀ (Q : Handler → Pre) (E : CtlPost) (d : Bool) (acts : List Action), wp (findHandler.go g q (pre ++ x :: rest)) Q E e d acts S ↔ Q (.found x.handlerPc) d acts (S.setVm vm') := by
  have step : ∀ (y : ExceptionTableEntry) (nm : String) (cN : ClassId) (T S : State), Stand p l e R s m args below meth c T locs cells slots → S.vm = T.vm → S.heap[q]? = some cell → covers y g.pc = true → y.catchType ≠ 0 → (Cond.classLink own y.catchType nm).before args s = true → s.vm.findClass nm = some cN →
      Stand p l e R s m args below meth c (T.setVm (T.vm.noted m.cls y.catchType (.cls cN))) locs cells slots ∧ ∀ (t : List ExceptionTableEntry) (Q : Handler → Pre) (E : CtlPost) (d : Bool) (acts : List Action), wp (findHandler.go g q (y :: t)) Q E e d acts S ↔ if s.vm.assignable cell.cls cN = true then Q (.found y.handlerPc) d acts (S.setVm (T.vm.noted m.cls y.catchType (.cls cN))) else wp (findHandler.go g q t) Q E e d acts (S.setVm (T.vm.noted m.cls y.catchType (.cls cN))) := by
    intro y nm cN T S X hvm hcell hy hy0 hlk hnm
    have hpl : e.platform.magicAccessors = ({} : Platform).magicAccessors := by rw [X.admits.platform]
    obtain ⟨c', hc', hcl'⟩ := Cond.classLink_spec hown hlk e.platform hpl
    cases hnm.symm.trans hc'
    obtain ⟨dk, _, _, kt, hd, _, _, _, _, hkt, _, hopen⟩ := hcl'.here
    have hcl0 := X.warmed.classLinks hcl'
    have hW' : s.WarmedH (T.vm.noted m.cls y.catchType (.cls cN)) := X.warmed.noted hd hopen (State.rightAt_cls hcl')
    have hal := X.warmed.alike
    obtain ⟨kt', hkt', -⟩ := hal.2.2 _ _ hkt
    obtain ⟨cx, hcx, hclx⟩ := Cond.classLink_spec hown hlink e.platform hpl
    cases hcT.symm.trans hcx
    obtain ⟨_, _, _, kx, _, _, _, _, _, hkx, _, _⟩ := hclx.here
    obtain ⟨ke, hke⟩ := Vm.classAt_of_assignable hfit ⟨kx, hkx⟩
    obtain ⟨ke', hke', -⟩ := hal.2.2 _ _ hke
    refine ⟨X.noted hW', fun t Q E d acts => ?_⟩
    subst hg
    rw [← hvm, ← hal.assignable, ← hvm]
    exact xf_go hy hy0 (by rw [hvm]; exact hcl0) hcell (VmData.ne_statics_of hobj) ⟨ke', by rw [hvm]; exact hke'⟩ ⟨kt', by rw [hvm]; exact hkt'⟩
  intro pre
  induction pre with
  | nil =>
    intro _ T S X hvm hcell
    obtain ⟨X1, h1⟩ := step x nm cT T S X hvm hcell hx h0 hlink hcT
    exact ⟨_, X1, fun Q E d acts => by rw [List.nil_append, h1, if_pos hfit]⟩
  | cons y ys ih =>
    intro hp T S X hvm hcell
    obtain ⟨hy, hy0, nm', hlk', c1, t1, f1, f2, f3⟩ := hp y List.mem_cons_self
    cases f1.symm.trans hcl
    obtain ⟨X1, h1⟩ := step y nm' t1 T S X hvm hcell hy hy0 hlk' f2
    obtain ⟨vm', X2, h2⟩ := ih (fun z hz => hp z (List.mem_cons_of_mem _ hz)) _ (S.setVm (T.vm.noted m.cls y.catchType (.cls t1))) X1 rfl hcell
    exact ⟨vm', X2, fun Q E d acts => by rw [List.cons_append, h1, if_neg (by rw [f3]; decide), h2]; exact Iff.rfl⟩
theorem xf_catch {T : State} (X : Stand p l e R s m args below meth c T locs cells slots) {g : JFrame} {q : Addr} {cell : Cell} {own E : String} (hg : g.method = m) (hown : s.vm.findClass own = some m.cls) (hcell : T.heap[q]? = some cell) (hobj : cell.vm.isStatics = false) (hcl : s.vm.findClass E = some cell.cls)
    (pre : List ExceptionTableEntry) (x : ExceptionTableEntry) (rest : List ExceptionTableEntry) (hsplit : c.exceptionTable.toList = pre ++ x :: rest) (hp : ∀ y ∈ pre, covers y g.pc = true ∧ y.catchType ≠ 0 ∧ ∃ nm, (Cond.classLink own y.catchType nm).before args s = true ∧ va_Nc E nm s)
    (hx : covers x g.pc = true) (h0 : x.catchType ≠ 0) {nm : String} (hlink : (Cond.classLink own x.catchType nm).before args s = true) {cT : ClassId} (hcT : s.vm.findClass nm = some cT) (hfit : s.vm.assignable cell.cls cT = true) :
    ∃ vm', Stand p l e R s m args below meth c (T.setVm vm') locs cells slots ∧ ∀ target, Steps p.tables e below ((T.setVm vm').setTop { g with pc := x.handlerPc, stack := [.ref q] }) target → Steps p.tables e below ((T.setTop g).pushFrame (.throwing q)) target := by
  obtain ⟨vm', X', hf⟩ := xf_find (e := e) hg hown hobj hcl x rest hx h0 hlink hcT hfit pre hp T ((T.setTop g).pushFrame (.throwing q)) X (Stand.throwing_vm T g q) (by rw [Stand.throwing_heap]; exact hcell)
  refine ⟨vm', X', fun target hrest => ?_⟩
  subst hg
  have hm : ((T.setTop g).pushFrame (.throwing q)).vm.method? g.method = some meth := by rw [Stand.throwing_vm]; exact X.method'
  have h := X.here
  obtain ⟨hgo, hw⟩ := h.throwing q
  refine Steps.head hgo hw ?_
  have hst : (stepThrowing e ((T.setTop g).pushFrame (.throwing q)) q (.java g :: T.frames.tail)).Is ((((T.setTop g).pushFrame (.throwing q)).setVm vm').setFrames (.java { g with pc := x.handlerPc, stack := [.ref q] } :: T.frames.tail)) [] := by
    simp only [stepThrowing, searchFrame, vmDo]
    generalize hr : Sem.go _ e false [] ((T.setTop g).pushFrame (.throwing q)) = res
    obtain ⟨as, rfl, ha⟩ := Sem.eq_ok_of hr (a := Handler.found x.handlerPc) (s' := ((T.setTop g).pushFrame (.throwing q)).setVm vm') (acts' := []) (by simp [W.findHandler_eq hm X.code, hsplit, hf _ _ _ _])
    exact ⟨rfl, ha⟩
  rw [stepThread_throwing (frames_entered h.top _), hst.1]
  obtain ⟨g0, hg0⟩ := Option.isSome_iff_exists.mp h.top
  obtain ⟨r, hr⟩ := State.topJava?_eq_some.mp hg0
  have hr' : (T.setVm vm').frames = .java g0 :: r := hr
  have e1 : ∀ (U : State) (F G : List Frame), ((U.setFrames F).setVm vm').setFrames G = (U.setVm vm').setFrames G := fun U F G => by
    have : (U.setFrames F).setVm vm' = (U.setVm vm').setFrames F := rfl
    rw [this, State.setFrames_setFrames]
  rw [State.setTop_of_frames _ hr'] at hrest
  rw [hr, List.tail_cons, State.pushFrame, e1, State.setTop_of_frames _ hr, e1]
  exact hrest
end
end Cb0
