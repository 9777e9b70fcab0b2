/-! ===== a throw that is caught: the table is gone through row by row ===== -/
section Catch
/-- a row that covers the place and names a class: it is linked; it takes what its class takes -/
theorem kc_row {Q : Handler → Pre} {E : CtlPost} {e : Env} {d : Bool} {acts : List Action} {s : State} {f : JFrame} {a : Addr} {x : ExceptionTableEntry} {t : List ExceptionTableEntry} {c : ClassId} {cell : Cell} (hx : covers x f.pc = true) (h0 : x.catchType ≠ 0)
    (hl : s.vm.ClassLinks e.platform f.method.cls x.catchType c) (hcell : s.heap[a]? = some cell) (hobj : ∀ k, cell.vm ≠ .statics k) (hk : ∃ k, s.vm.classes[cell.cls]? = some k) (hc : ∃ k, s.vm.classes[c]? = some k) :
    (findHandler.go f a (x :: t)).wp Q E e d acts s ↔ (if s.vm.assignable cell.cls c = true then Q (.found x.handlerPc) d acts (s.setVm (s.vm.noted f.method.cls x.catchType (.cls c))) else (findHandler.go f a t).wp Q E e d acts (s.setVm (s.vm.noted f.method.cls x.catchType (.cls c)))) := by
  have hal : s.vm.Alike (s.vm.noted f.method.cls x.catchType (.cls c)) := (Vm.Alike.refl s.vm).noted _ _ _
  have hop := (resolveClass_links e.toSetting hl).op (op := VmOp.resolveClass f.method.cls x.catchType) rfl
  obtain ⟨_, hk⟩ := hk
  obtain ⟨_, hc⟩ := hc
  obtain ⟨_, hk', -⟩ := hal.2.2 _ _ hk
  obtain ⟨_, hc', -⟩ := hal.2.2 _ _ hc
  simp only [covers] at hx
  by_cases z : s.vm.assignable cell.cls c = true
  · have z' : (s.vm.noted f.method.cls x.catchType (.cls c)).assignable cell.cls c = true := by rw [hal.assignable]; exact z
    rw [if_pos z]
    simp [findHandler.go, hx, h0, hop.1, hop.2, hcell, hobj, hk', hc', z', VmOp.dirties, VmOp.acts]
  · have z' : (s.vm.noted f.method.cls x.catchType (.cls c)).assignable cell.cls c = false := by rw [hal.assignable]; simpa using z
    rw [if_neg z]
    simp [findHandler.go, hx, h0, hop.1, hop.2, hcell, hobj, hk', hc', z', VmOp.dirties, VmOp.acts]
/-- rows that don't take it, then one that does -/
theorem kc_go {e : Env} {s0 : State} {f : JFrame} {a : Addr} {cell : Cell} (hobj : ∀ k, cell.vm ≠ .statics k) (hk0 : ∃ k, s0.vm.classes[cell.cls]? = some k) (x : ExceptionTableEntry) (suf : List ExceptionTableEntry) (hx : covers x f.pc = true) (h0 : x.catchType ≠ 0) {c : ClassId} (hl : s0.vm.ClassLinks e.platform f.method.cls x.catchType c) (hfit : s0.vm.assignable cell.cls c = true) :
    ∀ (pre : List ExceptionTableEntry) (S : State), s0.WarmedH S.vm → S.heap[a]? = some cell → (∀ y ∈ pre, covers y f.pc = false ∨ (y.catchType ≠ 0 ∧ ∃ c1, s0.vm.ClassLinks e.platform f.method.cls y.catchType c1 ∧ s0.vm.assignable cell.cls c1 = false)) →
      ∃ vm1, s0.WarmedH vm1 ∧ ∀ (Q : Handler → Pre) (E : CtlPost) (d : Bool) (acts : List Action), (findHandler.go f a (pre ++ x :: suf)).wp Q E e d acts S ↔ Q (.found x.handlerPc) d acts (S.setVm vm1)
  | [], S, hW, hcell, _ => by
    obtain ⟨k0, hk0⟩ := hk0
    obtain ⟨_, hk1, -⟩ := hW.alike.2.2 _ _ hk0
    obtain ⟨dk, _, _, kt, hd, _, _, _, _, hkt, _, hopen⟩ := hl.here
    obtain ⟨_, hkt1, -⟩ := hW.alike.2.2 _ _ hkt
    refine ⟨_, hW.noted hd hopen (State.rightAt_cls hl), fun Q E d acts => ?_⟩
    rw [List.nil_append, kc_row hx h0 (hW.classLinks hl) hcell hobj ⟨_, hk1⟩ ⟨_, hkt1⟩, if_pos (by rw [hW.alike.assignable]; exact hfit)]
  | y :: pre, S, hW, hcell, hp => by
    have hp1 : ∀ z ∈ pre, covers z f.pc = false ∨ (z.catchType ≠ 0 ∧ ∃ c1, s0.vm.ClassLinks e.platform f.method.cls z.catchType c1 ∧ s0.vm.assignable cell.cls c1 = false) := fun z hz => hp z (List.mem_cons_of_mem _ hz)
    rcases Bool.eq_false_or_eq_true (covers y f.pc) with hy | hy
    · rcases hp y List.mem_cons_self with h | ⟨hy0, c1, hl1, hno⟩
      · rw [h] at hy; cases hy
      · obtain ⟨k0, hk⟩ := id hk0
        obtain ⟨_, hk1, -⟩ := hW.alike.2.2 _ _ hk
        obtain ⟨dk, _, _, kt, hd, _, _, _, _, hkt, _, hopen⟩ := hl1.here
        obtain ⟨_, hkt1, -⟩ := hW.alike.2.2 _ _ hkt
        obtain ⟨vm1, w1, w2⟩ := kc_go hobj hk0 x suf hx h0 hl hfit pre (S.setVm (S.vm.noted f.method.cls y.catchType (.cls c1))) (hW.noted hd hopen (State.rightAt_cls hl1)) hcell hp1
        refine ⟨vm1, w1, fun Q E d acts => ?_⟩
        rw [List.cons_append, kc_row hy hy0 (hW.classLinks hl1) hcell hobj ⟨_, hk1⟩ ⟨_, hkt1⟩, if_neg (by rw [hW.alike.assignable, hno]; decide), w2]
        rfl
    · obtain ⟨vm1, w1, w2⟩ := kc_go hobj hk0 x suf hx h0 hl hfit pre S hW hcell hp1
      exact ⟨vm1, w1, fun Q E d acts => by rw [List.cons_append, W.findHandler_go_skip hy, w2]⟩
/-- the step that goes to the handler -/
theorem kc_step {tb : Tables} {e : Env} {s u : State} {g : JFrame} {c : Code} {below : List Frame} {a : Addr} (h : At s g.method c below) {pc : Nat} {vm1 : Vm} (hf : ∀ (Q : Handler → Pre) (E : CtlPost) (d : Bool) (acts : List Action), (findHandler g a).wp Q E e d acts ((s.setTop g).pushFrame (.throwing a)) ↔ Q (.found pc) d acts (((s.setTop g).pushFrame (.throwing a)).setVm vm1))
    (k : Steps tb e below ((s.setVm vm1).setTop { g with pc := pc, stack := [.ref a] }) u) : Steps tb e below ((s.setTop g).pushFrame (.throwing a)) u := by
  obtain ⟨g0, hg⟩ := Option.isSome_iff_exists.mp h.top
  obtain ⟨r, hr⟩ := State.topJava?_eq_some.mp hg
  obtain ⟨k1, k2⟩ := h.throwing a
  refine Steps.head k1 k2 ?_
  have hfr := frames_entered (g := g) h.top (.throwing a)
  rw [hr, List.tail_cons] at hfr
  have hst : (stepThrowing e ((s.setTop g).pushFrame (.throwing a)) a (.java g :: r)).1 = (((s.setTop g).pushFrame (.throwing a)).setVm vm1).setFrames (.java { g with pc := pc, stack := [.ref a] } :: r) := by
    simp only [stepThrowing, searchFrame, vmDo]
    generalize hr9 : Sem.go _ e false [] ((s.setTop g).pushFrame (.throwing a)) = res
    obtain ⟨as, rfl, -⟩ := Sem.eq_ok_of hr9 (a := Handler.found pc) (s' := ((s.setTop g).pushFrame (.throwing a)).setVm vm1) (acts' := []) (by simp [hf _ _ _ _])
    rfl
  rw [stepThread_throwing hfr, hst]
  have e1 : (s.setVm vm1).setTop { g with pc := pc, stack := [.ref a] } = (s.setVm vm1).setFrames (.java { g with pc := pc, stack := [.ref a] } :: r) := State.setTop_of_frames _ (show (s.setVm vm1).frames = .java g0 :: r from hr)
  have e2 : ∀ (v : State) (F G : List Frame), ((v.setFrames F).setVm vm1).setFrames G = (v.setVm vm1).setFrames G := fun v F G => by
    show ((v.setVm vm1).setFrames F).setFrames G = _
    rw [State.setFrames_setFrames]
  rw [e1] at k
  rw [State.pushFrame, e2, State.setTop_of_frames _ hr, e2]
  exact k
end Catch
section Catch2
variable {p : Program} {l : Launch} {e : Env} {R : Room} {s : State} {m : MethodId} {args : Array Value} {below : List Frame} {meth : Method} {c : Code} {H : Heap} {locs : List Loc} {cells slots : Nat} {Q : State → Prop} {pc : Nat} {ls : Array Slot} {rest : List Value}
theorem kc_catch {own name : String} {E : String} {ce : Cell} {q : Addr} (hown : s.vm.findClass own = some m.cls) (pre : List ExceptionTableEntry) (x : ExceptionTableEntry) (suf : List ExceptionTableEntry) (hsplit : c.exceptionTable.toList = pre ++ x :: suf)
    (hpass : ∀ z ∈ pre, covers z pc = false ∨ (z.catchType ≠ 0 ∧ ∃ nm : String, (Cond.classLink own z.catchType nm).before args s = true ∧ va_Nc E nm s)) (hx : covers x pc = true) (h0 : x.catchType ≠ 0)
    (hlink : (Cond.classLink own x.catchType name).before args s = true) (hcast : (Cond.castable E name).before args s = true) (hcell : H[q]? = some ce) (hv : ce.vm = .none) (hcl : s.vm.findClass E = some ce.cls)
    (kk : W p l e R s m args below meth c H locs cells slots Q (F0 m x.handlerPc ls [.ref q])) : vx_W p l e R s m args below meth c H locs cells slots Q (F0 m pc ls rest) q := by
  intro T hT X
  have hpl : e.platform.magicAccessors = ({} : Platform).magicAccessors := by rw [X.admits.platform]
  obtain ⟨c3, c4, hc3, hc4, hasg⟩ := Cond.castable_spec hcast
  obtain ⟨c5, hc5, hl5⟩ := Cond.classLink_spec hown hlink e.platform hpl
  cases Option.some.inj (hc3.symm.trans hcl)
  cases Option.some.inj (hc4.symm.trans hc5)
  obtain ⟨k9, h9, -⟩ := Vm.findClass_spec hcl
  obtain ⟨vm1, w1, w2⟩ := kc_go (e := e) (s0 := s) (f := F0 m pc ls rest) (a := q) (cell := ce) (VmData.ne_statics_of (by rw [hv]; rfl)) ⟨k9, h9⟩ x suf hx h0 hl5 hasg pre ((T.setTop (F0 m pc ls rest)).pushFrame (.throwing q)) X.warmed (by show T.heap[q]? = _; rw [hT]; exact hcell) (fun z hz => by
    rcases hpass z hz with h | ⟨z0, nm, n1, a8, b8, n2, n3, n4⟩
    · exact .inl h
    · obtain ⟨c6, hc6, hl6⟩ := Cond.classLink_spec hown n1 e.platform hpl
      cases Option.some.inj (n2.symm.trans hcl)
      cases Option.some.inj (n3.symm.trans hc6)
      exact .inr ⟨z0, _, hl6, n4⟩)
  obtain ⟨t, a1, b1⟩ := kk (T.setVm vm1) hT (X.noted w1)
  refine ⟨t, kc_step (g := F0 m pc ls rest) X.here (pc := x.handlerPc) (vm1 := vm1) (fun Q' E' d acts => ?_) a1, b1⟩
  rw [W.findHandler_eq (meth := meth) (code := c) X.method' X.code, hsplit]
  exact w2 Q' E' d acts
end Catch2
