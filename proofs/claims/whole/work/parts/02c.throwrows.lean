def txtL : List (Nat × String) := [(60, "the account would have too much cash"), (72, "not so much cash is free"), (86, "the account would have too many shares"), (95, "not enough is free to be held"), (103, "there are too many orders"), (134, "less is below 1"), (137, "not more than that is left"), (147, "the time is below 0"), (149, "the time has been already"), (166, "the book is empty"), (181, "there is no such level"), (193, "a level has no such number"), (207, "an order has no such number"), (209, "the order does not rest"), (220, "cash has no such number"), (231, "shares have no such number"), (239, "there is no such count"), (241, "there is no such trade"), (253, "a trade has no such number"), (267, "a symbol has no such number"), (275, "there are not so many accounts that traded"), (277, "there is no such account"), (279, "there is no such symbol"), (281, "there is no such side"), (283, "a number is not as said"), (285, "no order has this number"), (287, "the order is of another account"), (289, "the order is not there any more")]
def thE : List String := ["java/lang/IndexOutOfBoundsException", "java/lang/IllegalArgumentException", "java/lang/IllegalStateException", "java/util/NoSuchElementException"]
def thBad : List Cond := [.castable "java/lang/IndexOutOfBoundsException" "java/lang/IndexOutOfBoundsException", .castable "java/lang/IllegalArgumentException" "java/lang/IllegalArgumentException", .castable "java/lang/IllegalStateException" "java/lang/IllegalStateException", .castable "java/util/NoSuchElementException" "java/util/NoSuchElementException", .declares (Bundle.initS "java/lang/RuntimeException"), .declares (Bundle.initS "java/lang/Exception"), .declares (Bundle.initS Bundle.tN)]
abbrev thN : List String := ["java/lang/RuntimeException", "java/lang/Exception"]
/-- what a throw needs of the state it begins in -/
def thX (sx : Nat → Nat) (B : Nat → Prop) (U : State) : Prop := vx_Zq Bundle.tN "UNASSIGNED_STACK" Bundle.steD B U U.heap ∧ vx_Zq Bundle.tN "SUPPRESSED_SENTINEL" Bundle.listD B U U.heap ∧ (∀ q ∈ txtL, vk_R RX4 q.1 q.2 (sx q.1) U) ∧ ∀ x ∈ thBad, va_Nw x U
theorem thBad_ot : ∀ x ∈ thBad, x.onTables = true := by decide +kernel
theorem thBad_warm {s U : State} (hW : s.WarmedH U.vm) : ∀ x ∈ thBad, va_Nw x s → va_Nw x U := by
  intro x hx
  simp only [thBad, List.mem_cons, List.not_mem_nil, or_false] at hx
  rcases hx with rfl | rfl | rfl | rfl | rfl | rfl | rfl
  · exact va_Nw.warmC hW
  · exact va_Nw.warmC hW
  · exact va_Nw.warmC hW
  · exact va_Nw.warmC hW
  · exact va_Nw.warmD hW
  · exact va_Nw.warmD hW
  · exact va_Nw.warmD hW
theorem thX.to {sx : Nat → Nat} {A B : Nat → Prop} {s U : State} {H : Heap} {locs : List Loc} (h : thX sx A s) (hS : va_S A s.heap H locs) (hB : ∀ q, B q → A q) (hU : U.heap = H) (hW : s.WarmedH U.vm) : thX sx B U := by
  refine ⟨?_, ?_, fun q hq => (h.2.2.1 q hq).warm hW, fun x hx => thBad_warm hW x hx (h.2.2.2 x hx)⟩
  · rw [hU]; exact vx_Zq.moved hW.alike ((h.1.kept hS.2.1).narrow hB)
  · rw [hU]; exact vx_Zq.moved hW.alike ((h.2.1.kept hS.2.1).narrow hB)
theorem cPX_blind {sx : Nat → Nat} {D : va_G} {cl : List vw_C} {tys : List (ClassId × FieldType)} {ww : va_W} {sz : Nat} {av : List Value} : FrameBlind (cPX (thX sx) D cl tys ww sz av) := by
  intro a U g mk q
  obtain ⟨q0, q1, qP, qK, qD, qU, qN, qT, qE⟩ := q
  exact ⟨q0, q1, qP, va_K.moved (u := U) (U := U.calling g mk a) (Vm.Alike.refl U.vm) qK, qD, vx_Zq.moved (u := U) (U := U.calling g mk a) (Vm.Alike.refl U.vm) qU, vx_Zq.moved (u := U) (U := U.calling g mk a) (Vm.Alike.refl U.vm) qN, fun q hq => vk_R.same (u := U) (U := U.calling g mk a) rfl (qT q hq), fun x hx => va_Nw.same (u := U) (U := U.calling g mk a) (thBad_ot x hx) rfl (qE x hx)⟩
/-- the place of a 'throw new E("text")' -/
def tSite (Ts : List Cond) (own : String) (cc : ByteArray) (pc : Nat) (E : String) : Prop := ∃ (ik is ic : Nat) (text : String), E ∈ thE ∧ (is, text) ∈ txtL ∧ own = RX4 ∧ Cond.classLink own ik E ∈ Ts ∧ Cond.initialized E ∈ Ts ∧ (∀ w ∈ (vx_atS own ic E thN).filter goodWord, w ∈ Ts) ∧ (∀ w ∈ (vx_atS own ic E thN).filter (fun w => !goodWord w), w ∈ thBad) ∧
  (∀ w ∈ Cond.classLink own ik E :: Cond.initialized E :: vx_atS own ic E thN, vx_ot w = true) ∧ Bundle.fit E = true ∧ decode cc pc = .ok (.new ik, 3) ∧ decode cc (pc + 3) = .ok (.dup, 1) ∧
  ((decode cc (pc + 4) = .ok (.ldc is, 2) ∧ decode cc (pc + 6) = .ok (.invokespecial ic, 3) ∧ decode cc (pc + 9) = .ok (.athrow, 1)) ∨ (decode cc (pc + 4) = .ok (.ldc_w is, 3) ∧ decode cc (pc + 7) = .ok (.invokespecial ic, 3) ∧ decode cc (pc + 10) = .ok (.athrow, 1)))
def tSiteN (Ts : List Cond) (own : String) (cc : ByteArray) (pc : Nat) (E : String) : Prop := ∃ (ik is ic : Nat) (text : String), E = nsE ∧ (is, text) ∈ txtL ∧ own = RX4 ∧ Cond.classLink own ik nsE ∈ Ts ∧ Cond.initialized nsE ∈ Ts ∧ (∀ w ∈ (nsAtS own ic).filter goodWord, w ∈ Ts) ∧ (∀ w ∈ (nsAtS own ic).filter (fun w => !goodWord w), w ∈ thBad) ∧
  (∀ w ∈ Cond.classLink own ik nsE :: Cond.initialized nsE :: nsAtS own ic, vx_ot w = true) ∧ decode cc pc = .ok (.new ik, 3) ∧ decode cc (pc + 3) = .ok (.dup, 1) ∧ decode cc (pc + 4) = .ok (.ldc is, 2) ∧ decode cc (pc + 6) = .ok (.invokespecial ic, 3) ∧ decode cc (pc + 9) = .ok (.athrow, 1)
def ThK (p : Program) (l : Launch) (e : Env) (R : Room) (s : State) (m : MethodId) (args : Array Value) (below : List Frame) (meth : Method) (c : Code) (cc : ByteArray) (nL : Nat) (Ts : List Cond) (own : String) (D : va_G) (cl : List vw_C) (tys : List (ClassId × FieldType)) (w : SH → va_W) (A : Nat → Prop) (Q : State → Prop) {α : Type} (r : (String ⊕ α) × SH) (sx : Nat → Nat) : Prop :=
  (∀ (pc : Nat) (H : Heap) (locs : List Loc) (ls : Array Slot) (σ1 : SH) {E : String}, r = (.inl E, σ1) → va_P D cl (w σ1) H → va_S A s.heap H locs → ls.size = nL → (tSite Ts own cc pc E ∨ tSiteN Ts own cc pc E) → W p l e R s m args below meth c H locs 0 0 Q (F0 m pc ls [])) ∧
  (∀ (E : String) (σ1 : SH), r = (.inl E, σ1) → l.stackTraces = false ∧ thX sx A s ∧ 1 ≤ R.cells ∧ 6 ≤ R.slots ∧ ∀ (pc : Nat) (q9 : Addr) (ce : Cell) (H1 : Heap) (locs1 : List Loc) (ls : Array Slot) (rest : List Value), va_P D cl (w σ1) H1 → va_S A s.heap H1 locs1 → H1[q9]? = some ce → ce.vm = .none → s.vm.findClass E = some ce.cls → vx_W p l e R s m args below meth c H1 locs1 (0 + 1) (0 + 6) Q (F0 m pc ls rest) q9)
def rmX (r : Room) : Room := { frames := r.frames, cells := 1, slots := 6, locals := r.locals }
def cQno : Array Value → State → Outcome → State → Prop := fun _ _ _ _ => False
abbrev cXX (D : va_G) (cl : List vw_C) (w : SH → va_W) (σ : SH) (sz : Nat) (E : String) (σ1 : SH) : String → State → State → Prop := vx_X (fun _ : Unit => True) (fun E' _ t => E' = E ∧ va_P D cl (w σ1) t.heap) (va_A (w σ) sz)
section RowsX
variable {p : Program} {l : Launch} {e : Env} {R : Room} {s : State} {m : MethodId} {args : Array Value} {below : List Frame} {meth : Method} {c : Code} {H : Heap} {locs : List Loc} {cells slots : Nat} {Q : State → Prop}
variable {cc : ByteArray} {pc : Nat} {ls : Array Slot} {rest st0 : List Value} {D : va_G} {cl : List vw_C} {A : Nat → Prop} {a : Nat} {tys : List (ClassId × FieldType)} {w : SH → va_W} {σ : SH} {nL fr lo : Nat} {Ts : List Cond} {own : String} {sx : Nat → Nat}
theorem ThK_no {α : Type} {v : α} {σ1 : SH} : ThK p l e R s m args below meth c cc nL Ts own D cl tys w A Q (.inr v, σ1) sx := ⟨fun _ _ _ _ _ _ h => (by cases h), fun _ _ h => (by cases h)⟩
theorem b_thrown {α : Type} {r : (String ⊕ α) × SH} {E : String} {σ1 : SH} (hr : vx_Run p l e R s m args below meth c H locs 0 0 1 6 (F0 m pc ls st0) rest (fun _ _ _ => False) (cXX D cl w σ H.size E σ1) (va_A (w σ) H.size)) (C : Cx p s m args c cc nL Ts own D cl tys w A R fr lo) (hT : ThK p l e R s m args below meth c cc nL Ts own D cl tys w A Q r sx) (hS : va_S A s.heap H locs) (h : r = (.inl E, σ1)) : W p l e R s m args below meth c H locs 0 0 Q (F0 m pc ls st0) := by
  intro T hTh X
  rcases hr T hTh X with ⟨v, st₀, t, T', L, h0, X', hL, e1, e2, hF, st⟩ | ⟨q, st₀, t, T', L, E1, ce, h0, X', hL, e1, e2, ⟨u, hp, hb, hF⟩, hce, hcv, hcl, st⟩
  · exact hF.elim
  · obtain ⟨rfl, hb⟩ := hb
    obtain ⟨k1, k2, k3⟩ := vx_keep h0 e1 hS (fun q _ h => wA_sub (C.2.2.1 σ) C.2.2.2.1 hS.1 q h) (wA_sub (C.2.2.1 σ) C.2.2.2.1 hS.1) hL hF
    obtain ⟨t2, a1, b1⟩ := (hT.2 _ _ h).2.2.2.2 pc q ce T'.heap (locs ++ L) ls rest (by rw [e1]; exact hb) k3 (by rw [e1]; exact hce) hcv hcl T' rfl X'
    exact ⟨t2, st.trans a1, b1⟩
theorem pre_UX (C : Cx p s m args c cc nL Ts own D cl tys w A R fr lo) (hP : va_P D cl (w σ) H) (hS : va_S A s.heap H locs) (hX : thX sx A s) (av : List Value) : ∀ U : State, U.heap = H → s.WarmedH U.vm → cPX (thX sx) D cl tys (w σ) H.size av av.toArray U := fun U hU hW => ⟨rfl, by rw [hU], by rw [hU]; exact hP, va_K.moved hW.alike C.2.1, (C.2.2.1 σ).weaken (fun _ _ _ _ => trivial), hX.to hS (wA_sub (C.2.2.1 σ) C.2.2.2.1 hS.1) hU hW⟩

theorem b_callXVi (C : Cx p s m args c cc nL Ts own D cl tys w A R fr lo) {β : Type} {r : (String ⊕ β) × SH} (hT : ThK p l e R s m args below meth c cc nL Ts own D cl tys w A Q r sx) (hP : va_P D cl (w σ) H) (hS : va_S A s.heap H locs) {callee : Option ((String ⊕ Int32) × SH)} {F : Int32 → SH → Option ((String ⊕ β) × SH)} (h : bndX callee F = some r) {y : MethodName} {ws : List Cond} {rm : Room} {bytes : ByteArray} {maxL n index : Nat} {ret : Option FieldType} {As : List Value} {b : Nat} {Cn : String} 
    (hM : ∀ (q : Int32 × SH) (sz : Nat), callee = some (.inr q.1, q.2) → Met l y ws rm (cP D cl tys (w σ) sz (.ref b :: As)) (cQi D cl w σ sz q) 0 0 (va_A (w σ) sz))
    (hX : l.stackTraces = false → ∀ (E : String) (σ1 : SH) (sz : Nat), callee = some (.inl E, σ1) → vx_Met l y ws (rmX rm) (cPX (thX sx) D cl tys (w σ) sz (.ref b :: As)) cQno (cXX D cl w σ sz E σ1) 1 6 (va_A (w σ) sz))
    (cw : CallW R s args own Cn index y bytes maxL ret ws rm 0 0 n) (cwX : 1 ≤ R.cells → 6 ≤ R.slots → CallW R s args own Cn index y bytes maxL ret ws (rmX rm) 1 6 n) (hrecv : ∃ cell : Cell, H[b]? = some cell ∧ cell.vm.isStatics = false ∧ s.vm.findClass Cn = some cell.cls) (hn : As.length = n) (hsize : ls.size = nL) (hst : st0 = As.reverse ++ .ref b :: rest) (hWr : (rest.map fun v => v.category).sum ≤ 8) (hdg : decode cc pc = .ok (.invokevirtual index, 3))
    (kk : ∀ (v : Int32) (σ1 : SH) (H1 : Heap) (locs1 : List Loc), F v σ1 = some r → va_P D cl (w σ1) H1 → va_S A s.heap H1 locs1 → W p l e R s m args below meth c H1 locs1 0 0 Q (F0 m (pc + 3) ls (.int v :: rest))) : W p l e R s m args below meth c H locs 0 0 Q (F0 m pc ls st0) := by
  rcases bndX_h h with ⟨v, σ1, hc, h⟩ | ⟨E, σ1, hc, hr⟩
  · have hM' : ∀ (q : Int32 × SH) (sz : Nat), some (v, σ1) = some q → Met l y ws rm (cP D cl tys (w σ) sz (.ref b :: As)) (cQi D cl w σ sz q) 0 0 (va_A (w σ) sz) := fun q sz hq => hM q sz (by rw [hc]; cases hq; rfl)
    exact b_callVi (As := As) (rest := rest) C hP hS (callee := some (v, σ1)) (F := F) h hM' cw hrecv hn hsize hst hWr hdg kk
  · obtain ⟨hl0, hx0, hr1, hr2, -⟩ := hT.2 _ _ hr
    exact b_thrown (vx_runV (As := As) (rest := rest) C.1 (hX hl0 _ _ H.size hc) (cwX hr1 hr2) ⟨cPX_blind, hrecv, pre_UX C hP hS (hT.2 _ _ hr).2.1 (.ref b :: As)⟩ rfl hn hsize hst (lv_room hWr) hdg ⟨(by rw [Nat.zero_add]; exact hr1), (by rw [Nat.zero_add]; exact hr2)⟩) C hT hS hr

theorem b_callXVl (C : Cx p s m args c cc nL Ts own D cl tys w A R fr lo) {β : Type} {r : (String ⊕ β) × SH} (hT : ThK p l e R s m args below meth c cc nL Ts own D cl tys w A Q r sx) (hP : va_P D cl (w σ) H) (hS : va_S A s.heap H locs) {callee : Option ((String ⊕ Int64) × SH)} {F : Int64 → SH → Option ((String ⊕ β) × SH)} (h : bndX callee F = some r) {y : MethodName} {ws : List Cond} {rm : Room} {bytes : ByteArray} {maxL n index : Nat} {ret : Option FieldType} {As : List Value} {b : Nat} {Cn : String} 
    (hM : ∀ (q : Int64 × SH) (sz : Nat), callee = some (.inr q.1, q.2) → Met l y ws rm (cP D cl tys (w σ) sz (.ref b :: As)) (cQl D cl w σ sz q) 0 0 (va_A (w σ) sz))
    (hX : l.stackTraces = false → ∀ (E : String) (σ1 : SH) (sz : Nat), callee = some (.inl E, σ1) → vx_Met l y ws (rmX rm) (cPX (thX sx) D cl tys (w σ) sz (.ref b :: As)) cQno (cXX D cl w σ sz E σ1) 1 6 (va_A (w σ) sz))
    (cw : CallW R s args own Cn index y bytes maxL ret ws rm 0 0 n) (cwX : 1 ≤ R.cells → 6 ≤ R.slots → CallW R s args own Cn index y bytes maxL ret ws (rmX rm) 1 6 n) (hrecv : ∃ cell : Cell, H[b]? = some cell ∧ cell.vm.isStatics = false ∧ s.vm.findClass Cn = some cell.cls) (hn : As.length = n) (hsize : ls.size = nL) (hst : st0 = As.reverse ++ .ref b :: rest) (hWr : (rest.map fun v => v.category).sum ≤ 8) (hdg : decode cc pc = .ok (.invokevirtual index, 3))
    (kk : ∀ (v : Int64) (σ1 : SH) (H1 : Heap) (locs1 : List Loc), F v σ1 = some r → va_P D cl (w σ1) H1 → va_S A s.heap H1 locs1 → W p l e R s m args below meth c H1 locs1 0 0 Q (F0 m (pc + 3) ls (.long v :: rest))) : W p l e R s m args below meth c H locs 0 0 Q (F0 m pc ls st0) := by
  rcases bndX_h h with ⟨v, σ1, hc, h⟩ | ⟨E, σ1, hc, hr⟩
  · have hM' : ∀ (q : Int64 × SH) (sz : Nat), some (v, σ1) = some q → Met l y ws rm (cP D cl tys (w σ) sz (.ref b :: As)) (cQl D cl w σ sz q) 0 0 (va_A (w σ) sz) := fun q sz hq => hM q sz (by rw [hc]; cases hq; rfl)
    exact b_callVl (As := As) (rest := rest) C hP hS (callee := some (v, σ1)) (F := F) h hM' cw hrecv hn hsize hst hWr hdg kk
  · obtain ⟨hl0, hx0, hr1, hr2, -⟩ := hT.2 _ _ hr
    exact b_thrown (vx_runV (As := As) (rest := rest) C.1 (hX hl0 _ _ H.size hc) (cwX hr1 hr2) ⟨cPX_blind, hrecv, pre_UX C hP hS (hT.2 _ _ hr).2.1 (.ref b :: As)⟩ rfl hn hsize hst (lv_room hWr) hdg ⟨(by rw [Nat.zero_add]; exact hr1), (by rw [Nat.zero_add]; exact hr2)⟩) C hT hS hr

theorem b_callXVv (C : Cx p s m args c cc nL Ts own D cl tys w A R fr lo) {β : Type} {r : (String ⊕ β) × SH} (hT : ThK p l e R s m args below meth c cc nL Ts own D cl tys w A Q r sx) (hP : va_P D cl (w σ) H) (hS : va_S A s.heap H locs) {callee : Option ((String ⊕ Unit) × SH)} {F : Unit → SH → Option ((String ⊕ β) × SH)} (h : bndX callee F = some r) {y : MethodName} {ws : List Cond} {rm : Room} {bytes : ByteArray} {maxL n index : Nat} {ret : Option FieldType} {As : List Value} {b : Nat} {Cn : String} 
    (hM : ∀ (q : Unit × SH) (sz : Nat), callee = some (.inr q.1, q.2) → Met l y ws rm (cP D cl tys (w σ) sz (.ref b :: As)) (cQv D cl w σ sz q) 0 0 (va_A (w σ) sz))
    (hX : l.stackTraces = false → ∀ (E : String) (σ1 : SH) (sz : Nat), callee = some (.inl E, σ1) → vx_Met l y ws (rmX rm) (cPX (thX sx) D cl tys (w σ) sz (.ref b :: As)) cQno (cXX D cl w σ sz E σ1) 1 6 (va_A (w σ) sz))
    (cw : CallW R s args own Cn index y bytes maxL ret ws rm 0 0 n) (cwX : 1 ≤ R.cells → 6 ≤ R.slots → CallW R s args own Cn index y bytes maxL ret ws (rmX rm) 1 6 n) (hrecv : ∃ cell : Cell, H[b]? = some cell ∧ cell.vm.isStatics = false ∧ s.vm.findClass Cn = some cell.cls) (hn : As.length = n) (hsize : ls.size = nL) (hst : st0 = As.reverse ++ .ref b :: rest) (hWr : (rest.map fun v => v.category).sum ≤ 8) (hdg : decode cc pc = .ok (.invokevirtual index, 3))
    (kk : ∀ (v : Unit) (σ1 : SH) (H1 : Heap) (locs1 : List Loc), F v σ1 = some r → va_P D cl (w σ1) H1 → va_S A s.heap H1 locs1 → W p l e R s m args below meth c H1 locs1 0 0 Q (F0 m (pc + 3) ls (rest))) : W p l e R s m args below meth c H locs 0 0 Q (F0 m pc ls st0) := by
  rcases bndX_h h with ⟨v, σ1, hc, h⟩ | ⟨E, σ1, hc, hr⟩
  · have hM' : ∀ (q : Unit × SH) (sz : Nat), some (v, σ1) = some q → Met l y ws rm (cP D cl tys (w σ) sz (.ref b :: As)) (cQv D cl w σ sz q) 0 0 (va_A (w σ) sz) := fun q sz hq => hM q sz (by rw [hc]; cases hq; rfl)
    exact b_callVv (As := As) (rest := rest) C hP hS (callee := some (v, σ1)) (F := F) h hM' cw hrecv hn hsize hst hWr hdg kk
  · obtain ⟨hl0, hx0, hr1, hr2, -⟩ := hT.2 _ _ hr
    exact b_thrown (vx_runV (As := As) (rest := rest) C.1 (hX hl0 _ _ H.size hc) (cwX hr1 hr2) ⟨cPX_blind, hrecv, pre_UX C hP hS (hT.2 _ _ hr).2.1 (.ref b :: As)⟩ rfl hn hsize hst (lv_room hWr) hdg ⟨(by rw [Nat.zero_add]; exact hr1), (by rw [Nat.zero_add]; exact hr2)⟩) C hT hS hr

theorem b_callXSi (C : Cx p s m args c cc nL Ts own D cl tys w A R fr lo) {β : Type} {r : (String ⊕ β) × SH} (hT : ThK p l e R s m args below meth c cc nL Ts own D cl tys w A Q r sx) (hP : va_P D cl (w σ) H) (hS : va_S A s.heap H locs) {callee : Option ((String ⊕ Int32) × SH)} {F : Int32 → SH → Option ((String ⊕ β) × SH)} (h : bndX callee F = some r) {y : MethodName} {ws : List Cond} {rm : Room} {bytes : ByteArray} {maxL n index : Nat} {ret : Option FieldType} {As : List Value} 
    (hM : ∀ (q : Int32 × SH) (sz : Nat), callee = some (.inr q.1, q.2) → Met l y ws rm (cP D cl tys (w σ) sz As) (cQi D cl w σ sz q) 0 0 (va_A (w σ) sz))
    (hX : l.stackTraces = false → ∀ (E : String) (σ1 : SH) (sz : Nat), callee = some (.inl E, σ1) → vx_Met l y ws (rmX rm) (cPX (thX sx) D cl tys (w σ) sz As) cQno (cXX D cl w σ sz E σ1) 1 6 (va_A (w σ) sz))
    (cw : CallB R s args own index y bytes maxL ret ws rm 0 0 n ∧ (Cond.static y).before args s = true) (cwX : 1 ≤ R.cells → 6 ≤ R.slots → CallB R s args own index y bytes maxL ret ws (rmX rm) 1 6 n ∧ (Cond.static y).before args s = true) (hn : As.length = n) (hsize : ls.size = nL) (hst : st0 = As.reverse ++ rest) (hWr : (rest.map fun v => v.category).sum ≤ 8) (hdg : decode cc pc = .ok (.invokestatic index, 3))
    (kk : ∀ (v : Int32) (σ1 : SH) (H1 : Heap) (locs1 : List Loc), F v σ1 = some r → va_P D cl (w σ1) H1 → va_S A s.heap H1 locs1 → W p l e R s m args below meth c H1 locs1 0 0 Q (F0 m (pc + 3) ls (.int v :: rest))) : W p l e R s m args below meth c H locs 0 0 Q (F0 m pc ls st0) := by
  rcases bndX_h h with ⟨v, σ1, hc, h⟩ | ⟨E, σ1, hc, hr⟩
  · have hM' : ∀ (q : Int32 × SH) (sz : Nat), some (v, σ1) = some q → Met l y ws rm (cP D cl tys (w σ) sz As) (cQi D cl w σ sz q) 0 0 (va_A (w σ) sz) := fun q sz hq => hM q sz (by rw [hc]; cases hq; rfl)
    exact b_callSi (As := As) (rest := rest) C hP hS (callee := some (v, σ1)) (F := F) h hM' cw hn hsize hst hWr hdg kk
  · obtain ⟨hl0, hx0, hr1, hr2, -⟩ := hT.2 _ _ hr
    exact b_thrown (vx_runS (As := As) (rest := rest) C.1 (hX hl0 _ _ H.size hc) (cwX hr1 hr2) ⟨cPX_blind, pre_UX C hP hS (hT.2 _ _ hr).2.1 As⟩ rfl hn hsize hst (lv_room hWr) hdg ⟨(by rw [Nat.zero_add]; exact hr1), (by rw [Nat.zero_add]; exact hr2)⟩) C hT hS hr

theorem b_callXSl (C : Cx p s m args c cc nL Ts own D cl tys w A R fr lo) {β : Type} {r : (String ⊕ β) × SH} (hT : ThK p l e R s m args below meth c cc nL Ts own D cl tys w A Q r sx) (hP : va_P D cl (w σ) H) (hS : va_S A s.heap H locs) {callee : Option ((String ⊕ Int64) × SH)} {F : Int64 → SH → Option ((String ⊕ β) × SH)} (h : bndX callee F = some r) {y : MethodName} {ws : List Cond} {rm : Room} {bytes : ByteArray} {maxL n index : Nat} {ret : Option FieldType} {As : List Value} 
    (hM : ∀ (q : Int64 × SH) (sz : Nat), callee = some (.inr q.1, q.2) → Met l y ws rm (cP D cl tys (w σ) sz As) (cQl D cl w σ sz q) 0 0 (va_A (w σ) sz))
    (hX : l.stackTraces = false → ∀ (E : String) (σ1 : SH) (sz : Nat), callee = some (.inl E, σ1) → vx_Met l y ws (rmX rm) (cPX (thX sx) D cl tys (w σ) sz As) cQno (cXX D cl w σ sz E σ1) 1 6 (va_A (w σ) sz))
    (cw : CallB R s args own index y bytes maxL ret ws rm 0 0 n ∧ (Cond.static y).before args s = true) (cwX : 1 ≤ R.cells → 6 ≤ R.slots → CallB R s args own index y bytes maxL ret ws (rmX rm) 1 6 n ∧ (Cond.static y).before args s = true) (hn : As.length = n) (hsize : ls.size = nL) (hst : st0 = As.reverse ++ rest) (hWr : (rest.map fun v => v.category).sum ≤ 8) (hdg : decode cc pc = .ok (.invokestatic index, 3))
    (kk : ∀ (v : Int64) (σ1 : SH) (H1 : Heap) (locs1 : List Loc), F v σ1 = some r → va_P D cl (w σ1) H1 → va_S A s.heap H1 locs1 → W p l e R s m args below meth c H1 locs1 0 0 Q (F0 m (pc + 3) ls (.long v :: rest))) : W p l e R s m args below meth c H locs 0 0 Q (F0 m pc ls st0) := by
  rcases bndX_h h with ⟨v, σ1, hc, h⟩ | ⟨E, σ1, hc, hr⟩
  · have hM' : ∀ (q : Int64 × SH) (sz : Nat), some (v, σ1) = some q → Met l y ws rm (cP D cl tys (w σ) sz As) (cQl D cl w σ sz q) 0 0 (va_A (w σ) sz) := fun q sz hq => hM q sz (by rw [hc]; cases hq; rfl)
    exact b_callSl (As := As) (rest := rest) C hP hS (callee := some (v, σ1)) (F := F) h hM' cw hn hsize hst hWr hdg kk
  · obtain ⟨hl0, hx0, hr1, hr2, -⟩ := hT.2 _ _ hr
    exact b_thrown (vx_runS (As := As) (rest := rest) C.1 (hX hl0 _ _ H.size hc) (cwX hr1 hr2) ⟨cPX_blind, pre_UX C hP hS (hT.2 _ _ hr).2.1 As⟩ rfl hn hsize hst (lv_room hWr) hdg ⟨(by rw [Nat.zero_add]; exact hr1), (by rw [Nat.zero_add]; exact hr2)⟩) C hT hS hr

theorem b_callXSv (C : Cx p s m args c cc nL Ts own D cl tys w A R fr lo) {β : Type} {r : (String ⊕ β) × SH} (hT : ThK p l e R s m args below meth c cc nL Ts own D cl tys w A Q r sx) (hP : va_P D cl (w σ) H) (hS : va_S A s.heap H locs) {callee : Option ((String ⊕ Unit) × SH)} {F : Unit → SH → Option ((String ⊕ β) × SH)} (h : bndX callee F = some r) {y : MethodName} {ws : List Cond} {rm : Room} {bytes : ByteArray} {maxL n index : Nat} {ret : Option FieldType} {As : List Value} 
    (hM : ∀ (q : Unit × SH) (sz : Nat), callee = some (.inr q.1, q.2) → Met l y ws rm (cP D cl tys (w σ) sz As) (cQv D cl w σ sz q) 0 0 (va_A (w σ) sz))
    (hX : l.stackTraces = false → ∀ (E : String) (σ1 : SH) (sz : Nat), callee = some (.inl E, σ1) → vx_Met l y ws (rmX rm) (cPX (thX sx) D cl tys (w σ) sz As) cQno (cXX D cl w σ sz E σ1) 1 6 (va_A (w σ) sz))
    (cw : CallB R s args own index y bytes maxL ret ws rm 0 0 n ∧ (Cond.static y).before args s = true) (cwX : 1 ≤ R.cells → 6 ≤ R.slots → CallB R s args own index y bytes maxL ret ws (rmX rm) 1 6 n ∧ (Cond.static y).before args s = true) (hn : As.length = n) (hsize : ls.size = nL) (hst : st0 = As.reverse ++ rest) (hWr : (rest.map fun v => v.category).sum ≤ 8) (hdg : decode cc pc = .ok (.invokestatic index, 3))
    (kk : ∀ (v : Unit) (σ1 : SH) (H1 : Heap) (locs1 : List Loc), F v σ1 = some r → va_P D cl (w σ1) H1 → va_S A s.heap H1 locs1 → W p l e R s m args below meth c H1 locs1 0 0 Q (F0 m (pc + 3) ls (rest))) : W p l e R s m args below meth c H locs 0 0 Q (F0 m pc ls st0) := by
  rcases bndX_h h with ⟨v, σ1, hc, h⟩ | ⟨E, σ1, hc, hr⟩
  · have hM' : ∀ (q : Unit × SH) (sz : Nat), some (v, σ1) = some q → Met l y ws rm (cP D cl tys (w σ) sz As) (cQv D cl w σ sz q) 0 0 (va_A (w σ) sz) := fun q sz hq => hM q sz (by rw [hc]; cases hq; rfl)
    exact b_callSv (As := As) (rest := rest) C hP hS (callee := some (v, σ1)) (F := F) h hM' cw hn hsize hst hWr hdg kk
  · obtain ⟨hl0, hx0, hr1, hr2, -⟩ := hT.2 _ _ hr
    exact b_thrown (vx_runS (As := As) (rest := rest) C.1 (hX hl0 _ _ H.size hc) (cwX hr1 hr2) ⟨cPX_blind, pre_UX C hP hS (hT.2 _ _ hr).2.1 As⟩ rfl hn hsize hst (lv_room hWr) hdg ⟨(by rw [Nat.zero_add]; exact hr1), (by rw [Nat.zero_add]; exact hr2)⟩) C hT hS hr

def Xi (p : Program) (l : Launch) (e : Env) (R : Room) (s : State) (m : MethodId) (args : Array Value) (below : List Frame) (meth : Method) (c : Code) (cc : ByteArray) (D : va_G) (cl : List vw_C) (w : SH → va_W) (A : Nat → Prop) (Q : State → Prop) (r : (String ⊕ Int32) × SH) : Prop :=
  ∀ (pc : Nat) (H : Heap) (locs : List Loc) (ls : Array Slot) (σ1 : SH) (v : Int32) , r = (.inr v, σ1) → decode cc pc = .ok (.ireturn, 1) → va_P D cl (w σ1) H → va_S A s.heap H locs → W p l e R s m args below meth c H locs 0 0 Q (F0 m pc ls [.int v])
theorem Xi_of {q : Int32 × SH} (h : Ri p l e R s m args below meth c cc D cl w A Q q) : Xi p l e R s m args below meth c cc D cl w A Q (.inr q.1, q.2) := by
  intro pc H locs ls σ1 v hr hd hP hS
  refine h pc H locs ls σ1 v ?_ hd hP hS
  cases hr
  rfl
theorem Xi_no {E : String} {z1 : SH} : Xi p l e R s m args below meth c cc D cl w A Q (.inl E, z1) := fun _ _ _ _ _ _ h => (by cases h)

def Xl (p : Program) (l : Launch) (e : Env) (R : Room) (s : State) (m : MethodId) (args : Array Value) (below : List Frame) (meth : Method) (c : Code) (cc : ByteArray) (D : va_G) (cl : List vw_C) (w : SH → va_W) (A : Nat → Prop) (Q : State → Prop) (r : (String ⊕ Int64) × SH) : Prop :=
  ∀ (pc : Nat) (H : Heap) (locs : List Loc) (ls : Array Slot) (σ1 : SH) (v : Int64) , r = (.inr v, σ1) → decode cc pc = .ok (.lreturn, 1) → va_P D cl (w σ1) H → va_S A s.heap H locs → W p l e R s m args below meth c H locs 0 0 Q (F0 m pc ls [.long v])
theorem Xl_of {q : Int64 × SH} (h : Rl p l e R s m args below meth c cc D cl w A Q q) : Xl p l e R s m args below meth c cc D cl w A Q (.inr q.1, q.2) := by
  intro pc H locs ls σ1 v hr hd hP hS
  refine h pc H locs ls σ1 v ?_ hd hP hS
  cases hr
  rfl
theorem Xl_no {E : String} {z1 : SH} : Xl p l e R s m args below meth c cc D cl w A Q (.inl E, z1) := fun _ _ _ _ _ _ h => (by cases h)

def Xv (p : Program) (l : Launch) (e : Env) (R : Room) (s : State) (m : MethodId) (args : Array Value) (below : List Frame) (meth : Method) (c : Code) (cc : ByteArray) (D : va_G) (cl : List vw_C) (w : SH → va_W) (A : Nat → Prop) (Q : State → Prop) (r : (String ⊕ Unit) × SH) : Prop :=
  ∀ (pc : Nat) (H : Heap) (locs : List Loc) (ls : Array Slot) (σ1 : SH) , r = (.inr (), σ1) → decode cc pc = .ok (.return_, 1) → va_P D cl (w σ1) H → va_S A s.heap H locs → W p l e R s m args below meth c H locs 0 0 Q (F0 m pc ls [])
theorem Xv_of {q : Unit × SH} (h : Rv p l e R s m args below meth c cc D cl w A Q q) : Xv p l e R s m args below meth c cc D cl w A Q (.inr q.1, q.2) := by
  intro pc H locs ls σ1 hr hd hP hS
  refine h pc H locs ls σ1 ?_ hd hP hS
  cases hr
  rfl
theorem Xv_no {E : String} {z1 : SH} : Xv p l e R s m args below meth c cc D cl w A Q (.inl E, z1) := fun _ _ _ _ _ h => (by cases h)

theorem ofX {y : MethodName} {ws ws' : List Cond} {rm : Room} {maxL : Nat} {ret : Option FieldType} {av : List Value} (hy : plainName y.cls = true) (hw : ws = Cond.code y cc maxL ret :: ws') (hwS : wSame w) (hlen : (lg_sl av).length ≤ maxL) (hl0 : l.stackTraces = false) (hrm : 6 ≤ rm.frames ∧ 82 ≤ rm.locals) {α : Type} {E : String} {z1 : SH} {sz : Nat}
    (body : ∀ (p : Program) (e : Env) (s : State) (m : MethodId) (below : List Frame) (meth : Method) (c : Code) (ls : Array Slot), s.heap.size = sz → Cx p s m av.toArray c cc maxL ws y.cls D cl tys w (va_A (w σ) sz) (rmX rm) rm.frames rm.locals → ThK (α := α) p l e (rmX rm) s m av.toArray below meth c cc maxL ws y.cls D cl tys w (va_A (w σ) sz) (vx_MQ below cQno (cXX D cl w σ sz E z1) av.toArray s 1 6 (va_A (w σ) sz)) (.inl E, z1) sx → va_P D cl (w σ) s.heap → lv_has ls maxL (lv_args 0 av) →
      W p l e (rmX rm) s m av.toArray below meth c s.heap [] 0 0 (vx_MQ below cQno (cXX D cl w σ sz E z1) av.toArray s 1 6 (va_A (w σ) sz)) (F0 m 0 ls [])) : vx_Met l y ws (rmX rm) (cPX (thX sx) D cl tys (w σ) sz av) cQno (cXX D cl w σ sz E z1) 1 6 (va_A (w σ) sz) := by
  refine vx_ofW (cc := cc) (maxL := maxL) (ret := ret) hy hw ?_
  intro p e s m args below meth c s₁ B hml hout hv
  obtain ⟨rfl, hsz, hP, hK, hD0, hX⟩ := hv
  have hlocks := B.notSynchronized
  subst hsz
  have hown := findClass_of_methodNamed B.named
  have hts := atoms_spec (ws := ws) B.pre
  rw [lg_entry_eq]
  refine body p e s m below meth c _ rfl ⟨⟨B.exec, B.bytes, hml, hown, hts⟩, hK, fun σ' => hwS.D (hD0.self (sz := s.heap.size)) σ', fun q h => Or.inr h, Nat.le_refl _, Nat.le_refl _⟩ ⟨?_, ?_⟩ hP (lv_entry av hlen)
  · intro pc H locs ls σ1 E1 hr hP1 hS1 hls ht
    cases hr
    have hx : ∀ t : State, s.vm.Alike t.vm → H.size ≤ t.heap.size → (∀ q : Nat, q < H.size → t.heap[q]? = H[q]?) → cXX D cl w σ s.heap.size E z1 E s t := fun t _ hz hk => ⟨(), trivial, ⟨rfl, hP1.kept (fun k q hq => hk _ (hP1 k q hq).lt)⟩, Nat.le_trans hS1.1 hz, fun q h1 h2 => by rw [hk q (Nat.lt_of_lt_of_le h1 hS1.1)]; exact hS1.2.1 q h1 h2⟩
    rcases Or.symm ht with ht | ht
    · obtain ⟨ik, is, ic, text, rfl, htx, ho, w1, w2, w3, w4, w5, d0, d3, d4, d6, d9⟩ := ht
      have hat : ∀ x ∈ nsAtS y.cls ic, x.before av.toArray s = true := vx_hat (B := thBad) (fun x hx => hts _ (w3 x hx)) w4 (fun x hx => va_Nw.use (thBad_ot x hx) (hX.2.2.2 x hx))
      have hstr : vk_R y.cls is text (sx is) s := by rw [ho]; exact hX.2.2.1 _ htx
      exact ns_throwS (A := va_A (w σ) s.heap.size) B.exec B.bytes hl0 hown (hts _ w1) (hts _ w2) hstr hat w5 hX.1 hX.2.1 hS1 (hls.trans hml.symm) d0 d3 d4 d6 d9 (fun x hx => (hout x hx).elim) hrm.1 (by show 0 + (13 * (2 + 1) + 43) ≤ rm.locals; exact hrm.2) (Nat.le_refl _) (Nat.le_refl _) hlocks hx hS1.2.2 (Nat.le_refl _) (Nat.le_refl _)
    obtain ⟨ik, is, ic, text, hE, htx, ho, w1, w2, w3, w4, w5, hfit, d0, d3, d4⟩ := ht
    have hat : ∀ x ∈ vx_atS y.cls ic E thN, x.before av.toArray s = true := vx_hat (B := thBad) (fun x hx => hts _ (w3 x hx)) w4 (fun x hx => va_Nw.use (thBad_ot x hx) (hX.2.2.2 x hx))
    have hstr : vk_R y.cls is text (sx is) s := by rw [ho]; exact hX.2.2.1 _ htx
    have hfits : ∀ n ∈ thN, Bundle.fit n = true := by decide +kernel
    rcases d4 with ⟨d4, d6, d9⟩ | ⟨d4, d7, d10⟩
    · exact vx_throwS (names := thN) (A := va_A (w σ) s.heap.size) B.exec B.bytes hl0 hown hfit hfits (hts _ w1) (hts _ w2) hstr hat w5 hX.1 hX.2.1 hS1 (hls.trans hml.symm) d0 d3 d4 d6 d9 (fun x hx => (hout x hx).elim) hrm.1 (by show 0 + (13 * (2 + 1) + 43) ≤ rm.locals; exact hrm.2) (Nat.le_refl _) (Nat.le_refl _) hlocks hx hS1.2.2 (Nat.le_refl _) (Nat.le_refl _)
    · exact vx_throwSW (names := thN) (A := va_A (w σ) s.heap.size) B.exec B.bytes hl0 hown hfit hfits (hts _ w1) (hts _ w2) hstr hat w5 hX.1 hX.2.1 hS1 (hls.trans hml.symm) d0 d3 d4 d7 d10 (fun x hx => (hout x hx).elim) hrm.1 (by show 0 + (13 * (2 + 1) + 43) ≤ rm.locals; exact hrm.2) (Nat.le_refl _) (Nat.le_refl _) hlocks hx hS1.2.2 (Nat.le_refl _) (Nat.le_refl _)
  · intro E1 σ1 hr
    cases hr
    refine ⟨hl0, hX, Nat.le_refl _, Nat.le_refl _, fun pc q9 ce H1 locs1 ls rest hP1 hS1 hce hcv hcl => ?_⟩
    exact vx_out (fun x hx => (hout x hx).elim) hlocks hce hcv hcl (fun t ht hvm => ⟨(), trivial, ⟨rfl, by rw [ht]; exact hP1⟩, hS1.F ht⟩) hS1.2.2 (Nat.le_refl _) (Nat.le_refl _)
end RowsX

theorem tsw_out1 {x : Int32} (c0 : ¬ x = 0) (c1 : ¬ x = 1) : x.toInt < 0 ∨ (1 : Int) < x.toInt := by
  have h0 : ¬ x.toInt = 0 := lv_neT c0 (by decide)
  have h1 : ¬ x.toInt = 1 := lv_neT c1 (by decide)
  omega
theorem tsw_out2 {x : Int32} (c0 : ¬ x = 0) (c1 : ¬ x = 1) (c2 : ¬ x = 2) : x.toInt < 0 ∨ (2 : Int) < x.toInt := by
  have h0 : ¬ x.toInt = 0 := lv_neT c0 (by decide)
  have h1 : ¬ x.toInt = 1 := lv_neT c1 (by decide)
  have h2 : ¬ x.toInt = 2 := lv_neT c2 (by decide)
  omega
theorem tsw_out3 {x : Int32} (c0 : ¬ x = 0) (c1 : ¬ x = 1) (c2 : ¬ x = 2) (c3 : ¬ x = 3) : x.toInt < 0 ∨ (3 : Int) < x.toInt := by
  have h0 : ¬ x.toInt = 0 := lv_neT c0 (by decide)
  have h1 : ¬ x.toInt = 1 := lv_neT c1 (by decide)
  have h2 : ¬ x.toInt = 2 := lv_neT c2 (by decide)
  have h3 : ¬ x.toInt = 3 := lv_neT c3 (by decide)
  omega
theorem tsw_out4 {x : Int32} (c0 : ¬ x = 0) (c1 : ¬ x = 1) (c2 : ¬ x = 2) (c3 : ¬ x = 3) (c4 : ¬ x = 4) : x.toInt < 0 ∨ (4 : Int) < x.toInt := by
  have h0 : ¬ x.toInt = 0 := lv_neT c0 (by decide)
  have h1 : ¬ x.toInt = 1 := lv_neT c1 (by decide)
  have h2 : ¬ x.toInt = 2 := lv_neT c2 (by decide)
  have h3 : ¬ x.toInt = 3 := lv_neT c3 (by decide)
  have h4 : ¬ x.toInt = 4 := lv_neT c4 (by decide)
  omega
theorem tsw_out5 {x : Int32} (c0 : ¬ x = 0) (c1 : ¬ x = 1) (c2 : ¬ x = 2) (c3 : ¬ x = 3) (c4 : ¬ x = 4) (c5 : ¬ x = 5) : x.toInt < 0 ∨ (5 : Int) < x.toInt := by
  have h0 : ¬ x.toInt = 0 := lv_neT c0 (by decide)
  have h1 : ¬ x.toInt = 1 := lv_neT c1 (by decide)
  have h2 : ¬ x.toInt = 2 := lv_neT c2 (by decide)
  have h3 : ¬ x.toInt = 3 := lv_neT c3 (by decide)
  have h4 : ¬ x.toInt = 4 := lv_neT c4 (by decide)
  have h5 : ¬ x.toInt = 5 := lv_neT c5 (by decide)
  omega