section Rows3
variable {p : Program} {l : Launch} {e : Env} {R : Room} {s : State} {m : MethodId} {args : Array Value} {below : List Frame} {meth : Method} {c : Code} {H : Heap} {locs : List Loc} {cells slots : Nat} {Q : State → Prop}
variable {cc : ByteArray} {pc : Nat} {ls : Array Slot} {rest st0 : List Value} {D : va_G} {cl : List vw_C} {A : Nat → Prop} {a : Nat} {tys : List (ClassId × FieldType)} {w : SH → va_W} {σ : SH} {ρ : Type} {r : ρ} {nL fr lo : Nat} {Ts : List Cond} {own : String}
theorem ite_h {c0 : Prop} [Decidable c0] {X Y : Option ρ} (h : (if c0 then X else Y) = some r) : (c0 → X = some r) ∧ (¬ c0 → Y = some r) := by
  refine ⟨fun hc => ?_, fun hc => ?_⟩
  · rw [if_pos hc] at h; exact h
  · rw [if_neg hc] at h; exact h
theorem b_getr (C : Cx p s m args c cc nL Ts own D cl tys w A R fr lo) (hP : va_P D cl (w σ) H) {ref Cn : String} {T : u_T} {N ci index : Nat} (hin : ∀ x ∈ u_ws Cn T N, x ∈ Ts) (q0 : Nat) {fs : List Value} (he : (w σ)[q0]? = some (a, .inr (ci, fs))) (hc : cl[ci]? = some (Cn, T, N)) (j : Nat) (hj : j < N) (hlink : Cond.fieldLink own index ref (T j).2.1 (T j).2.2.1 ∈ Ts) (href : (T j).1 = ref) {v : Value} (hv : fs[j]? = some v) (hdg : decode cc pc = .ok (.getfield index, 3))
    (kk : W p l e R s m args below meth c H locs cells slots Q (F0 m (pc + 3) ls (v :: rest))) : W p l e R s m args below meth c H locs cells slots Q (F0 m pc ls (.ref a :: rest)) := by
  subst href
  exact va_get C.1.1 C.1.2.1 C.1.2.2.2.2 hin C.1.2.2.2.1 C.2.1 hP q0 he hc j hj (C.1.2.2.2.2 _ hlink) (fun _ h => h) hv hdg kk
theorem b_geti (C : Cx p s m args c cc nL Ts own D cl tys w A R fr lo) (hP : va_P D cl (w σ) H) {k : Nat} {F : Int32 → Option ρ} (h : rdi σ k F = some r) {ref Cn : String} {T : u_T} {N ci index : Nat} (hin : ∀ x ∈ u_ws Cn T N, x ∈ Ts) (q0 : Nat) {fs : List Value} (he : (w σ)[q0]? = some (a, .inr (ci, fs))) (hc : cl[ci]? = some (Cn, T, N)) (j : Nat) (hj : j < N) (hlink : Cond.fieldLink own index ref (T j).2.1 (T j).2.2.1 ∈ Ts) (href : (T j).1 = ref) (hv : fs[j]? = some (.int (σ.1 k))) (hdg : decode cc pc = .ok (.getfield index, 3))
    (kk : ∀ x : Int32, F x = some r → W p l e R s m args below meth c H locs cells slots Q (F0 m (pc + 3) ls (.int x :: rest))) : W p l e R s m args below meth c H locs cells slots Q (F0 m pc ls (.ref a :: rest)) :=
  b_getr C hP hin q0 he hc j hj hlink href hv hdg (kk _ h)
theorem b_puti (C : Cx p s m args c cc nL Ts own D cl tys w A R fr lo) (hP : va_P D cl (w σ) H) (hS : va_S A s.heap H locs) {k : Nat} {v : Int32} {F : SH → Option ρ} (h : wri σ k v F = some r) {ref Cn : String} {T : u_T} {N ci index : Nat} (hin : ∀ x ∈ u_ws Cn T N, x ∈ Ts) (ty0 : Nat → FieldType) (hty : ∀ k, k < N → parseFieldDescriptor (T k).2.2.1 = some (ty0 k)) (hnm : ∀ a, a < N → ∀ b, b < N → a ≠ b → (T a).2.1 ≠ (T b).2.1)
    (q0 : Nat) {fs : List Value} (he : (w σ)[q0]? = some (a, .inr (ci, fs))) (hc : cl[ci]? = some (Cn, T, N)) (j : Nat) (hj : j < N) (hlink : Cond.fieldLink own index ref (T j).2.1 (T j).2.2.1 ∈ Ts) (href : (T j).1 = ref) (hfin : (T j).2.2.2 = false) (hint : ty0 j = .int) (hl : j < fs.length)
    (hset : (w σ).set q0 (a, .inr (ci, fs.set j (.int v))) = w (si σ k v)) (hdg : decode cc pc = .ok (.putfield index, 3))
    (kk : ∀ (σ1 : SH) (H1 : Heap) (locs1 : List Loc), F σ1 = some r → va_P D cl (w σ1) H1 → va_S A s.heap H1 locs1 → W p l e R s m args below meth c H1 locs1 cells slots Q (F0 m (pc + 3) ls rest)) : W p l e R s m args below meth c H locs cells slots Q (F0 m pc ls (.int v :: .ref a :: rest)) := by
  subst href
  refine va_put C.1.1 C.1.2.1 C.1.2.2.2.2 hin ty0 hty hnm C.1.2.2.2.1 C.2.1 hP (C.2.2.1 σ) hS q0 he hc j hj (C.1.2.2.2.2 _ hlink) (fun _ h => h) hfin (ty := .int) (by rw [hty j hj, hint]) rfl rfl hl hdg (fun H1 locs1 hP1 _ hS1 => ?_)
  rw [hset] at hP1
  exact kk _ H1 locs1 h hP1 hS1
theorem pre_U (C : Cx p s m args c cc nL Ts own D cl tys w A R fr lo) (hP : va_P D cl (w σ) H) (av : List Value) : ∀ U : State, U.heap = H → s.WarmedH U.vm → cP D cl tys (w σ) H.size av av.toArray U := fun U hU hW => ⟨rfl, by rw [hU], by rw [hU]; exact hP, va_K.moved hW.alike C.2.1, (C.2.2.1 σ).weaken (fun _ _ _ _ => trivial)⟩

theorem b_callVi (C : Cx p s m args c cc nL Ts own D cl tys w A R fr lo) (hP : va_P D cl (w σ) H) (hS : va_S A s.heap H locs) {callee : Option (Int32 × SH)} {F : Int32 → SH → Option ρ} (h : bnd callee F = some r) {y : MethodName} {ws : List Cond} {rm : Room} {bytes : ByteArray} {maxL n index : Nat} {ret : Option FieldType} {As : List Value} {b : Nat} {Cn : String} 
    (hM : ∀ (q : Int32 × SH) (sz : Nat), callee = some q → Met l y ws rm (cP D cl tys (w σ) sz (.ref b :: As)) (cQi D cl w σ sz q) 0 0 (va_A (w σ) sz)) (cw : CallW R s args own Cn index y bytes maxL ret ws rm 0 0 n) (hrecv : ∃ cell : Cell, H[b]? = some cell ∧ cell.vm.isStatics = false ∧ s.vm.findClass Cn = some cell.cls) (hn : As.length = n) (hsize : ls.size = nL) (hst : st0 = As.reverse ++ .ref b :: rest) (hWr : (rest.map fun v => v.category).sum ≤ 8) (hdg : decode cc pc = .ok (.invokevirtual index, 3))
    (kk : ∀ (v : Int32) (σ1 : SH) (H1 : Heap) (locs1 : List Loc), F v σ1 = some r → va_P D cl (w σ1) H1 → va_S A s.heap H1 locs1 → W p l e R s m args below meth c H1 locs1 0 0 Q (F0 m (pc + 3) ls (.int v :: rest))) : W p l e R s m args below meth c H locs 0 0 Q (F0 m pc ls st0) := by
  obtain ⟨v, σ1, hc, h⟩ := bnd_h h
  refine va_calli (va_runV (As := As) (rest := rest) C.1 (hM _ H.size hc) cw ⟨cP_blind, hrecv, pre_U C hP (.ref b :: As)⟩ rfl hn hsize hst (lv_room hWr) hdg ⟨Nat.zero_le _, Nat.zero_le _⟩) hS (fun q _ h => wA_sub (C.2.2.1 σ) C.2.2.2.1 hS.1 q h) (wA_sub (C.2.2.1 σ) C.2.2.2.1 hS.1) (fun r1 u t H1 locs1 ht hvm hw hB hz1 hk1 hS1 => ?_)
  cases hw
  rw [ht] at hB
  exact kk _ _ H1 locs1 h hB hS1

theorem b_callVl (C : Cx p s m args c cc nL Ts own D cl tys w A R fr lo) (hP : va_P D cl (w σ) H) (hS : va_S A s.heap H locs) {callee : Option (Int64 × SH)} {F : Int64 → SH → Option ρ} (h : bnd callee F = some r) {y : MethodName} {ws : List Cond} {rm : Room} {bytes : ByteArray} {maxL n index : Nat} {ret : Option FieldType} {As : List Value} {b : Nat} {Cn : String} 
    (hM : ∀ (q : Int64 × SH) (sz : Nat), callee = some q → Met l y ws rm (cP D cl tys (w σ) sz (.ref b :: As)) (cQl D cl w σ sz q) 0 0 (va_A (w σ) sz)) (cw : CallW R s args own Cn index y bytes maxL ret ws rm 0 0 n) (hrecv : ∃ cell : Cell, H[b]? = some cell ∧ cell.vm.isStatics = false ∧ s.vm.findClass Cn = some cell.cls) (hn : As.length = n) (hsize : ls.size = nL) (hst : st0 = As.reverse ++ .ref b :: rest) (hWr : (rest.map fun v => v.category).sum ≤ 8) (hdg : decode cc pc = .ok (.invokevirtual index, 3))
    (kk : ∀ (v : Int64) (σ1 : SH) (H1 : Heap) (locs1 : List Loc), F v σ1 = some r → va_P D cl (w σ1) H1 → va_S A s.heap H1 locs1 → W p l e R s m args below meth c H1 locs1 0 0 Q (F0 m (pc + 3) ls (.long v :: rest))) : W p l e R s m args below meth c H locs 0 0 Q (F0 m pc ls st0) := by
  obtain ⟨v, σ1, hc, h⟩ := bnd_h h
  refine va_calll (va_runV (As := As) (rest := rest) C.1 (hM _ H.size hc) cw ⟨cP_blind, hrecv, pre_U C hP (.ref b :: As)⟩ rfl hn hsize hst (lv_room hWr) hdg ⟨Nat.zero_le _, Nat.zero_le _⟩) hS (fun q _ h => wA_sub (C.2.2.1 σ) C.2.2.2.1 hS.1 q h) (wA_sub (C.2.2.1 σ) C.2.2.2.1 hS.1) (fun r1 u t H1 locs1 ht hvm hw hB hz1 hk1 hS1 => ?_)
  cases hw
  rw [ht] at hB
  exact kk _ _ H1 locs1 h hB hS1

theorem b_callVv (C : Cx p s m args c cc nL Ts own D cl tys w A R fr lo) (hP : va_P D cl (w σ) H) (hS : va_S A s.heap H locs) {callee : Option (Unit × SH)} {F : Unit → SH → Option ρ} (h : bnd callee F = some r) {y : MethodName} {ws : List Cond} {rm : Room} {bytes : ByteArray} {maxL n index : Nat} {ret : Option FieldType} {As : List Value} {b : Nat} {Cn : String} 
    (hM : ∀ (q : Unit × SH) (sz : Nat), callee = some q → Met l y ws rm (cP D cl tys (w σ) sz (.ref b :: As)) (cQv D cl w σ sz q) 0 0 (va_A (w σ) sz)) (cw : CallW R s args own Cn index y bytes maxL ret ws rm 0 0 n) (hrecv : ∃ cell : Cell, H[b]? = some cell ∧ cell.vm.isStatics = false ∧ s.vm.findClass Cn = some cell.cls) (hn : As.length = n) (hsize : ls.size = nL) (hst : st0 = As.reverse ++ .ref b :: rest) (hWr : (rest.map fun v => v.category).sum ≤ 8) (hdg : decode cc pc = .ok (.invokevirtual index, 3))
    (kk : ∀ (v : Unit) (σ1 : SH) (H1 : Heap) (locs1 : List Loc), F v σ1 = some r → va_P D cl (w σ1) H1 → va_S A s.heap H1 locs1 → W p l e R s m args below meth c H1 locs1 0 0 Q (F0 m (pc + 3) ls (rest))) : W p l e R s m args below meth c H locs 0 0 Q (F0 m pc ls st0) := by
  obtain ⟨v, σ1, hc, h⟩ := bnd_h h
  refine va_callv (va_runV (As := As) (rest := rest) C.1 (hM _ H.size hc) cw ⟨cP_blind, hrecv, pre_U C hP (.ref b :: As)⟩ rfl hn hsize hst (lv_room hWr) hdg ⟨Nat.zero_le _, Nat.zero_le _⟩) hS (fun q _ h => wA_sub (C.2.2.1 σ) C.2.2.2.1 hS.1 q h) (wA_sub (C.2.2.1 σ) C.2.2.2.1 hS.1) (fun u t H1 locs1 ht hvm hw hB hz1 hk1 hS1 => ?_)
  cases hw
  rw [ht] at hB
  exact kk _ _ H1 locs1 h hB hS1

theorem b_callSi (C : Cx p s m args c cc nL Ts own D cl tys w A R fr lo) (hP : va_P D cl (w σ) H) (hS : va_S A s.heap H locs) {callee : Option (Int32 × SH)} {F : Int32 → SH → Option ρ} (h : bnd callee F = some r) {y : MethodName} {ws : List Cond} {rm : Room} {bytes : ByteArray} {maxL n index : Nat} {ret : Option FieldType} {As : List Value} 
    (hM : ∀ (q : Int32 × SH) (sz : Nat), callee = some q → Met l y ws rm (cP D cl tys (w σ) sz As) (cQi D cl w σ sz q) 0 0 (va_A (w σ) sz)) (cw : CallB R s args own index y bytes maxL ret ws rm 0 0 n ∧ (Cond.static y).before args s = true) (hn : As.length = n) (hsize : ls.size = nL) (hst : st0 = As.reverse ++ rest) (hWr : (rest.map fun v => v.category).sum ≤ 8) (hdg : decode cc pc = .ok (.invokestatic index, 3))
    (kk : ∀ (v : Int32) (σ1 : SH) (H1 : Heap) (locs1 : List Loc), F v σ1 = some r → va_P D cl (w σ1) H1 → va_S A s.heap H1 locs1 → W p l e R s m args below meth c H1 locs1 0 0 Q (F0 m (pc + 3) ls (.int v :: rest))) : W p l e R s m args below meth c H locs 0 0 Q (F0 m pc ls st0) := by
  obtain ⟨v, σ1, hc, h⟩ := bnd_h h
  refine va_calli (va_runS (As := As) (rest := rest) C.1 (hM _ H.size hc) cw ⟨cP_blind, pre_U C hP As⟩ rfl hn hsize hst (lv_room hWr) hdg ⟨Nat.zero_le _, Nat.zero_le _⟩) hS (fun q _ h => wA_sub (C.2.2.1 σ) C.2.2.2.1 hS.1 q h) (wA_sub (C.2.2.1 σ) C.2.2.2.1 hS.1) (fun r1 u t H1 locs1 ht hvm hw hB hz1 hk1 hS1 => ?_)
  cases hw
  rw [ht] at hB
  exact kk _ _ H1 locs1 h hB hS1

theorem b_callSl (C : Cx p s m args c cc nL Ts own D cl tys w A R fr lo) (hP : va_P D cl (w σ) H) (hS : va_S A s.heap H locs) {callee : Option (Int64 × SH)} {F : Int64 → SH → Option ρ} (h : bnd callee F = some r) {y : MethodName} {ws : List Cond} {rm : Room} {bytes : ByteArray} {maxL n index : Nat} {ret : Option FieldType} {As : List Value} 
    (hM : ∀ (q : Int64 × SH) (sz : Nat), callee = some q → Met l y ws rm (cP D cl tys (w σ) sz As) (cQl D cl w σ sz q) 0 0 (va_A (w σ) sz)) (cw : CallB R s args own index y bytes maxL ret ws rm 0 0 n ∧ (Cond.static y).before args s = true) (hn : As.length = n) (hsize : ls.size = nL) (hst : st0 = As.reverse ++ rest) (hWr : (rest.map fun v => v.category).sum ≤ 8) (hdg : decode cc pc = .ok (.invokestatic index, 3))
    (kk : ∀ (v : Int64) (σ1 : SH) (H1 : Heap) (locs1 : List Loc), F v σ1 = some r → va_P D cl (w σ1) H1 → va_S A s.heap H1 locs1 → W p l e R s m args below meth c H1 locs1 0 0 Q (F0 m (pc + 3) ls (.long v :: rest))) : W p l e R s m args below meth c H locs 0 0 Q (F0 m pc ls st0) := by
  obtain ⟨v, σ1, hc, h⟩ := bnd_h h
  refine va_calll (va_runS (As := As) (rest := rest) C.1 (hM _ H.size hc) cw ⟨cP_blind, pre_U C hP As⟩ rfl hn hsize hst (lv_room hWr) hdg ⟨Nat.zero_le _, Nat.zero_le _⟩) hS (fun q _ h => wA_sub (C.2.2.1 σ) C.2.2.2.1 hS.1 q h) (wA_sub (C.2.2.1 σ) C.2.2.2.1 hS.1) (fun r1 u t H1 locs1 ht hvm hw hB hz1 hk1 hS1 => ?_)
  cases hw
  rw [ht] at hB
  exact kk _ _ H1 locs1 h hB hS1

theorem b_callSv (C : Cx p s m args c cc nL Ts own D cl tys w A R fr lo) (hP : va_P D cl (w σ) H) (hS : va_S A s.heap H locs) {callee : Option (Unit × SH)} {F : Unit → SH → Option ρ} (h : bnd callee F = some r) {y : MethodName} {ws : List Cond} {rm : Room} {bytes : ByteArray} {maxL n index : Nat} {ret : Option FieldType} {As : List Value} 
    (hM : ∀ (q : Unit × SH) (sz : Nat), callee = some q → Met l y ws rm (cP D cl tys (w σ) sz As) (cQv D cl w σ sz q) 0 0 (va_A (w σ) sz)) (cw : CallB R s args own index y bytes maxL ret ws rm 0 0 n ∧ (Cond.static y).before args s = true) (hn : As.length = n) (hsize : ls.size = nL) (hst : st0 = As.reverse ++ rest) (hWr : (rest.map fun v => v.category).sum ≤ 8) (hdg : decode cc pc = .ok (.invokestatic index, 3))
    (kk : ∀ (v : Unit) (σ1 : SH) (H1 : Heap) (locs1 : List Loc), F v σ1 = some r → va_P D cl (w σ1) H1 → va_S A s.heap H1 locs1 → W p l e R s m args below meth c H1 locs1 0 0 Q (F0 m (pc + 3) ls (rest))) : W p l e R s m args below meth c H locs 0 0 Q (F0 m pc ls st0) := by
  obtain ⟨v, σ1, hc, h⟩ := bnd_h h
  refine va_callv (va_runS (As := As) (rest := rest) C.1 (hM _ H.size hc) cw ⟨cP_blind, pre_U C hP As⟩ rfl hn hsize hst (lv_room hWr) hdg ⟨Nat.zero_le _, Nat.zero_le _⟩) hS (fun q _ h => wA_sub (C.2.2.1 σ) C.2.2.2.1 hS.1 q h) (wA_sub (C.2.2.1 σ) C.2.2.2.1 hS.1) (fun u t H1 locs1 ht hvm hw hB hz1 hk1 hS1 => ?_)
  cases hw
  rw [ht] at hB
  exact kk _ _ H1 locs1 h hB hS1

/-- what a walk needs at a return -/
def Ri (p : Program) (l : Launch) (e : Env) (R : Room) (s : State) (m : MethodId) (args : Array Value) (below : List Frame) (meth : Method) (c : Code) (cc : ByteArray) (D : va_G) (cl : List vw_C) (w : SH → va_W) (A : Nat → Prop) (Q : State → Prop) (r : Int32 × SH) : Prop :=
  ∀ (pc : Nat) (H : Heap) (locs : List Loc) (ls : Array Slot) (σ1 : SH) (v : Int32) , r = (v, σ1) → decode cc pc = .ok (.ireturn, 1) → va_P D cl (w σ1) H → va_S A s.heap H locs → W p l e R s m args below meth c H locs 0 0 Q (F0 m pc ls [.int v])

/-- what a walk needs at a return -/
def Rl (p : Program) (l : Launch) (e : Env) (R : Room) (s : State) (m : MethodId) (args : Array Value) (below : List Frame) (meth : Method) (c : Code) (cc : ByteArray) (D : va_G) (cl : List vw_C) (w : SH → va_W) (A : Nat → Prop) (Q : State → Prop) (r : Int64 × SH) : Prop :=
  ∀ (pc : Nat) (H : Heap) (locs : List Loc) (ls : Array Slot) (σ1 : SH) (v : Int64) , r = (v, σ1) → decode cc pc = .ok (.lreturn, 1) → va_P D cl (w σ1) H → va_S A s.heap H locs → W p l e R s m args below meth c H locs 0 0 Q (F0 m pc ls [.long v])

/-- what a walk needs at a return -/
def Rv (p : Program) (l : Launch) (e : Env) (R : Room) (s : State) (m : MethodId) (args : Array Value) (below : List Frame) (meth : Method) (c : Code) (cc : ByteArray) (D : va_G) (cl : List vw_C) (w : SH → va_W) (A : Nat → Prop) (Q : State → Prop) (r : Unit × SH) : Prop :=
  ∀ (pc : Nat) (H : Heap) (locs : List Loc) (ls : Array Slot) (σ1 : SH) , r = ((), σ1) → decode cc pc = .ok (.return_, 1) → va_P D cl (w σ1) H → va_S A s.heap H locs → W p l e R s m args below meth c H locs 0 0 Q (F0 m pc ls [])

theorem ofW_i {y : MethodName} {ws ws' : List Cond} {rm : Room} {maxL : Nat} {av : List Value} (hy : plainName y.cls = true) (hw : ws = Cond.code y cc maxL (some .int) :: ws') (hwS : wSame w) (hlen : (lg_sl av).length ≤ maxL) {q : Int32 × SH} {sz : Nat}
    (body : ∀ (p : Program) (e : Env) (s : State) (m : MethodId) (below : List Frame) (meth : Method) (c : Code) (ls : Array Slot), s.heap.size = sz → Cx p s m av.toArray c cc maxL ws y.cls D cl tys w (va_A (w σ) sz) rm rm.frames rm.locals → Ri p l e rm s m av.toArray below meth c cc D cl w (va_A (w σ) sz) (MQ below (cQi D cl w σ sz q) av.toArray s 0 0 (va_A (w σ) sz)) q → va_P D cl (w σ) s.heap → lv_has ls maxL (lv_args 0 av) →
      W p l e rm s m av.toArray below meth c s.heap [] 0 0 (MQ below (cQi D cl w σ sz q) av.toArray s 0 0 (va_A (w σ) sz)) (F0 m 0 ls [])) : Met l y ws rm (cP D cl tys (w σ) sz av) (cQi D cl w σ sz q) 0 0 (va_A (w σ) sz) := by
  refine Met.ofW (cc := cc) (maxL := maxL) (ret := some .int) hy hw ?_
  intro p e s m args below meth c s₁ B hml hv
  obtain ⟨rfl, hsz, hP, hK, hD0⟩ := hv
  have hlocks := B.notSynchronized
  subst hsz
  rw [lg_entry_eq]
  refine body p e s m below meth c _ rfl ⟨⟨B.exec, B.bytes, hml, findClass_of_methodNamed B.named, atoms_spec (ws := ws) B.pre⟩, hK, fun σ' => hwS.D (hD0.self (sz := s.heap.size)) σ', fun q h => Or.inr h, Nat.le_refl _, Nat.le_refl _⟩ ?_ hP (lv_entry av hlen)
  intro pc H locs ls σ1 v hq hdg hP1 hS1
  exact W.iret B.exec B.bytes B.returns (fun t ht _ => ⟨⟨v, σ1, rfl, hq.symm, by show va_P D cl (w σ1) t.heap; rw [ht]; exact hP1⟩, hS1.F ht⟩) hS1.2.2 hdg

theorem ofW_l {y : MethodName} {ws ws' : List Cond} {rm : Room} {maxL : Nat} {av : List Value} (hy : plainName y.cls = true) (hw : ws = Cond.code y cc maxL (some .long) :: ws') (hwS : wSame w) (hlen : (lg_sl av).length ≤ maxL) {q : Int64 × SH} {sz : Nat}
    (body : ∀ (p : Program) (e : Env) (s : State) (m : MethodId) (below : List Frame) (meth : Method) (c : Code) (ls : Array Slot), s.heap.size = sz → Cx p s m av.toArray c cc maxL ws y.cls D cl tys w (va_A (w σ) sz) rm rm.frames rm.locals → Rl p l e rm s m av.toArray below meth c cc D cl w (va_A (w σ) sz) (MQ below (cQl D cl w σ sz q) av.toArray s 0 0 (va_A (w σ) sz)) q → va_P D cl (w σ) s.heap → lv_has ls maxL (lv_args 0 av) →
      W p l e rm s m av.toArray below meth c s.heap [] 0 0 (MQ below (cQl D cl w σ sz q) av.toArray s 0 0 (va_A (w σ) sz)) (F0 m 0 ls [])) : Met l y ws rm (cP D cl tys (w σ) sz av) (cQl D cl w σ sz q) 0 0 (va_A (w σ) sz) := by
  refine Met.ofW (cc := cc) (maxL := maxL) (ret := some .long) hy hw ?_
  intro p e s m args below meth c s₁ B hml hv
  obtain ⟨rfl, hsz, hP, hK, hD0⟩ := hv
  have hlocks := B.notSynchronized
  subst hsz
  rw [lg_entry_eq]
  refine body p e s m below meth c _ rfl ⟨⟨B.exec, B.bytes, hml, findClass_of_methodNamed B.named, atoms_spec (ws := ws) B.pre⟩, hK, fun σ' => hwS.D (hD0.self (sz := s.heap.size)) σ', fun q h => Or.inr h, Nat.le_refl _, Nat.le_refl _⟩ ?_ hP (lv_entry av hlen)
  intro pc H locs ls σ1 v hq hdg hP1 hS1
  exact W.lret B.exec B.bytes B.returns (fun t ht _ => ⟨⟨v, σ1, rfl, hq.symm, by show va_P D cl (w σ1) t.heap; rw [ht]; exact hP1⟩, hS1.F ht⟩) hS1.2.2 hdg

theorem ofW_v {y : MethodName} {ws ws' : List Cond} {rm : Room} {maxL : Nat} {av : List Value} (hy : plainName y.cls = true) (hw : ws = Cond.code y cc maxL (none) :: ws') (hwS : wSame w) (hlen : (lg_sl av).length ≤ maxL) {q : Unit × SH} {sz : Nat}
    (body : ∀ (p : Program) (e : Env) (s : State) (m : MethodId) (below : List Frame) (meth : Method) (c : Code) (ls : Array Slot), s.heap.size = sz → Cx p s m av.toArray c cc maxL ws y.cls D cl tys w (va_A (w σ) sz) rm rm.frames rm.locals → Rv p l e rm s m av.toArray below meth c cc D cl w (va_A (w σ) sz) (MQ below (cQv D cl w σ sz q) av.toArray s 0 0 (va_A (w σ) sz)) q → va_P D cl (w σ) s.heap → lv_has ls maxL (lv_args 0 av) →
      W p l e rm s m av.toArray below meth c s.heap [] 0 0 (MQ below (cQv D cl w σ sz q) av.toArray s 0 0 (va_A (w σ) sz)) (F0 m 0 ls [])) : Met l y ws rm (cP D cl tys (w σ) sz av) (cQv D cl w σ sz q) 0 0 (va_A (w σ) sz) := by
  refine Met.ofW (cc := cc) (maxL := maxL) (ret := none) hy hw ?_
  intro p e s m args below meth c s₁ B hml hv
  obtain ⟨rfl, hsz, hP, hK, hD0⟩ := hv
  have hlocks := B.notSynchronized
  subst hsz
  rw [lg_entry_eq]
  refine body p e s m below meth c _ rfl ⟨⟨B.exec, B.bytes, hml, findClass_of_methodNamed B.named, atoms_spec (ws := ws) B.pre⟩, hK, fun σ' => hwS.D (hD0.self (sz := s.heap.size)) σ', fun q h => Or.inr h, Nat.le_refl _, Nat.le_refl _⟩ ?_ hP (lv_entry av hlen)
  intro pc H locs ls σ1 hq hdg hP1 hS1
  exact W.vret B.exec B.bytes B.returns (fun t ht _ => ⟨⟨σ1, rfl, hq.symm, by show va_P D cl (w σ1) t.heap; rw [ht]; exact hP1⟩, hS1.F ht⟩) hS1.2.2 hdg

/-- .. of a boolean answer -/
def Rz (p : Program) (l : Launch) (e : Env) (R : Room) (s : State) (m : MethodId) (args : Array Value) (below : List Frame) (meth : Method) (c : Code) (cc : ByteArray) (D : va_G) (cl : List vw_C) (w : SH → va_W) (A : Nat → Prop) (Q : State → Prop) (r : Int32 × SH) : Prop :=
  ∀ (pc : Nat) (H : Heap) (locs : List Loc) (ls : Array Slot) (σ1 : SH) (v : Int32), gdb (isB v) (some (v, σ1)) = some r → decode cc pc = .ok (.ireturn, 1) → va_P D cl (w σ1) H → va_S A s.heap H locs → W p l e R s m args below meth c H locs 0 0 Q (F0 m pc ls [.int v])

theorem ofW_z {y : MethodName} {ws ws' : List Cond} {rm : Room} {maxL : Nat} {av : List Value} (hy : plainName y.cls = true) (hw : ws = Cond.code y cc maxL (some .boolean) :: ws') (hwS : wSame w) (hlen : (lg_sl av).length ≤ maxL) {q : Int32 × SH} {sz : Nat}
    (body : ∀ (p : Program) (e : Env) (s : State) (m : MethodId) (below : List Frame) (meth : Method) (c : Code) (ls : Array Slot), s.heap.size = sz → Cx p s m av.toArray c cc maxL ws y.cls D cl tys w (va_A (w σ) sz) rm rm.frames rm.locals → Rz p l e rm s m av.toArray below meth c cc D cl w (va_A (w σ) sz) (MQ below (cQi D cl w σ sz q) av.toArray s 0 0 (va_A (w σ) sz)) q → va_P D cl (w σ) s.heap → lv_has ls maxL (lv_args 0 av) →
      W p l e rm s m av.toArray below meth c s.heap [] 0 0 (MQ below (cQi D cl w σ sz q) av.toArray s 0 0 (va_A (w σ) sz)) (F0 m 0 ls [])) : Met l y ws rm (cP D cl tys (w σ) sz av) (cQi D cl w σ sz q) 0 0 (va_A (w σ) sz) := by
  refine Met.ofW (cc := cc) (maxL := maxL) (ret := some .boolean) hy hw ?_
  intro p e s m args below meth c s₁ B hml hv
  obtain ⟨rfl, hsz, hP, hK, hD0⟩ := hv
  have hlocks := B.notSynchronized
  subst hsz
  rw [lg_entry_eq]
  refine body p e s m below meth c _ rfl ⟨⟨B.exec, B.bytes, hml, findClass_of_methodNamed B.named, atoms_spec (ws := ws) B.pre⟩, hK, fun σ' => hwS.D (hD0.self (sz := s.heap.size)) σ', fun q h => Or.inr h, Nat.le_refl _, Nat.le_refl _⟩ ?_ hP (lv_entry av hlen)
  intro pc H locs ls σ1 v hq hdg hP1 hS1
  exact W.zret B.exec B.bytes B.returns (isB_nar (gdb_h hq).1) (fun t ht _ => ⟨⟨v, σ1, rfl, Option.some.inj (gdb_h hq).2, by show va_P D cl (w σ1) t.heap; rw [ht]; exact hP1⟩, hS1.F ht⟩) hS1.2.2 hdg

end Rows3
