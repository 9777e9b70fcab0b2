section
/-! ===== a system's state: its int fields, its int rows, its long rows, each by a number; the steps that its methods take ===== -/
abbrev SH : Type := (Nat → Int32) × (Nat → Nat → Int32) × (Nat → Nat → Int64)
def gi (σ : SH) (k : Nat) : Int32 := σ.1 k
def ga (σ : SH) (k : Nat) (i : Int32) : Int32 := σ.2.1 k i.toNatClampNeg
def gl (σ : SH) (k : Nat) (i : Int32) : Int64 := σ.2.2 k i.toNatClampNeg
def si (σ : SH) (k : Nat) (v : Int32) : SH := (upd σ.1 k v, σ.2.1, σ.2.2)
def sa (σ : SH) (k : Nat) (i v : Int32) : SH := (σ.1, fun j => if j = k then upd (σ.2.1 k) i.toNatClampNeg v else σ.2.1 j, σ.2.2)
def sl (σ : SH) (k : Nat) (i : Int32) (v : Int64) : SH := (σ.1, σ.2.1, fun j => if j = k then vp_updL (σ.2.2 k) i.toNatClampNeg v else σ.2.2 j)
def inb (i : Int32) (n : Nat) : Bool := decide (0 ≤ i.toInt) && decide (i.toInt < n)
theorem inb_in {i : Int32} {n : Nat} (h : inb i n = true) : vp_in i n := by
  rw [inb, Bool.and_eq_true, decide_eq_true_eq, decide_eq_true_eq] at h
  exact vp_in_iff.mpr h
def isB (v : Int32) : Bool := decide (v &&& 1 = v)
theorem isB_nar {v : Int32} (h : isB v = true) : narrow .boolean (.int v) = .int v := by
  rw [isB, decide_eq_true_eq] at h
  show Value.int (v &&& 1) = _
  rw [h]
section PureSteps
variable {α β : Type}
def rda (σ : SH) (k n : Nat) (i : Int32) (F : Int32 → Option β) : Option β := if inb i n = true then F (ga σ k i) else none
def rdl (σ : SH) (k n : Nat) (i : Int32) (F : Int64 → Option β) : Option β := if inb i n = true then F (gl σ k i) else none
def wra (σ : SH) (k n : Nat) (i v : Int32) (F : SH → Option β) : Option β := if inb i n = true then F (sa σ k i v) else none
def wrl (σ : SH) (k n : Nat) (i : Int32) (v : Int64) (F : SH → Option β) : Option β := if inb i n = true then F (sl σ k i v) else none
def rdi (σ : SH) (k : Nat) (F : Int32 → Option β) : Option β := F (gi σ k)
def wri (σ : SH) (k : Nat) (v : Int32) (F : SH → Option β) : Option β := F (si σ k v)
def bnd (c : Option (α × SH)) (F : α → SH → Option β) : Option β := match c with
  | none => none
  | some q => F q.1 q.2
def bndX (c : Option ((String ⊕ α) × SH)) (F : α → SH → Option ((String ⊕ β) × SH)) : Option ((String ⊕ β) × SH) := match c with
  | none => none
  | some (.inl E, σ) => some (.inl E, σ)
  | some (.inr a, σ) => F a σ
def gdb (b : Bool) (x : Option β) : Option β := if b = true then x else none
theorem rda_h {σ : SH} {k n : Nat} {i : Int32} {F : Int32 → Option β} {r : β} (h : rda σ k n i F = some r) : inb i n = true ∧ F (ga σ k i) = some r := by
  unfold rda at h
  split at h
  · exact ⟨by assumption, h⟩
  · cases h
theorem rdl_h {σ : SH} {k n : Nat} {i : Int32} {F : Int64 → Option β} {r : β} (h : rdl σ k n i F = some r) : inb i n = true ∧ F (gl σ k i) = some r := by
  unfold rdl at h
  split at h
  · exact ⟨by assumption, h⟩
  · cases h
theorem wra_h {σ : SH} {k n : Nat} {i v : Int32} {F : SH → Option β} {r : β} (h : wra σ k n i v F = some r) : inb i n = true ∧ F (sa σ k i v) = some r := by
  unfold wra at h
  split at h
  · exact ⟨by assumption, h⟩
  · cases h
theorem wrl_h {σ : SH} {k n : Nat} {i : Int32} {v : Int64} {F : SH → Option β} {r : β} (h : wrl σ k n i v F = some r) : inb i n = true ∧ F (sl σ k i v) = some r := by
  unfold wrl at h
  split at h
  · exact ⟨by assumption, h⟩
  · cases h
theorem gdb_h {b : Bool} {x : Option β} {r : β} (h : gdb b x = some r) : b = true ∧ x = some r := by
  unfold gdb at h
  split at h
  · exact ⟨by assumption, h⟩
  · cases h
theorem bnd_h {c : Option (α × SH)} {F : α → SH → Option β} {r : β} (h : bnd c F = some r) : ∃ a σ, c = some (a, σ) ∧ F a σ = some r := by
  unfold bnd at h
  split at h
  · cases h
  · exact ⟨_, _, rfl, h⟩
theorem bndX_h {c : Option ((String ⊕ α) × SH)} {F : α → SH → Option ((String ⊕ β) × SH)} {r : (String ⊕ β) × SH} (h : bndX c F = some r) : (∃ a σ, c = some (.inr a, σ) ∧ F a σ = some r) ∨ ∃ E σ, c = some (.inl E, σ) ∧ r = (.inl E, σ) := by
  unfold bndX at h
  split at h
  · cases h
  · exact Or.inr ⟨_, _, rfl, (Option.some.inj h).symm⟩
  · exact Or.inl ⟨_, _, rfl, h⟩
end PureSteps
/-! ===== a method's start and end over a world that a state fills ===== -/
def cP (D : va_G) (cl : List vw_C) (tys : List (ClassId × FieldType)) (ww : va_W) (sz : Nat) (av : List Value) : Array Value → State → Prop := va_Pc av (fun U => U.heap.size = sz ∧ va_P D cl ww U.heap ∧ va_K D cl tys U ∧ va_D (fun _ => True) ww)
def cPX (X : (Nat → Prop) → State → Prop) (D : va_G) (cl : List vw_C) (tys : List (ClassId × FieldType)) (ww : va_W) (sz : Nat) (av : List Value) : Array Value → State → Prop := va_Pc av (fun U => U.heap.size = sz ∧ va_P D cl ww U.heap ∧ va_K D cl tys U ∧ va_D (fun _ => True) ww ∧ X (va_A ww sz) U)
theorem cP_blind {D : va_G} {cl : List vw_C} {tys : List (ClassId × FieldType)} {ww : va_W} {sz : Nat} {av : List Value} : FrameBlind (cP D cl tys ww sz av) := by
  intro a U g mk q
  obtain ⟨q0, q1, qP, qK, qD⟩ := q
  exact ⟨q0, q1, qP, va_K.moved (u := U) (U := U.calling g mk a) (Vm.Alike.refl U.vm) qK, qD⟩
abbrev cQi (D : va_G) (cl : List vw_C) (w : SH → va_W) (σ : SH) (sz : Nat) (r : Int32 × SH) : Array Value → State → Outcome → State → Prop := va_Qi (fun v u => (v, u) = r) (fun u t => va_P D cl (w u) t.heap) (va_A (w σ) sz)
abbrev cQl (D : va_G) (cl : List vw_C) (w : SH → va_W) (σ : SH) (sz : Nat) (r : Int64 × SH) : Array Value → State → Outcome → State → Prop := va_Ql (fun v u => (v, u) = r) (fun u t => va_P D cl (w u) t.heap) (va_A (w σ) sz)
abbrev cQv (D : va_G) (cl : List vw_C) (w : SH → va_W) (σ : SH) (sz : Nat) (r : Unit × SH) : Array Value → State → Outcome → State → Prop := va_Qv (fun u => ((), u) = r) (fun u t => va_P D cl (w u) t.heap) (va_A (w σ) sz)
/-- the same addresses, whatever the state -/
def wSame (w : SH → va_W) : Prop := ∀ σ σ' : SH, (w σ).map Prod.fst = (w σ').map Prod.fst
theorem wSame.at {w : SH → va_W} (h : wSame w) {σ σ' : SH} {k : Nat} {q : Nat × va_E} (hk : (w σ)[k]? = some q) : ∃ e, (w σ')[k]? = some (q.1, e) := by
  have h1 : ((w σ).map Prod.fst)[k]? = some q.1 := by rw [List.getElem?_map, hk]; rfl
  rw [h σ σ', List.getElem?_map] at h1
  cases h2 : (w σ')[k]? with
  | none => rw [h2] at h1; cases h1
  | some z => rw [h2] at h1; exact ⟨z.2, by rw [← Option.some.inj h1]⟩
theorem wSame.D {w : SH → va_W} (h : wSame w) {A : Nat → Prop} {σ : SH} (hD : va_D A (w σ)) (σ' : SH) : va_D A (w σ') := by
  refine ⟨fun i j x y hi hj hxy => ?_, fun k q hk => ?_⟩
  · obtain ⟨e1, h1⟩ := h.at (σ' := σ) hi
    obtain ⟨e2, h2⟩ := h.at (σ' := σ) hj
    exact hD.1 i j _ _ h1 h2 hxy
  · obtain ⟨e1, h1⟩ := h.at (σ' := σ) hk
    exact hD.2 k (q.1, e1) h1
theorem wA_sub {w : SH → va_W} {A : Nat → Prop} {σ : SH} {sz sz' : Nat} (hD : va_D A (w σ)) (hA : ∀ q, sz ≤ q → A q) (hsz : sz ≤ sz') : ∀ q, va_A (w σ) sz' q → A q := by
  intro q h
  rcases h with ⟨k, e, h⟩ | h
  · exact hD.2 k _ h
  · exact hA q (Nat.le_trans hsz h)
/-! ===== the fixed things of a walk ===== -/
def Cx (p : Program) (s : State) (m : MethodId) (args : Array Value) (c : Code) (cc : ByteArray) (nL : Nat) (Ts : List Cond) (own : String) (D : va_G) (cl : List vw_C) (tys : List (ClassId × FieldType)) (w : SH → va_W) (A : Nat → Prop) (R : Room) (fr lo : Nat) : Prop :=
  CallFix p m c cc nL s args Ts own ∧ va_K D cl tys s ∧ (∀ σ, va_D A (w σ)) ∧ (∀ q, s.heap.size ≤ q → A q) ∧ fr ≤ R.frames ∧ lo ≤ R.locals
section Rows2
variable {p : Program} {l : Launch} {e : Env} {R : Room} {s : State} {m : MethodId} {args : Array Value} {below : List Frame} {meth : Method} {c : Code} {H : Heap} {locs : List Loc} {cells slots : Nat} {Q : State → Prop}
variable {cc : ByteArray} {pc : Nat} {ls : Array Slot} {rest : List Value} {D : va_G} {cl : List vw_C} {A : Nat → Prop} {a : Nat} {tys : List (ClassId × FieldType)} {w : SH → va_W} {σ : SH} {ρ : Type} {r : ρ} {nL fr lo : Nat} {Ts : List Cond} {own : String}
theorem b_iald (C : Cx p s m args c cc nL Ts own D cl tys w A R fr lo) (hP : va_P D cl (w σ) H) {k n : Nat} {i : Int32} {F : Int32 → Option ρ} (h : rda σ k n i F = some r) {cA : ClassId} (q0 : Nat) (ha : (w σ)[q0]? = some (a, .inl (cA, n, .inl (σ.2.1 k)))) (t0 : Nat) (ht : tys[t0]? = some (cA, .int)) (hdg : decode cc pc = .ok (.iaload, 1))
    (kk : ∀ x : Int32, F x = some r → W p l e R s m args below meth c H locs cells slots Q (F0 m (pc + 1) ls (.int x :: rest))) : W p l e R s m args below meth c H locs cells slots Q (F0 m pc ls (.int i :: .ref a :: rest)) := by
  obtain ⟨hi, h⟩ := rda_h h
  exact va_iald C.1.1 C.1.2.1 C.2.1 hP q0 t0 ha ht (inb_in hi) hdg (kk _ h)
theorem b_zald (C : Cx p s m args c cc nL Ts own D cl tys w A R fr lo) (hP : va_P D cl (w σ) H) {k n : Nat} {i : Int32} {F : Int32 → Option ρ} (h : rda σ k n i F = some r) {cA : ClassId} (q0 : Nat) (ha : (w σ)[q0]? = some (a, .inl (cA, n, .inl (σ.2.1 k)))) (t0 : Nat) (ht : tys[t0]? = some (cA, .boolean)) (hdg : decode cc pc = .ok (.baload, 1))
    (kk : ∀ x : Int32, F x = some r → W p l e R s m args below meth c H locs cells slots Q (F0 m (pc + 1) ls (.int x :: rest))) : W p l e R s m args below meth c H locs cells slots Q (F0 m pc ls (.int i :: .ref a :: rest)) := by
  obtain ⟨hi, h⟩ := rda_h h
  exact va_zald C.1.1 C.1.2.1 C.2.1 hP q0 t0 ha ht (inb_in hi) hdg (kk _ h)
theorem b_lald (C : Cx p s m args c cc nL Ts own D cl tys w A R fr lo) (hP : va_P D cl (w σ) H) {k n : Nat} {i : Int32} {F : Int64 → Option ρ} (h : rdl σ k n i F = some r) {cA : ClassId} (q0 : Nat) (ha : (w σ)[q0]? = some (a, .inl (cA, n, .inr (.inl (σ.2.2 k))))) (t0 : Nat) (ht : tys[t0]? = some (cA, .long)) (hdg : decode cc pc = .ok (.laload, 1))
    (kk : ∀ x : Int64, F x = some r → W p l e R s m args below meth c H locs cells slots Q (F0 m (pc + 1) ls (.long x :: rest))) : W p l e R s m args below meth c H locs cells slots Q (F0 m pc ls (.int i :: .ref a :: rest)) := by
  obtain ⟨hi, h⟩ := rdl_h h
  exact va_lald C.1.1 C.1.2.1 C.2.1 hP q0 t0 ha ht (inb_in hi) hdg (kk _ h)
theorem b_iast (C : Cx p s m args c cc nL Ts own D cl tys w A R fr lo) (hP : va_P D cl (w σ) H) (hS : va_S A s.heap H locs) {k n : Nat} {i x : Int32} {F : SH → Option ρ} (h : wra σ k n i x F = some r) {cA : ClassId} (q0 : Nat) (ha : (w σ)[q0]? = some (a, .inl (cA, n, .inl (σ.2.1 k)))) (t0 : Nat) (ht : tys[t0]? = some (cA, .int))
    (hset : (w σ).set q0 (a, .inl (cA, n, .inl (upd (σ.2.1 k) i.toNatClampNeg x))) = w (sa σ k i x)) (hdg : decode cc pc = .ok (.iastore, 1))
    (kk : ∀ (σ1 : SH) (H1 : Heap) (locs1 : List Loc), F σ1 = some r → va_P D cl (w σ1) H1 → va_S A s.heap H1 locs1 → W p l e R s m args below meth c H1 locs1 cells slots Q (F0 m (pc + 1) ls rest)) : W p l e R s m args below meth c H locs cells slots Q (F0 m pc ls (.int x :: .int i :: .ref a :: rest)) := by
  obtain ⟨hi, h⟩ := wra_h h
  refine va_iast C.1.1 C.1.2.1 C.2.1 hP (C.2.2.1 σ) hS q0 t0 ha ht (inb_in hi) hdg (fun H1 locs1 hP1 _ hS1 => ?_)
  rw [hset] at hP1
  exact kk _ H1 locs1 h hP1 hS1
theorem b_zast (C : Cx p s m args c cc nL Ts own D cl tys w A R fr lo) (hP : va_P D cl (w σ) H) (hS : va_S A s.heap H locs) {k n : Nat} {i x : Int32} {F : SH → Option ρ} (h : wra σ k n i (vp_nar .boolean x) F = some r) {cA : ClassId} (q0 : Nat) (ha : (w σ)[q0]? = some (a, .inl (cA, n, .inl (σ.2.1 k)))) (t0 : Nat) (ht : tys[t0]? = some (cA, .boolean))
    (hset : (w σ).set q0 (a, .inl (cA, n, .inl (upd (σ.2.1 k) i.toNatClampNeg (vp_nar .boolean x)))) = w (sa σ k i (vp_nar .boolean x))) (hdg : decode cc pc = .ok (.bastore, 1))
    (kk : ∀ (σ1 : SH) (H1 : Heap) (locs1 : List Loc), F σ1 = some r → va_P D cl (w σ1) H1 → va_S A s.heap H1 locs1 → W p l e R s m args below meth c H1 locs1 cells slots Q (F0 m (pc + 1) ls rest)) : W p l e R s m args below meth c H locs cells slots Q (F0 m pc ls (.int x :: .int i :: .ref a :: rest)) := by
  obtain ⟨hi, h⟩ := wra_h h
  refine va_zast C.1.1 C.1.2.1 C.2.1 hP (C.2.2.1 σ) hS q0 t0 ha ht (inb_in hi) hdg (fun H1 locs1 hP1 _ hS1 => ?_)
  rw [hset] at hP1
  exact kk _ H1 locs1 h hP1 hS1
theorem b_last (C : Cx p s m args c cc nL Ts own D cl tys w A R fr lo) (hP : va_P D cl (w σ) H) (hS : va_S A s.heap H locs) {k n : Nat} {i : Int32} {x : Int64} {F : SH → Option ρ} (h : wrl σ k n i x F = some r) {cA : ClassId} (q0 : Nat) (ha : (w σ)[q0]? = some (a, .inl (cA, n, .inr (.inl (σ.2.2 k))))) (t0 : Nat) (ht : tys[t0]? = some (cA, .long))
    (hset : (w σ).set q0 (a, .inl (cA, n, .inr (.inl (vp_updL (σ.2.2 k) i.toNatClampNeg x)))) = w (sl σ k i x)) (hdg : decode cc pc = .ok (.lastore, 1))
    (kk : ∀ (σ1 : SH) (H1 : Heap) (locs1 : List Loc), F σ1 = some r → va_P D cl (w σ1) H1 → va_S A s.heap H1 locs1 → W p l e R s m args below meth c H1 locs1 cells slots Q (F0 m (pc + 1) ls rest)) : W p l e R s m args below meth c H locs cells slots Q (F0 m pc ls (.long x :: .int i :: .ref a :: rest)) := by
  obtain ⟨hi, h⟩ := wrl_h h
  refine va_last C.1.1 C.1.2.1 C.2.1 hP (C.2.2.1 σ) hS q0 t0 ha ht (inb_in hi) hdg (fun H1 locs1 hP1 _ hS1 => ?_)
  rw [hset] at hP1
  exact kk _ H1 locs1 h hP1 hS1
end Rows2
end
section
section Rows3
variable {p : Program} {l : Launch} {e : Env} {R : Room} {s : State} {m : MethodId} {args : Array Value} {below : List Frame} {meth : Method} {c : Code} {H : Heap} {locs : List Loc} {cells slots : Nat} {Q : State → Prop}
variable {cc : ByteArray} {pc : Nat} {ls : Array Slot} {rest st0 : List Value} {D : va_G} {cl : List vw_C} {A : Nat → Prop} {a : Nat} {tys : List (ClassId × FieldType)} {w : SH → va_W} {σ : SH} {ρ : Type} {r : ρ} {nL fr lo : Nat} {Ts : List Cond} {own : String}
theorem ite_h {c0 : Prop} [Decidable c0] {X Y : Option ρ} (h : (if c0 then X else Y) = some r) : (c0 → X = some r) ∧ (¬ c0 → Y = some r) := by
  refine ⟨fun hc => ?_, fun hc => ?_⟩
  · rw [if_pos hc] at h; exact h
  · rw [if_neg hc] at h; exact h
theorem b_getr (C : Cx p s m args c cc nL Ts own D cl tys w A R fr lo) (hP : va_P D cl (w σ) H) {ref Cn : String} {T : u_T} {N ci index : Nat} (hin : ∀ x ∈ u_ws Cn T N, x ∈ Ts) (q0 : Nat) {fs : List Value} (he : (w σ)[q0]? = some (a, .inr (ci, fs))) (hc : cl[ci]? = some (Cn, T, N)) (j : Nat) (hj : j < N) (hlink : Cond.fieldLink own index ref (T j).2.1 (T j).2.2.1 ∈ Ts) (href : (T j).1 = ref) {v : Value} (hv : fs[j]? = some v) (hdg : decode cc pc = .ok (.getfield index, 3))
    (kk : W p l e R s m args below meth c H locs cells slots Q (F0 m (pc + 3) ls (v :: rest))) : W p l e R s m args below meth c H locs cells slots Q (F0 m pc ls (.ref a :: rest)) := by
  subst href
  exact va_get C.1.1 C.1.2.1 C.1.2.2.2.2 hin C.1.2.2.2.1 C.2.1 hP q0 he hc j hj (C.1.2.2.2.2 _ hlink) (fun _ h => h) hv hdg kk
theorem b_geti (C : Cx p s m args c cc nL Ts own D cl tys w A R fr lo) (hP : va_P D cl (w σ) H) {k : Nat} {F : Int32 → Option ρ} (h : rdi σ k F = some r) {ref Cn : String} {T : u_T} {N ci index : Nat} (hin : ∀ x ∈ u_ws Cn T N, x ∈ Ts) (q0 : Nat) {fs : List Value} (he : (w σ)[q0]? = some (a, .inr (ci, fs))) (hc : cl[ci]? = some (Cn, T, N)) (j : Nat) (hj : j < N) (hlink : Cond.fieldLink own index ref (T j).2.1 (T j).2.2.1 ∈ Ts) (href : (T j).1 = ref) (hv : fs[j]? = some (.int (σ.1 k))) (hdg : decode cc pc = .ok (.getfield index, 3))
    (kk : ∀ x : Int32, F x = some r → W p l e R s m args below meth c H locs cells slots Q (F0 m (pc + 3) ls (.int x :: rest))) : W p l e R s m args below meth c H locs cells slots Q (F0 m pc ls (.ref a :: rest)) :=
  b_getr C hP hin q0 he hc j hj hlink href hv hdg (kk _ h)
theorem b_puti (C : Cx p s m args c cc nL Ts own D cl tys w A R fr lo) (hP : va_P D cl (w σ) H) (hS : va_S A s.heap H locs) {k : Nat} {v : Int32} {F : SH → Option ρ} (h : wri σ k v F = some r) {ref Cn : String} {T : u_T} {N ci index : Nat} (hin : ∀ x ∈ u_ws Cn T N, x ∈ Ts) (ty0 : Nat → FieldType) (hty : ∀ k, k < N → parseFieldDescriptor (T k).2.2.1 = some (ty0 k)) (hnm : ∀ a, a < N → ∀ b, b < N → a ≠ b → (T a).2.1 ≠ (T b).2.1)
    (q0 : Nat) {fs : List Value} (he : (w σ)[q0]? = some (a, .inr (ci, fs))) (hc : cl[ci]? = some (Cn, T, N)) (j : Nat) (hj : j < N) (hlink : Cond.fieldLink own index ref (T j).2.1 (T j).2.2.1 ∈ Ts) (href : (T j).1 = ref) (hfin : (T j).2.2.2 = false) (hint : ty0 j = .int) (hl : j < fs.length)
    (hset : (w σ).set q0 (a, .inr (ci, fs.set j (.int v))) = w (si σ k v)) (hdg : decode cc pc = .ok (.putfield index, 3))
    (kk : ∀ (σ1 : SH) (H1 : Heap) (locs1 : List Loc), F σ1 = some r → va_P D cl (w σ1) H1 → va_S A s.heap H1 locs1 → W p l e R s m args below meth c H1 locs1 cells slots Q (F0 m (pc + 3) ls rest)) : W p l e R s m args below meth c H locs cells slots Q (F0 m pc ls (.int v :: .ref a :: rest)) := by
  subst href
  refine va_put C.1.1 C.1.2.1 C.1.2.2.2.2 hin ty0 hty hnm C.1.2.2.2.1 C.2.1 hP (C.2.2.1 σ) hS q0 he hc j hj (C.1.2.2.2.2 _ hlink) (fun _ h => h) hfin (ty := .int) (by rw [hty j hj, hint]) rfl rfl hl hdg (fun H1 locs1 hP1 _ hS1 => ?_)
  rw [hset] at hP1
  exact kk _ H1 locs1 h hP1 hS1
theorem pre_U (C : Cx p s m args c cc nL Ts own D cl tys w A R fr lo) (hP : va_P D cl (w σ) H) (av : List Value) : ∀ U : State, U.heap = H → s.WarmedH U.vm → cP D cl tys (w σ) H.size av av.toArray U := fun U hU hW => ⟨rfl, by rw [hU], by rw [hU]; exact hP, va_K.moved hW.alike C.2.1, (C.2.2.1 σ).weaken (fun _ _ _ _ => trivial)⟩

theorem b_callVi (C : Cx p s m args c cc nL Ts own D cl tys w A R fr lo) (hP : va_P D cl (w σ) H) (hS : va_S A s.heap H locs) {callee : Option (Int32 × SH)} {F : Int32 → SH → Option ρ} (h : bnd callee F = some r) {y : MethodName} {ws : List Cond} {rm : Room} {bytes : ByteArray} {maxL n index : Nat} {ret : Option FieldType} {As : List Value} {b : Nat} {Cn : String} 
    (hM : ∀ (q : Int32 × SH) (sz : Nat), callee = some q → Met l y ws rm (cP D cl tys (w σ) sz (.ref b :: As)) (cQi D cl w σ sz q) 0 0 (va_A (w σ) sz)) (cw : CallW R s args own Cn index y bytes maxL ret ws rm 0 0 n) (hrecv : ∃ cell : Cell, H[b]? = some cell ∧ cell.vm.isStatics = false ∧ s.vm.findClass Cn = some cell.cls) (hn : As.length = n) (hsize : ls.size = nL) (hst : st0 = As.reverse ++ .ref b :: rest) (hWr : (rest.map fun v => v.category).sum ≤ 8) (hdg : decode cc pc = .ok (.invokevirtual index, 3))
    (kk : ∀ (v : Int32) (σ1 : SH) (H1 : Heap) (locs1 : List Loc), F v σ1 = some r → va_P D cl (w σ1) H1 → va_S A s.heap H1 locs1 → W p l e R s m args below meth c H1 locs1 0 0 Q (F0 m (pc + 3) ls (.int v :: rest))) : W p l e R s m args below meth c H locs 0 0 Q (F0 m pc ls st0) := by
  obtain ⟨v, σ1, hc, h⟩ := bnd_h h
  refine va_calli (va_runV (As := As) (rest := rest) C.1 (hM _ H.size hc) cw ⟨cP_blind, hrecv, pre_U C hP (.ref b :: As)⟩ rfl hn hsize hst (lv_room hWr) hdg ⟨Nat.zero_le _, Nat.zero_le _⟩) hS (fun q _ h => wA_sub (C.2.2.1 σ) C.2.2.2.1 hS.1 q h) (wA_sub (C.2.2.1 σ) C.2.2.2.1 hS.1) (fun r1 u t H1 locs1 ht hvm hw hB hz1 hk1 hS1 => ?_)
  cases hw
  rw [ht] at hB
  exact kk _ _ H1 locs1 h hB hS1

theorem b_callVl (C : Cx p s m args c cc nL Ts own D cl tys w A R fr lo) (hP : va_P D cl (w σ) H) (hS : va_S A s.heap H locs) {callee : Option (Int64 × SH)} {F : Int64 → SH → Option ρ} (h : bnd callee F = some r) {y : MethodName} {ws : List Cond} {rm : Room} {bytes : ByteArray} {maxL n index : Nat} {ret : Option FieldType} {As : List Value} {b : Nat} {Cn : String} 
    (hM : ∀ (q : Int64 × SH) (sz : Nat), callee = some q → Met l y ws rm (cP D cl tys (w σ) sz (.ref b :: As)) (cQl D cl w σ sz q) 0 0 (va_A (w σ) sz)) (cw : CallW R s args own Cn index y bytes maxL ret ws rm 0 0 n) (hrecv : ∃ cell : Cell, H[b]? = some cell ∧ cell.vm.isStatics = false ∧ s.vm.findClass Cn = some cell.cls) (hn : As.length = n) (hsize : ls.size = nL) (hst : st0 = As.reverse ++ .ref b :: rest) (hWr : (rest.map fun v => v.category).sum ≤ 8) (hdg : decode cc pc = .ok (.invokevirtual index, 3))
    (kk : ∀ (v : Int64) (σ1 : SH) (H1 : Heap) (locs1 : List Loc), F v σ1 = some r → va_P D cl (w σ1) H1 → va_S A s.heap H1 locs1 → W p l e R s m args below meth c H1 locs1 0 0 Q (F0 m (pc + 3) ls (.long v :: rest))) : W p l e R s m args below meth c H locs 0 0 Q (F0 m pc ls st0) := by
  obtain ⟨v, σ1, hc, h⟩ := bnd_h h
  refine va_calll (va_runV (As := As) (rest := rest) C.1 (hM _ H.size hc) cw ⟨cP_blind, hrecv, pre_U C hP (.ref b :: As)⟩ rfl hn hsize hst (lv_room hWr) hdg ⟨Nat.zero_le _, Nat.zero_le _⟩) hS (fun q _ h => wA_sub (C.2.2.1 σ) C.2.2.2.1 hS.1 q h) (wA_sub (C.2.2.1 σ) C.2.2.2.1 hS.1) (fun r1 u t H1 locs1 ht hvm hw hB hz1 hk1 hS1 => ?_)
  cases hw
  rw [ht] at hB
  exact kk _ _ H1 locs1 h hB hS1

theorem b_callVv (C : Cx p s m args c cc nL Ts own D cl tys w A R fr lo) (hP : va_P D cl (w σ) H) (hS : va_S A s.heap H locs) {callee : Option (Unit × SH)} {F : Unit → SH → Option ρ} (h : bnd callee F = some r) {y : MethodName} {ws : List Cond} {rm : Room} {bytes : ByteArray} {maxL n index : Nat} {ret : Option FieldType} {As : List Value} {b : Nat} {Cn : String} 
    (hM : ∀ (q : Unit × SH) (sz : Nat), callee = some q → Met l y ws rm (cP D cl tys (w σ) sz (.ref b :: As)) (cQv D cl w σ sz q) 0 0 (va_A (w σ) sz)) (cw : CallW R s args own Cn index y bytes maxL ret ws rm 0 0 n) (hrecv : ∃ cell : Cell, H[b]? = some cell ∧ cell.vm.isStatics = false ∧ s.vm.findClass Cn = some cell.cls) (hn : As.length = n) (hsize : ls.size = nL) (hst : st0 = As.reverse ++ .ref b :: rest) (hWr : (rest.map fun v => v.category).sum ≤ 8) (hdg : decode cc pc = .ok (.invokevirtual index, 3))
    (kk : ∀ (v : Unit) (σ1 : SH) (H1 : Heap) (locs1 : List Loc), F v σ1 = some r → va_P D cl (w σ1) H1 → va_S A s.heap H1 locs1 → W p l e R s m args below meth c H1 locs1 0 0 Q (F0 m (pc + 3) ls (rest))) : W p l e R s m args below meth c H locs 0 0 Q (F0 m pc ls st0) := by
  obtain ⟨v, σ1, hc, h⟩ := bnd_h h
  refine va_callv (va_runV (As := As) (rest := rest) C.1 (hM _ H.size hc) cw ⟨cP_blind, hrecv, pre_U C hP (.ref b :: As)⟩ rfl hn hsize hst (lv_room hWr) hdg ⟨Nat.zero_le _, Nat.zero_le _⟩) hS (fun q _ h => wA_sub (C.2.2.1 σ) C.2.2.2.1 hS.1 q h) (wA_sub (C.2.2.1 σ) C.2.2.2.1 hS.1) (fun u t H1 locs1 ht hvm hw hB hz1 hk1 hS1 => ?_)
  cases hw
  rw [ht] at hB
  exact kk _ _ H1 locs1 h hB hS1

theorem b_callSi (C : Cx p s m args c cc nL Ts own D cl tys w A R fr lo) (hP : va_P D cl (w σ) H) (hS : va_S A s.heap H locs) {callee : Option (Int32 × SH)} {F : Int32 → SH → Option ρ} (h : bnd callee F = some r) {y : MethodName} {ws : List Cond} {rm : Room} {bytes : ByteArray} {maxL n index : Nat} {ret : Option FieldType} {As : List Value} 
    (hM : ∀ (q : Int32 × SH) (sz : Nat), callee = some q → Met l y ws rm (cP D cl tys (w σ) sz As) (cQi D cl w σ sz q) 0 0 (va_A (w σ) sz)) (cw : CallB R s args own index y bytes maxL ret ws rm 0 0 n ∧ (Cond.static y).before args s = true) (hn : As.length = n) (hsize : ls.size = nL) (hst : st0 = As.reverse ++ rest) (hWr : (rest.map fun v => v.category).sum ≤ 8) (hdg : decode cc pc = .ok (.invokestatic index, 3))
    (kk : ∀ (v : Int32) (σ1 : SH) (H1 : Heap) (locs1 : List Loc), F v σ1 = some r → va_P D cl (w σ1) H1 → va_S A s.heap H1 locs1 → W p l e R s m args below meth c H1 locs1 0 0 Q (F0 m (pc + 3) ls (.int v :: rest))) : W p l e R s m args below meth c H locs 0 0 Q (F0 m pc ls st0) := by
  obtain ⟨v, σ1, hc, h⟩ := bnd_h h
  refine va_calli (va_runS (As := As) (rest := rest) C.1 (hM _ H.size hc) cw ⟨cP_blind, pre_U C hP As⟩ rfl hn hsize hst (lv_room hWr) hdg ⟨Nat.zero_le _, Nat.zero_le _⟩) hS (fun q _ h => wA_sub (C.2.2.1 σ) C.2.2.2.1 hS.1 q h) (wA_sub (C.2.2.1 σ) C.2.2.2.1 hS.1) (fun r1 u t H1 locs1 ht hvm hw hB hz1 hk1 hS1 => ?_)
  cases hw
  rw [ht] at hB
  exact kk _ _ H1 locs1 h hB hS1

theorem b_callSl (C : Cx p s m args c cc nL Ts own D cl tys w A R fr lo) (hP : va_P D cl (w σ) H) (hS : va_S A s.heap H locs) {callee : Option (Int64 × SH)} {F : Int64 → SH → Option ρ} (h : bnd callee F = some r) {y : MethodName} {ws : List Cond} {rm : Room} {bytes : ByteArray} {maxL n index : Nat} {ret : Option FieldType} {As : List Value} 
    (hM : ∀ (q : Int64 × SH) (sz : Nat), callee = some q → Met l y ws rm (cP D cl tys (w σ) sz As) (cQl D cl w σ sz q) 0 0 (va_A (w σ) sz)) (cw : CallB R s args own index y bytes maxL ret ws rm 0 0 n ∧ (Cond.static y).before args s = true) (hn : As.length = n) (hsize : ls.size = nL) (hst : st0 = As.reverse ++ rest) (hWr : (rest.map fun v => v.category).sum ≤ 8) (hdg : decode cc pc = .ok (.invokestatic index, 3))
    (kk : ∀ (v : Int64) (σ1 : SH) (H1 : Heap) (locs1 : List Loc), F v σ1 = some r → va_P D cl (w σ1) H1 → va_S A s.heap H1 locs1 → W p l e R s m args below meth c H1 locs1 0 0 Q (F0 m (pc + 3) ls (.long v :: rest))) : W p l e R s m args below meth c H locs 0 0 Q (F0 m pc ls st0) := by
  obtain ⟨v, σ1, hc, h⟩ := bnd_h h
  refine va_calll (va_runS (As := As) (rest := rest) C.1 (hM _ H.size hc) cw ⟨cP_blind, pre_U C hP As⟩ rfl hn hsize hst (lv_room hWr) hdg ⟨Nat.zero_le _, Nat.zero_le _⟩) hS (fun q _ h => wA_sub (C.2.2.1 σ) C.2.2.2.1 hS.1 q h) (wA_sub (C.2.2.1 σ) C.2.2.2.1 hS.1) (fun r1 u t H1 locs1 ht hvm hw hB hz1 hk1 hS1 => ?_)
  cases hw
  rw [ht] at hB
  exact kk _ _ H1 locs1 h hB hS1

theorem b_callSv (C : Cx p s m args c cc nL Ts own D cl tys w A R fr lo) (hP : va_P D cl (w σ) H) (hS : va_S A s.heap H locs) {callee : Option (Unit × SH)} {F : Unit → SH → Option ρ} (h : bnd callee F = some r) {y : MethodName} {ws : List Cond} {rm : Room} {bytes : ByteArray} {maxL n index : Nat} {ret : Option FieldType} {As : List Value} 
    (hM : ∀ (q : Unit × SH) (sz : Nat), callee = some q → Met l y ws rm (cP D cl tys (w σ) sz As) (cQv D cl w σ sz q) 0 0 (va_A (w σ) sz)) (cw : CallB R s args own index y bytes maxL ret ws rm 0 0 n ∧ (Cond.static y).before args s = true) (hn : As.length = n) (hsize : ls.size = nL) (hst : st0 = As.reverse ++ rest) (hWr : (rest.map fun v => v.category).sum ≤ 8) (hdg : decode cc pc = .ok (.invokestatic index, 3))
    (kk : ∀ (v : Unit) (σ1 : SH) (H1 : Heap) (locs1 : List Loc), F v σ1 = some r → va_P D cl (w σ1) H1 → va_S A s.heap H1 locs1 → W p l e R s m args below meth c H1 locs1 0 0 Q (F0 m (pc + 3) ls (rest))) : W p l e R s m args below meth c H locs 0 0 Q (F0 m pc ls st0) := by
  obtain ⟨v, σ1, hc, h⟩ := bnd_h h
  refine va_callv (va_runS (As := As) (rest := rest) C.1 (hM _ H.size hc) cw ⟨cP_blind, pre_U C hP As⟩ rfl hn hsize hst (lv_room hWr) hdg ⟨Nat.zero_le _, Nat.zero_le _⟩) hS (fun q _ h => wA_sub (C.2.2.1 σ) C.2.2.2.1 hS.1 q h) (wA_sub (C.2.2.1 σ) C.2.2.2.1 hS.1) (fun u t H1 locs1 ht hvm hw hB hz1 hk1 hS1 => ?_)
  cases hw
  rw [ht] at hB
  exact kk _ _ H1 locs1 h hB hS1

/-- what a walk needs at a return -/
def Ri (p : Program) (l : Launch) (e : Env) (R : Room) (s : State) (m : MethodId) (args : Array Value) (below : List Frame) (meth : Method) (c : Code) (cc : ByteArray) (D : va_G) (cl : List vw_C) (w : SH → va_W) (A : Nat → Prop) (Q : State → Prop) (r : Int32 × SH) : Prop :=
  ∀ (pc : Nat) (H : Heap) (locs : List Loc) (ls : Array Slot) (σ1 : SH) (v : Int32) , r = (v, σ1) → decode cc pc = .ok (.ireturn, 1) → va_P D cl (w σ1) H → va_S A s.heap H locs → W p l e R s m args below meth c H locs 0 0 Q (F0 m pc ls [.int v])

/-- what a walk needs at a return -/
def Rl (p : Program) (l : Launch) (e : Env) (R : Room) (s : State) (m : MethodId) (args : Array Value) (below : List Frame) (meth : Method) (c : Code) (cc : ByteArray) (D : va_G) (cl : List vw_C) (w : SH → va_W) (A : Nat → Prop) (Q : State → Prop) (r : Int64 × SH) : Prop :=
  ∀ (pc : Nat) (H : Heap) (locs : List Loc) (ls : Array Slot) (σ1 : SH) (v : Int64) , r = (v, σ1) → decode cc pc = .ok (.lreturn, 1) → va_P D cl (w σ1) H → va_S A s.heap H locs → W p l e R s m args below meth c H locs 0 0 Q (F0 m pc ls [.long v])

/-- what a walk needs at a return -/
def Rv (p : Program) (l : Launch) (e : Env) (R : Room) (s : State) (m : MethodId) (args : Array Value) (below : List Frame) (meth : Method) (c : Code) (cc : ByteArray) (D : va_G) (cl : List vw_C) (w : SH → va_W) (A : Nat → Prop) (Q : State → Prop) (r : Unit × SH) : Prop :=
  ∀ (pc : Nat) (H : Heap) (locs : List Loc) (ls : Array Slot) (σ1 : SH) , r = ((), σ1) → decode cc pc = .ok (.return_, 1) → va_P D cl (w σ1) H → va_S A s.heap H locs → W p l e R s m args below meth c H locs 0 0 Q (F0 m pc ls [])

theorem ofW_i {y : MethodName} {ws ws' : List Cond} {rm : Room} {maxL : Nat} {av : List Value} (hy : plainName y.cls = true) (hw : ws = Cond.code y cc maxL (some .int) :: ws') (hwS : wSame w) (hlen : (lg_sl av).length ≤ maxL) {q : Int32 × SH} {sz : Nat}
    (body : ∀ (p : Program) (e : Env) (s : State) (m : MethodId) (below : List Frame) (meth : Method) (c : Code) (ls : Array Slot), s.heap.size = sz → Cx p s m av.toArray c cc maxL ws y.cls D cl tys w (va_A (w σ) sz) rm rm.frames rm.locals → Ri p l e rm s m av.toArray below meth c cc D cl w (va_A (w σ) sz) (MQ below (cQi D cl w σ sz q) av.toArray s 0 0 (va_A (w σ) sz)) q → va_P D cl (w σ) s.heap → lv_has ls maxL (lv_args 0 av) →
      W p l e rm s m av.toArray below meth c s.heap [] 0 0 (MQ below (cQi D cl w σ sz q) av.toArray s 0 0 (va_A (w σ) sz)) (F0 m 0 ls [])) : Met l y ws rm (cP D cl tys (w σ) sz av) (cQi D cl w σ sz q) 0 0 (va_A (w σ) sz) := by
  refine Met.ofW (cc := cc) (maxL := maxL) (ret := some .int) hy hw ?_
  intro p e s m args below meth c s₁ B hml hv
  obtain ⟨rfl, hsz, hP, hK, hD0⟩ := hv
  have hlocks := B.notSynchronized
  subst hsz
  rw [lg_entry_eq]
  refine body p e s m below meth c _ rfl ⟨⟨B.exec, B.bytes, hml, findClass_of_methodNamed B.named, atoms_spec (ws := ws) B.pre⟩, hK, fun σ' => hwS.D (hD0.self (sz := s.heap.size)) σ', fun q h => Or.inr h, Nat.le_refl _, Nat.le_refl _⟩ ?_ hP (lv_entry av hlen)
  intro pc H locs ls σ1 v hq hdg hP1 hS1
  exact W.iret B.exec B.bytes B.returns (fun t ht _ => ⟨⟨v, σ1, rfl, hq.symm, by show va_P D cl (w σ1) t.heap; rw [ht]; exact hP1⟩, hS1.F ht⟩) hS1.2.2 hdg

theorem ofW_l {y : MethodName} {ws ws' : List Cond} {rm : Room} {maxL : Nat} {av : List Value} (hy : plainName y.cls = true) (hw : ws = Cond.code y cc maxL (some .long) :: ws') (hwS : wSame w) (hlen : (lg_sl av).length ≤ maxL) {q : Int64 × SH} {sz : Nat}
    (body : ∀ (p : Program) (e : Env) (s : State) (m : MethodId) (below : List Frame) (meth : Method) (c : Code) (ls : Array Slot), s.heap.size = sz → Cx p s m av.toArray c cc maxL ws y.cls D cl tys w (va_A (w σ) sz) rm rm.frames rm.locals → Rl p l e rm s m av.toArray below meth c cc D cl w (va_A (w σ) sz) (MQ below (cQl D cl w σ sz q) av.toArray s 0 0 (va_A (w σ) sz)) q → va_P D cl (w σ) s.heap → lv_has ls maxL (lv_args 0 av) →
      W p l e rm s m av.toArray below meth c s.heap [] 0 0 (MQ below (cQl D cl w σ sz q) av.toArray s 0 0 (va_A (w σ) sz)) (F0 m 0 ls [])) : Met l y ws rm (cP D cl tys (w σ) sz av) (cQl D cl w σ sz q) 0 0 (va_A (w σ) sz) := by
  refine Met.ofW (cc := cc) (maxL := maxL) (ret := some .long) hy hw ?_
  intro p e s m args below meth c s₁ B hml hv
  obtain ⟨rfl, hsz, hP, hK, hD0⟩ := hv
  have hlocks := B.notSynchronized
  subst hsz
  rw [lg_entry_eq]
  refine body p e s m below meth c _ rfl ⟨⟨B.exec, B.bytes, hml, findClass_of_methodNamed B.named, atoms_spec (ws := ws) B.pre⟩, hK, fun σ' => hwS.D (hD0.self (sz := s.heap.size)) σ', fun q h => Or.inr h, Nat.le_refl _, Nat.le_refl _⟩ ?_ hP (lv_entry av hlen)
  intro pc H locs ls σ1 v hq hdg hP1 hS1
  exact W.lret B.exec B.bytes B.returns (fun t ht _ => ⟨⟨v, σ1, rfl, hq.symm, by show va_P D cl (w σ1) t.heap; rw [ht]; exact hP1⟩, hS1.F ht⟩) hS1.2.2 hdg

theorem ofW_v {y : MethodName} {ws ws' : List Cond} {rm : Room} {maxL : Nat} {av : List Value} (hy : plainName y.cls = true) (hw : ws = Cond.code y cc maxL (none) :: ws') (hwS : wSame w) (hlen : (lg_sl av).length ≤ maxL) {q : Unit × SH} {sz : Nat}
    (body : ∀ (p : Program) (e : Env) (s : State) (m : MethodId) (below : List Frame) (meth : Method) (c : Code) (ls : Array Slot), s.heap.size = sz → Cx p s m av.toArray c cc maxL ws y.cls D cl tys w (va_A (w σ) sz) rm rm.frames rm.locals → Rv p l e rm s m av.toArray below meth c cc D cl w (va_A (w σ) sz) (MQ below (cQv D cl w σ sz q) av.toArray s 0 0 (va_A (w σ) sz)) q → va_P D cl (w σ) s.heap → lv_has ls maxL (lv_args 0 av) →
      W p l e rm s m av.toArray below meth c s.heap [] 0 0 (MQ below (cQv D cl w σ sz q) av.toArray s 0 0 (va_A (w σ) sz)) (F0 m 0 ls [])) : Met l y ws rm (cP D cl tys (w σ) sz av) (cQv D cl w σ sz q) 0 0 (va_A (w σ) sz) := by
  refine Met.ofW (cc := cc) (maxL := maxL) (ret := none) hy hw ?_
  intro p e s m args below meth c s₁ B hml hv
  obtain ⟨rfl, hsz, hP, hK, hD0⟩ := hv
  have hlocks := B.notSynchronized
  subst hsz
  rw [lg_entry_eq]
  refine body p e s m below meth c _ rfl ⟨⟨B.exec, B.bytes, hml, findClass_of_methodNamed B.named, atoms_spec (ws := ws) B.pre⟩, hK, fun σ' => hwS.D (hD0.self (sz := s.heap.size)) σ', fun q h => Or.inr h, Nat.le_refl _, Nat.le_refl _⟩ ?_ hP (lv_entry av hlen)
  intro pc H locs ls σ1 hq hdg hP1 hS1
  exact W.vret B.exec B.bytes B.returns (fun t ht _ => ⟨⟨σ1, rfl, hq.symm, by show va_P D cl (w σ1) t.heap; rw [ht]; exact hP1⟩, hS1.F ht⟩) hS1.2.2 hdg

/-- .. of a boolean answer -/
def Rz (p : Program) (l : Launch) (e : Env) (R : Room) (s : State) (m : MethodId) (args : Array Value) (below : List Frame) (meth : Method) (c : Code) (cc : ByteArray) (D : va_G) (cl : List vw_C) (w : SH → va_W) (A : Nat → Prop) (Q : State → Prop) (r : Int32 × SH) : Prop :=
  ∀ (pc : Nat) (H : Heap) (locs : List Loc) (ls : Array Slot) (σ1 : SH) (v : Int32), gdb (isB v) (some (v, σ1)) = some r → decode cc pc = .ok (.ireturn, 1) → va_P D cl (w σ1) H → va_S A s.heap H locs → W p l e R s m args below meth c H locs 0 0 Q (F0 m pc ls [.int v])

theorem ofW_z {y : MethodName} {ws ws' : List Cond} {rm : Room} {maxL : Nat} {av : List Value} (hy : plainName y.cls = true) (hw : ws = Cond.code y cc maxL (some .boolean) :: ws') (hwS : wSame w) (hlen : (lg_sl av).length ≤ maxL) {q : Int32 × SH} {sz : Nat}
    (body : ∀ (p : Program) (e : Env) (s : State) (m : MethodId) (below : List Frame) (meth : Method) (c : Code) (ls : Array Slot), s.heap.size = sz → Cx p s m av.toArray c cc maxL ws y.cls D cl tys w (va_A (w σ) sz) rm rm.frames rm.locals → Rz p l e rm s m av.toArray below meth c cc D cl w (va_A (w σ) sz) (MQ below (cQi D cl w σ sz q) av.toArray s 0 0 (va_A (w σ) sz)) q → va_P D cl (w σ) s.heap → lv_has ls maxL (lv_args 0 av) →
      W p l e rm s m av.toArray below meth c s.heap [] 0 0 (MQ below (cQi D cl w σ sz q) av.toArray s 0 0 (va_A (w σ) sz)) (F0 m 0 ls [])) : Met l y ws rm (cP D cl tys (w σ) sz av) (cQi D cl w σ sz q) 0 0 (va_A (w σ) sz) := by
  refine Met.ofW (cc := cc) (maxL := maxL) (ret := some .boolean) hy hw ?_
  intro p e s m args below meth c s₁ B hml hv
  obtain ⟨rfl, hsz, hP, hK, hD0⟩ := hv
  have hlocks := B.notSynchronized
  subst hsz
  rw [lg_entry_eq]
  refine body p e s m below meth c _ rfl ⟨⟨B.exec, B.bytes, hml, findClass_of_methodNamed B.named, atoms_spec (ws := ws) B.pre⟩, hK, fun σ' => hwS.D (hD0.self (sz := s.heap.size)) σ', fun q h => Or.inr h, Nat.le_refl _, Nat.le_refl _⟩ ?_ hP (lv_entry av hlen)
  intro pc H locs ls σ1 v hq hdg hP1 hS1
  exact W.zret B.exec B.bytes B.returns (isB_nar (gdb_h hq).1) (fun t ht _ => ⟨⟨v, σ1, rfl, Option.some.inj (gdb_h hq).2, by show va_P D cl (w σ1) t.heap; rw [ht]; exact hP1⟩, hS1.F ht⟩) hS1.2.2 hdg

end Rows3
end
