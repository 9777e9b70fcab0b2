section
/-! ===== a system's state: its int fields, its int rows, its long rows, each by a number; the steps that its methods take ===== -/
abbrev SH : Type := (Nat → Int32) × (Nat → Nat → Int32) × (Nat → Nat → Int64)
def gi (σ : SH) (k : Nat) : Int32 := σ.1 k
def ga (σ : SH) (k : Nat) (i : Int32) : Int32 := σ.2.1 k i.toNatClampNeg
def gl (σ : SH) (k : Nat) (i : Int32) : Int64 := σ.2.2 k i.toNatClampNeg
def si (σ : SH) (k : Nat) (v : Int32) : SH := (upd σ.1 k v, σ.2.1, σ.2.2)
def sa (σ : SH) (k : Nat) (i v : Int32) : SH := (σ.1, fun j => if j = k then upd (σ.2.1 k) i.toNatClampNeg v else σ.2.1 j, σ.2.2)
def sl (σ : SH) (k : Nat) (i : Int32) (v : Int64) : SH := (σ.1, σ.2.1, fun j => if j = k then vp_updL (σ.2.2 k) i.toNatClampNeg v else σ.2.2 j)
def inb (i : Int32) (n : Nat) : Bool := decide (0 ≤ i.toInt) && decide (i.toInt < n)
theorem inb_in {i : Int32} {n : Nat} (h : inb i n = true) : vp_in i n := by
  rw [inb, Bool.and_eq_true, decide_eq_true_eq, decide_eq_true_eq] at h
  exact vp_in_iff.mpr h
def isB (v : Int32) : Bool := decide (v &&& 1 = v)
theorem isB_nar {v : Int32} (h : isB v = true) : narrow .boolean (.int v) = .int v := by
  rw [isB, decide_eq_true_eq] at h
  show Value.int (v &&& 1) = _
  rw [h]
section PureSteps
variable {α β : Type}
def rda (σ : SH) (k n : Nat) (i : Int32) (F : Int32 → Option β) : Option β := if inb i n = true then F (ga σ k i) else none
def rdl (σ : SH) (k n : Nat) (i : Int32) (F : Int64 → Option β) : Option β := if inb i n = true then F (gl σ k i) else none
def wra (σ : SH) (k n : Nat) (i v : Int32) (F : SH → Option β) : Option β := if inb i n = true then F (sa σ k i v) else none
def wrl (σ : SH) (k n : Nat) (i : Int32) (v : Int64) (F : SH → Option β) : Option β := if inb i n = true then F (sl σ k i v) else none
def rdi (σ : SH) (k : Nat) (F : Int32 → Option β) : Option β := F (gi σ k)
def wri (σ : SH) (k : Nat) (v : Int32) (F : SH → Option β) : Option β := F (si σ k v)
def bnd (c : Option (α × SH)) (F : α → SH → Option β) : Option β := match c with
  | none => none
  | some q => F q.1 q.2
def bndX (c : Option ((String ⊕ α) × SH)) (F : α → SH → Option ((String ⊕ β) × SH)) : Option ((String ⊕ β) × SH) := match c with
  | none => none
  | some (.inl E, σ) => some (.inl E, σ)
  | some (.inr a, σ) => F a σ
def gdb (b : Bool) (x : Option β) : Option β := if b = true then x else none
theorem rda_h {σ : SH} {k n : Nat} {i : Int32} {F : Int32 → Option β} {r : β} (h : rda σ k n i F = some r) : inb i n = true ∧ F (ga σ k i) = some r := by
  unfold rda at h
  split at h
  · exact ⟨by assumption, h⟩
  · cases h
theorem rdl_h {σ : SH} {k n : Nat} {i : Int32} {F : Int64 → Option β} {r : β} (h : rdl σ k n i F = some r) : inb i n = true ∧ F (gl σ k i) = some r := by
  unfold rdl at h
  split at h
  · exact ⟨by assumption, h⟩
  · cases h
theorem wra_h {σ : SH} {k n : Nat} {i v : Int32} {F : SH → Option β} {r : β} (h : wra σ k n i v F = some r) : inb i n = true ∧ F (sa σ k i v) = some r := by
  unfold wra at h
  split at h
  · exact ⟨by assumption, h⟩
  · cases h
theorem wrl_h {σ : SH} {k n : Nat} {i : Int32} {v : Int64} {F : SH → Option β} {r : β} (h : wrl σ k n i v F = some r) : inb i n = true ∧ F (sl σ k i v) = some r := by
  unfold wrl at h
  split at h
  · exact ⟨by assumption, h⟩
  · cases h
theorem gdb_h {b : Bool} {x : Option β} {r : β} (h : gdb b x = some r) : b = true ∧ x = some r := by
  unfold gdb at h
  split at h
  · exact ⟨by assumption, h⟩
  · cases h
theorem bnd_h {c : Option (α × SH)} {F : α → SH → Option β} {r : β} (h : bnd c F = some r) : ∃ a σ, c = some (a, σ) ∧ F a σ = some r := by
  unfold bnd at h
  split at h
  · cases h
  · exact ⟨_, _, rfl, h⟩
theorem bndX_h {c : Option ((String ⊕ α) × SH)} {F : α → SH → Option ((String ⊕ β) × SH)} {r : (String ⊕ β) × SH} (h : bndX c F = some r) : (∃ a σ, c = some (.inr a, σ) ∧ F a σ = some r) ∨ ∃ E σ, c = some (.inl E, σ) ∧ r = (.inl E, σ) := by
  unfold bndX at h
  split at h
  · cases h
  · exact Or.inr ⟨_, _, rfl, (Option.some.inj h).symm⟩
  · exact Or.inl ⟨_, _, rfl, h⟩
end PureSteps
/-! ===== a method's start and end over a world that a state fills ===== -/
def cP (D : va_G) (cl : List vw_C) (tys : List (ClassId × FieldType)) (ww : va_W) (sz : Nat) (av : List Value) : Array Value → State → Prop := va_Pc av (fun U => U.heap.size = sz ∧ va_P D cl ww U.heap ∧ va_K D cl tys U ∧ va_D (fun _ => True) ww)
def cPX (X : (Nat → Prop) → State → Prop) (D : va_G) (cl : List vw_C) (tys : List (ClassId × FieldType)) (ww : va_W) (sz : Nat) (av : List Value) : Array Value → State → Prop := va_Pc av (fun U => U.heap.size = sz ∧ va_P D cl ww U.heap ∧ va_K D cl tys U ∧ va_D (fun _ => True) ww ∧ X (va_A ww sz) U)
theorem cP_blind {D : va_G} {cl : List vw_C} {tys : List (ClassId × FieldType)} {ww : va_W} {sz : Nat} {av : List Value} : FrameBlind (cP D cl tys ww sz av) := by
  intro a U g mk q
  obtain ⟨q0, q1, qP, qK, qD⟩ := q
  exact ⟨q0, q1, qP, va_K.moved (u := U) (U := U.calling g mk a) (Vm.Alike.refl U.vm) qK, qD⟩
abbrev cQi (D : va_G) (cl : List vw_C) (w : SH → va_W) (σ : SH) (sz : Nat) (r : Int32 × SH) : Array Value → State → Outcome → State → Prop := va_Qi (fun v u => (v, u) = r) (fun u t => va_P D cl (w u) t.heap) (va_A (w σ) sz)
abbrev cQl (D : va_G) (cl : List vw_C) (w : SH → va_W) (σ : SH) (sz : Nat) (r : Int64 × SH) : Array Value → State → Outcome → State → Prop := va_Ql (fun v u => (v, u) = r) (fun u t => va_P D cl (w u) t.heap) (va_A (w σ) sz)
abbrev cQv (D : va_G) (cl : List vw_C) (w : SH → va_W) (σ : SH) (sz : Nat) (r : Unit × SH) : Array Value → State → Outcome → State → Prop := va_Qv (fun u => ((), u) = r) (fun u t => va_P D cl (w u) t.heap) (va_A (w σ) sz)
/-- the same addresses, whatever the state -/
def wSame (w : SH → va_W) : Prop := ∀ σ σ' : SH, (w σ).map Prod.fst = (w σ').map Prod.fst
theorem wSame.at {w : SH → va_W} (h : wSame w) {σ σ' : SH} {k : Nat} {q : Nat × va_E} (hk : (w σ)[k]? = some q) : ∃ e, (w σ')[k]? = some (q.1, e) := by
  have h1 : ((w σ).map Prod.fst)[k]? = some q.1 := by rw [List.getElem?_map, hk]; rfl
  rw [h σ σ', List.getElem?_map] at h1
  cases h2 : (w σ')[k]? with
  | none => rw [h2] at h1; cases h1
  | some z => rw [h2] at h1; exact ⟨z.2, by rw [← Option.some.inj h1]⟩
theorem wSame.D {w : SH → va_W} (h : wSame w) {A : Nat → Prop} {σ : SH} (hD : va_D A (w σ)) (σ' : SH) : va_D A (w σ') := by
  refine ⟨fun i j x y hi hj hxy => ?_, fun k q hk => ?_⟩
  · obtain ⟨e1, h1⟩ := h.at (σ' := σ) hi
    obtain ⟨e2, h2⟩ := h.at (σ' := σ) hj
    exact hD.1 i j _ _ h1 h2 hxy
  · obtain ⟨e1, h1⟩ := h.at (σ' := σ) hk
    exact hD.2 k (q.1, e1) h1
theorem wA_sub {w : SH → va_W} {A : Nat → Prop} {σ : SH} {sz sz' : Nat} (hD : va_D A (w σ)) (hA : ∀ q, sz ≤ q → A q) (hsz : sz ≤ sz') : ∀ q, va_A (w σ) sz' q → A q := by
  intro q h
  rcases h with ⟨k, e, h⟩ | h
  · exact hD.2 k _ h
  · exact hA q (Nat.le_trans hsz h)
/-! ===== the fixed things of a walk ===== -/
def Cx (p : Program) (s : State) (m : MethodId) (args : Array Value) (c : Code) (cc : ByteArray) (nL : Nat) (Ts : List Cond) (own : String) (D : va_G) (cl : List vw_C) (tys : List (ClassId × FieldType)) (w : SH → va_W) (A : Nat → Prop) (R : Room) (fr lo : Nat) : Prop :=
  CallFix p m c cc nL s args Ts own ∧ va_K D cl tys s ∧ (∀ σ, va_D A (w σ)) ∧ (∀ q, s.heap.size ≤ q → A q) ∧ fr ≤ R.frames ∧ lo ≤ R.locals
section Rows2
variable {p : Program} {l : Launch} {e : Env} {R : Room} {s : State} {m : MethodId} {args : Array Value} {below : List Frame} {meth : Method} {c : Code} {H : Heap} {locs : List Loc} {cells slots : Nat} {Q : State → Prop}
variable {cc : ByteArray} {pc : Nat} {ls : Array Slot} {rest : List Value} {D : va_G} {cl : List vw_C} {A : Nat → Prop} {a : Nat} {tys : List (ClassId × FieldType)} {w : SH → va_W} {σ : SH} {ρ : Type} {r : ρ} {nL fr lo : Nat} {Ts : List Cond} {own : String}
theorem b_iald (C : Cx p s m args c cc nL Ts own D cl tys w A R fr lo) (hP : va_P D cl (w σ) H) {k n : Nat} {i : Int32} {F : Int32 → Option ρ} (h : rda σ k n i F = some r) {cA : ClassId} (q0 : Nat) (ha : (w σ)[q0]? = some (a, .inl (cA, n, .inl (σ.2.1 k)))) (t0 : Nat) (ht : tys[t0]? = some (cA, .int)) (hdg : decode cc pc = .ok (.iaload, 1))
    (kk : ∀ x : Int32, F x = some r → W p l e R s m args below meth c H locs cells slots Q (F0 m (pc + 1) ls (.int x :: rest))) : W p l e R s m args below meth c H locs cells slots Q (F0 m pc ls (.int i :: .ref a :: rest)) := by
  obtain ⟨hi, h⟩ := rda_h h
  exact va_iald C.1.1 C.1.2.1 C.2.1 hP q0 t0 ha ht (inb_in hi) hdg (kk _ h)
theorem b_zald (C : Cx p s m args c cc nL Ts own D cl tys w A R fr lo) (hP : va_P D cl (w σ) H) {k n : Nat} {i : Int32} {F : Int32 → Option ρ} (h : rda σ k n i F = some r) {cA : ClassId} (q0 : Nat) (ha : (w σ)[q0]? = some (a, .inl (cA, n, .inl (σ.2.1 k)))) (t0 : Nat) (ht : tys[t0]? = some (cA, .boolean)) (hdg : decode cc pc = .ok (.baload, 1))
    (kk : ∀ x : Int32, F x = some r → W p l e R s m args below meth c H locs cells slots Q (F0 m (pc + 1) ls (.int x :: rest))) : W p l e R s m args below meth c H locs cells slots Q (F0 m pc ls (.int i :: .ref a :: rest)) := by
  obtain ⟨hi, h⟩ := rda_h h
  exact va_zald C.1.1 C.1.2.1 C.2.1 hP q0 t0 ha ht (inb_in hi) hdg (kk _ h)
theorem b_lald (C : Cx p s m args c cc nL Ts own D cl tys w A R fr lo) (hP : va_P D cl (w σ) H) {k n : Nat} {i : Int32} {F : Int64 → Option ρ} (h : rdl σ k n i F = some r) {cA : ClassId} (q0 : Nat) (ha : (w σ)[q0]? = some (a, .inl (cA, n, .inr (.inl (σ.2.2 k))))) (t0 : Nat) (ht : tys[t0]? = some (cA, .long)) (hdg : decode cc pc = .ok (.laload, 1))
    (kk : ∀ x : Int64, F x = some r → W p l e R s m args below meth c H locs cells slots Q (F0 m (pc + 1) ls (.long x :: rest))) : W p l e R s m args below meth c H locs cells slots Q (F0 m pc ls (.int i :: .ref a :: rest)) := by
  obtain ⟨hi, h⟩ := rdl_h h
  exact va_lald C.1.1 C.1.2.1 C.2.1 hP q0 t0 ha ht (inb_in hi) hdg (kk _ h)
theorem b_iast (C : Cx p s m args c cc nL Ts own D cl tys w A R fr lo) (hP : va_P D cl (w σ) H) (hS : va_S A s.heap H locs) {k n : Nat} {i x : Int32} {F : SH → Option ρ} (h : wra σ k n i x F = some r) {cA : ClassId} (q0 : Nat) (ha : (w σ)[q0]? = some (a, .inl (cA, n, .inl (σ.2.1 k)))) (t0 : Nat) (ht : tys[t0]? = some (cA, .int))
    (hset : (w σ).set q0 (a, .inl (cA, n, .inl (upd (σ.2.1 k) i.toNatClampNeg x))) = w (sa σ k i x)) (hdg : decode cc pc = .ok (.iastore, 1))
    (kk : ∀ (σ1 : SH) (H1 : Heap) (locs1 : List Loc), F σ1 = some r → va_P D cl (w σ1) H1 → va_S A s.heap H1 locs1 → W p l e R s m args below meth c H1 locs1 cells slots Q (F0 m (pc + 1) ls rest)) : W p l e R s m args below meth c H locs cells slots Q (F0 m pc ls (.int x :: .int i :: .ref a :: rest)) := by
  obtain ⟨hi, h⟩ := wra_h h
  refine va_iast C.1.1 C.1.2.1 C.2.1 hP (C.2.2.1 σ) hS q0 t0 ha ht (inb_in hi) hdg (fun H1 locs1 hP1 _ hS1 => ?_)
  rw [hset] at hP1
  exact kk _ H1 locs1 h hP1 hS1
theorem b_zast (C : Cx p s m args c cc nL Ts own D cl tys w A R fr lo) (hP : va_P D cl (w σ) H) (hS : va_S A s.heap H locs) {k n : Nat} {i x : Int32} {F : SH → Option ρ} (h : wra σ k n i (vp_nar .boolean x) F = some r) {cA : ClassId} (q0 : Nat) (ha : (w σ)[q0]? = some (a, .inl (cA, n, .inl (σ.2.1 k)))) (t0 : Nat) (ht : tys[t0]? = some (cA, .boolean))
    (hset : (w σ).set q0 (a, .inl (cA, n, .inl (upd (σ.2.1 k) i.toNatClampNeg (vp_nar .boolean x)))) = w (sa σ k i (vp_nar .boolean x))) (hdg : decode cc pc = .ok (.bastore, 1))
    (kk : ∀ (σ1 : SH) (H1 : Heap) (locs1 : List Loc), F σ1 = some r → va_P D cl (w σ1) H1 → va_S A s.heap H1 locs1 → W p l e R s m args below meth c H1 locs1 cells slots Q (F0 m (pc + 1) ls rest)) : W p l e R s m args below meth c H locs cells slots Q (F0 m pc ls (.int x :: .int i :: .ref a :: rest)) := by
  obtain ⟨hi, h⟩ := wra_h h
  refine va_zast C.1.1 C.1.2.1 C.2.1 hP (C.2.2.1 σ) hS q0 t0 ha ht (inb_in hi) hdg (fun H1 locs1 hP1 _ hS1 => ?_)
  rw [hset] at hP1
  exact kk _ H1 locs1 h hP1 hS1
theorem b_last (C : Cx p s m args c cc nL Ts own D cl tys w A R fr lo) (hP : va_P D cl (w σ) H) (hS : va_S A s.heap H locs) {k n : Nat} {i : Int32} {x : Int64} {F : SH → Option ρ} (h : wrl σ k n i x F = some r) {cA : ClassId} (q0 : Nat) (ha : (w σ)[q0]? = some (a, .inl (cA, n, .inr (.inl (σ.2.2 k))))) (t0 : Nat) (ht : tys[t0]? = some (cA, .long))
    (hset : (w σ).set q0 (a, .inl (cA, n, .inr (.inl (vp_updL (σ.2.2 k) i.toNatClampNeg x)))) = w (sl σ k i x)) (hdg : decode cc pc = .ok (.lastore, 1))
    (kk : ∀ (σ1 : SH) (H1 : Heap) (locs1 : List Loc), F σ1 = some r → va_P D cl (w σ1) H1 → va_S A s.heap H1 locs1 → W p l e R s m args below meth c H1 locs1 cells slots Q (F0 m (pc + 1) ls rest)) : W p l e R s m args below meth c H locs cells slots Q (F0 m pc ls (.long x :: .int i :: .ref a :: rest)) := by
  obtain ⟨hi, h⟩ := wrl_h h
  refine va_last C.1.1 C.1.2.1 C.2.1 hP (C.2.2.1 σ) hS q0 t0 ha ht (inb_in hi) hdg (fun H1 locs1 hP1 _ hS1 => ?_)
  rw [hset] at hP1
  exact kk _ H1 locs1 h hP1 hS1
end Rows2
end
section
section Rows3
variable {p : Program} {l : Launch} {e : Env} {R : Room} {s : State} {m : MethodId} {args : Array Value} {below : List Frame} {meth : Method} {c : Code} {H : Heap} {locs : List Loc} {cells slots : Nat} {Q : State → Prop}
variable {cc : ByteArray} {pc : Nat} {ls : Array Slot} {rest st0 : List Value} {D : va_G} {cl : List vw_C} {A : Nat → Prop} {a : Nat} {tys : List (ClassId × FieldType)} {w : SH → va_W} {σ : SH} {ρ : Type} {r : ρ} {nL fr lo : Nat} {Ts : List Cond} {own : String}
theorem ite_h {c0 : Prop} [Decidable c0] {X Y : Option ρ} (h : (if c0 then X else Y) = some r) : (c0 → X = some r) ∧ (¬ c0 → Y = some r) := by
  refine ⟨fun hc => ?_, fun hc => ?_⟩
  · rw [if_pos hc] at h; exact h
  · rw [if_neg hc] at h; exact h
theorem b_getr (C : Cx p s m args c cc nL Ts own D cl tys w A R fr lo) (hP : va_P D cl (w σ) H) {ref Cn : String} {T : u_T} {N ci index : Nat} (hin : ∀ x ∈ u_ws Cn T N, x ∈ Ts) (q0 : Nat) {fs : List Value} (he : (w σ)[q0]? = some (a, .inr (ci, fs))) (hc : cl[ci]? = some (Cn, T, N)) (j : Nat) (hj : j < N) (hlink : Cond.fieldLink own index ref (T j).2.1 (T j).2.2.1 ∈ Ts) (href : (T j).1 = ref) {v : Value} (hv : fs[j]? = some v) (hdg : decode cc pc = .ok (.getfield index, 3))
    (kk : W p l e R s m args below meth c H locs cells slots Q (F0 m (pc + 3) ls (v :: rest))) : W p l e R s m args below meth c H locs cells slots Q (F0 m pc ls (.ref a :: rest)) := by
  subst href
  exact va_get C.1.1 C.1.2.1 C.1.2.2.2.2 hin C.1.2.2.2.1 C.2.1 hP q0 he hc j hj (C.1.2.2.2.2 _ hlink) (fun _ h => h) hv hdg kk
theorem b_geti (C : Cx p s m args c cc nL Ts own D cl tys w A R fr lo) (hP : va_P D cl (w σ) H) {k : Nat} {F : Int32 → Option ρ} (h : rdi σ k F = some r) {ref Cn : String} {T : u_T} {N ci index : Nat} (hin : ∀ x ∈ u_ws Cn T N, x ∈ Ts) (q0 : Nat) {fs : List Value} (he : (w σ)[q0]? = some (a, .inr (ci, fs))) (hc : cl[ci]? = some (Cn, T, N)) (j : Nat) (hj : j < N) (hlink : Cond.fieldLink own index ref (T j).2.1 (T j).2.2.1 ∈ Ts) (href : (T j).1 = ref) (hv : fs[j]? = some (.int (σ.1 k))) (hdg : decode cc pc = .ok (.getfield index, 3))
    (kk : ∀ x : Int32, F x = some r → W p l e R s m args below meth c H locs cells slots Q (F0 m (pc + 3) ls (.int x :: rest))) : W p l e R s m args below meth c H locs cells slots Q (F0 m pc ls (.ref a :: rest)) :=
  b_getr C hP hin q0 he hc j hj hlink href hv hdg (kk _ h)
theorem b_puti (C : Cx p s m args c cc nL Ts own D cl tys w A R fr lo) (hP : va_P D cl (w σ) H) (hS : va_S A s.heap H locs) {k : Nat} {v : Int32} {F : SH → Option ρ} (h : wri σ k v F = some r) {ref Cn : String} {T : u_T} {N ci index : Nat} (hin : ∀ x ∈ u_ws Cn T N, x ∈ Ts) (ty0 : Nat → FieldType) (hty : ∀ k, k < N → parseFieldDescriptor (T k).2.2.1 = some (ty0 k)) (hnm : ∀ a, a < N → ∀ b, b < N → a ≠ b → (T a).2.1 ≠ (T b).2.1)
    (q0 : Nat) {fs : List Value} (he : (w σ)[q0]? = some (a, .inr (ci, fs))) (hc : cl[ci]? = some (Cn, T, N)) (j : Nat) (hj : j < N) (hlink : Cond.fieldLink own index ref (T j).2.1 (T j).2.2.1 ∈ Ts) (href : (T j).1 = ref) (hfin : (T j).2.2.2 = false) (hint : ty0 j = .int) (hl : j < fs.length)
    (hset : (w σ).set q0 (a, .inr (ci, fs.set j (.int v))) = w (si σ k v)) (hdg : decode cc pc = .ok (.putfield index, 3))
    (kk : ∀ (σ1 : SH) (H1 : Heap) (locs1 : List Loc), F σ1 = some r → va_P D cl (w σ1) H1 → va_S A s.heap H1 locs1 → W p l e R s m args below meth c H1 locs1 cells slots Q (F0 m (pc + 3) ls rest)) : W p l e R s m args below meth c H locs cells slots Q (F0 m pc ls (.int v :: .ref a :: rest)) := by
  subst href
  refine va_put C.1.1 C.1.2.1 C.1.2.2.2.2 hin ty0 hty hnm C.1.2.2.2.1 C.2.1 hP (C.2.2.1 σ) hS q0 he hc j hj (C.1.2.2.2.2 _ hlink) (fun _ h => h) hfin (ty := .int) (by rw [hty j hj, hint]) rfl rfl hl hdg (fun H1 locs1 hP1 _ hS1 => ?_)
  rw [hset] at hP1
  exact kk _ H1 locs1 h hP1 hS1
theorem pre_U (C : Cx p s m args c cc nL Ts own D cl tys w A R fr lo) (hP : va_P D cl (w σ) H) (av : List Value) : ∀ U : State, U.heap = H → s.WarmedH U.vm → cP D cl tys (w σ) H.size av av.toArray U := fun U hU hW => ⟨rfl, by rw [hU], by rw [hU]; exact hP, va_K.moved hW.alike C.2.1, (C.2.2.1 σ).weaken (fun _ _ _ _ => trivial)⟩

theorem b_callVi (C : Cx p s m args c cc nL Ts own D cl tys w A R fr lo) (hP : va_P D cl (w σ) H) (hS : va_S A s.heap H locs) {callee : Option (Int32 × SH)} {F : Int32 → SH → Option ρ} (h : bnd callee F = some r) {y : MethodName} {ws : List Cond} {rm : Room} {bytes : ByteArray} {maxL n index : Nat} {ret : Option FieldType} {As : List Value} {b : Nat} {Cn : String} 
    (hM : ∀ (q : Int32 × SH) (sz : Nat), callee = some q → Met l y ws rm (cP D cl tys (w σ) sz (.ref b :: As)) (cQi D cl w σ sz q) 0 0 (va_A (w σ) sz)) (cw : CallW R s args own Cn index y bytes maxL ret ws rm 0 0 n) (hrecv : ∃ cell : Cell, H[b]? = some cell ∧ cell.vm.isStatics = false ∧ s.vm.findClass Cn = some cell.cls) (hn : As.length = n) (hsize : ls.size = nL) (hst : st0 = As.reverse ++ .ref b :: rest) (hWr : (rest.map fun v => v.category).sum ≤ 8) (hdg : decode cc pc = .ok (.invokevirtual index, 3))
    (kk : ∀ (v : Int32) (σ1 : SH) (H1 : Heap) (locs1 : List Loc), F v σ1 = some r → va_P D cl (w σ1) H1 → va_S A s.heap H1 locs1 → W p l e R s m args below meth c H1 locs1 0 0 Q (F0 m (pc + 3) ls (.int v :: rest))) : W p l e R s m args below meth c H locs 0 0 Q (F0 m pc ls st0) := by
  obtain ⟨v, σ1, hc, h⟩ := bnd_h h
  refine va_calli (va_runV (As := As) (rest := rest) C.1 (hM _ H.size hc) cw ⟨cP_blind, hrecv, pre_U C hP (.ref b :: As)⟩ rfl hn hsize hst (lv_room hWr) hdg ⟨Nat.zero_le _, Nat.zero_le _⟩) hS (fun q _ h => wA_sub (C.2.2.1 σ) C.2.2.2.1 hS.1 q h) (wA_sub (C.2.2.1 σ) C.2.2.2.1 hS.1) (fun r1 u t H1 locs1 ht hvm hw hB hz1 hk1 hS1 => ?_)
  cases hw
  rw [ht] at hB
  exact kk _ _ H1 locs1 h hB hS1

theorem b_callVl (C : Cx p s m args c cc nL Ts own D cl tys w A R fr lo) (hP : va_P D cl (w σ) H) (hS : va_S A s.heap H locs) {callee : Option (Int64 × SH)} {F : Int64 → SH → Option ρ} (h : bnd callee F = some r) {y : MethodName} {ws : List Cond} {rm : Room} {bytes : ByteArray} {maxL n index : Nat} {ret : Option FieldType} {As : List Value} {b : Nat} {Cn : String} 
    (hM : ∀ (q : Int64 × SH) (sz : Nat), callee = some q → Met l y ws rm (cP D cl tys (w σ) sz (.ref b :: As)) (cQl D cl w σ sz q) 0 0 (va_A (w σ) sz)) (cw : CallW R s args own Cn index y bytes maxL ret ws rm 0 0 n) (hrecv : ∃ cell : Cell, H[b]? = some cell ∧ cell.vm.isStatics = false ∧ s.vm.findClass Cn = some cell.cls) (hn : As.length = n) (hsize : ls.size = nL) (hst : st0 = As.reverse ++ .ref b :: rest) (hWr : (rest.map fun v => v.category).sum ≤ 8) (hdg : decode cc pc = .ok (.invokevirtual index, 3))
    (kk : ∀ (v : Int64) (σ1 : SH) (H1 : Heap) (locs1 : List Loc), F v σ1 = some r → va_P D cl (w σ1) H1 → va_S A s.heap H1 locs1 → W p l e R s m args below meth c H1 locs1 0 0 Q (F0 m (pc + 3) ls (.long v :: rest))) : W p l e R s m args below meth c H locs 0 0 Q (F0 m pc ls st0) := by
  obtain ⟨v, σ1, hc, h⟩ := bnd_h h
  refine va_calll (va_runV (As := As) (rest := rest) C.1 (hM _ H.size hc) cw ⟨cP_blind, hrecv, pre_U C hP (.ref b :: As)⟩ rfl hn hsize hst (lv_room hWr) hdg ⟨Nat.zero_le _, Nat.zero_le _⟩) hS (fun q _ h => wA_sub (C.2.2.1 σ) C.2.2.2.1 hS.1 q h) (wA_sub (C.2.2.1 σ) C.2.2.2.1 hS.1) (fun r1 u t H1 locs1 ht hvm hw hB hz1 hk1 hS1 => ?_)
  cases hw
  rw [ht] at hB
  exact kk _ _ H1 locs1 h hB hS1

theorem b_callVv (C : Cx p s m args c cc nL Ts own D cl tys w A R fr lo) (hP : va_P D cl (w σ) H) (hS : va_S A s.heap H locs) {callee : Option (Unit × SH)} {F : Unit → SH → Option ρ} (h : bnd callee F = some r) {y : MethodName} {ws : List Cond} {rm : Room} {bytes : ByteArray} {maxL n index : Nat} {ret : Option FieldType} {As : List Value} {b : Nat} {Cn : String} 
    (hM : ∀ (q : Unit × SH) (sz : Nat), callee = some q → Met l y ws rm (cP D cl tys (w σ) sz (.ref b :: As)) (cQv D cl w σ sz q) 0 0 (va_A (w σ) sz)) (cw : CallW R s args own Cn index y bytes maxL ret ws rm 0 0 n) (hrecv : ∃ cell : Cell, H[b]? = some cell ∧ cell.vm.isStatics = false ∧ s.vm.findClass Cn = some cell.cls) (hn : As.length = n) (hsize : ls.size = nL) (hst : st0 = As.reverse ++ .ref b :: rest) (hWr : (rest.map fun v => v.category).sum ≤ 8) (hdg : decode cc pc = .ok (.invokevirtual index, 3))
    (kk : ∀ (v : Unit) (σ1 : SH) (H1 : Heap) (locs1 : List Loc), F v σ1 = some r → va_P D cl (w σ1) H1 → va_S A s.heap H1 locs1 → W p l e R s m args below meth c H1 locs1 0 0 Q (F0 m (pc + 3) ls (rest))) : W p l e R s m args below meth c H locs 0 0 Q (F0 m pc ls st0) := by
  obtain ⟨v, σ1, hc, h⟩ := bnd_h h
  refine va_callv (va_runV (As := As) (rest := rest) C.1 (hM _ H.size hc) cw ⟨cP_blind, hrecv, pre_U C hP (.ref b :: As)⟩ rfl hn hsize hst (lv_room hWr) hdg ⟨Nat.zero_le _, Nat.zero_le _⟩) hS (fun q _ h => wA_sub (C.2.2.1 σ) C.2.2.2.1 hS.1 q h) (wA_sub (C.2.2.1 σ) C.2.2.2.1 hS.1) (fun u t H1 locs1 ht hvm hw hB hz1 hk1 hS1 => ?_)
  cases hw
  rw [ht] at hB
  exact kk _ _ H1 locs1 h hB hS1

theorem b_callSi (C : Cx p s m args c cc nL Ts own D cl tys w A R fr lo) (hP : va_P D cl (w σ) H) (hS : va_S A s.heap H locs) {callee : Option (Int32 × SH)} {F : Int32 → SH → Option ρ} (h : bnd callee F = some r) {y : MethodName} {ws : List Cond} {rm : Room} {bytes : ByteArray} {maxL n index : Nat} {ret : Option FieldType} {As : List Value} 
    (hM : ∀ (q : Int32 × SH) (sz : Nat), callee = some q → Met l y ws rm (cP D cl tys (w σ) sz As) (cQi D cl w σ sz q) 0 0 (va_A (w σ) sz)) (cw : CallB R s args own index y bytes maxL ret ws rm 0 0 n ∧ (Cond.static y).before args s = true) (hn : As.length = n) (hsize : ls.size = nL) (hst : st0 = As.reverse ++ rest) (hWr : (rest.map fun v => v.category).sum ≤ 8) (hdg : decode cc pc = .ok (.invokestatic index, 3))
    (kk : ∀ (v : Int32) (σ1 : SH) (H1 : Heap) (locs1 : List Loc), F v σ1 = some r → va_P D cl (w σ1) H1 → va_S A s.heap H1 locs1 → W p l e R s m args below meth c H1 locs1 0 0 Q (F0 m (pc + 3) ls (.int v :: rest))) : W p l e R s m args below meth c H locs 0 0 Q (F0 m pc ls st0) := by
  obtain ⟨v, σ1, hc, h⟩ := bnd_h h
  refine va_calli (va_runS (As := As) (rest := rest) C.1 (hM _ H.size hc) cw ⟨cP_blind, pre_U C hP As⟩ rfl hn hsize hst (lv_room hWr) hdg ⟨Nat.zero_le _, Nat.zero_le _⟩) hS (fun q _ h => wA_sub (C.2.2.1 σ) C.2.2.2.1 hS.1 q h) (wA_sub (C.2.2.1 σ) C.2.2.2.1 hS.1) (fun r1 u t H1 locs1 ht hvm hw hB hz1 hk1 hS1 => ?_)
  cases hw
  rw [ht] at hB
  exact kk _ _ H1 locs1 h hB hS1

theorem b_callSl (C : Cx p s m args c cc nL Ts own D cl tys w A R fr lo) (hP : va_P D cl (w σ) H) (hS : va_S A s.heap H locs) {callee : Option (Int64 × SH)} {F : Int64 → SH → Option ρ} (h : bnd callee F = some r) {y : MethodName} {ws : List Cond} {rm : Room} {bytes : ByteArray} {maxL n index : Nat} {ret : Option FieldType} {As : List Value} 
    (hM : ∀ (q : Int64 × SH) (sz : Nat), callee = some q → Met l y ws rm (cP D cl tys (w σ) sz As) (cQl D cl w σ sz q) 0 0 (va_A (w σ) sz)) (cw : CallB R s args own index y bytes maxL ret ws rm 0 0 n ∧ (Cond.static y).before args s = true) (hn : As.length = n) (hsize : ls.size = nL) (hst : st0 = As.reverse ++ rest) (hWr : (rest.map fun v => v.category).sum ≤ 8) (hdg : decode cc pc = .ok (.invokestatic index, 3))
    (kk : ∀ (v : Int64) (σ1 : SH) (H1 : Heap) (locs1 : List Loc), F v σ1 = some r → va_P D cl (w σ1) H1 → va_S A s.heap H1 locs1 → W p l e R s m args below meth c H1 locs1 0 0 Q (F0 m (pc + 3) ls (.long v :: rest))) : W p l e R s m args below meth c H locs 0 0 Q (F0 m pc ls st0) := by
  obtain ⟨v, σ1, hc, h⟩ := bnd_h h
  refine va_calll (va_runS (As := As) (rest := rest) C.1 (hM _ H.size hc) cw ⟨cP_blind, pre_U C hP As⟩ rfl hn hsize hst (lv_room hWr) hdg ⟨Nat.zero_le _, Nat.zero_le _⟩) hS (fun q _ h => wA_sub (C.2.2.1 σ) C.2.2.2.1 hS.1 q h) (wA_sub (C.2.2.1 σ) C.2.2.2.1 hS.1) (fun r1 u t H1 locs1 ht hvm hw hB hz1 hk1 hS1 => ?_)
  cases hw
  rw [ht] at hB
  exact kk _ _ H1 locs1 h hB hS1

theorem b_callSv (C : Cx p s m args c cc nL Ts own D cl tys w A R fr lo) (hP : va_P D cl (w σ) H) (hS : va_S A s.heap H locs) {callee : Option (Unit × SH)} {F : Unit → SH → Option ρ} (h : bnd callee F = some r) {y : MethodName} {ws : List Cond} {rm : Room} {bytes : ByteArray} {maxL n index : Nat} {ret : Option FieldType} {As : List Value} 
    (hM : ∀ (q : Unit × SH) (sz : Nat), callee = some q → Met l y ws rm (cP D cl tys (w σ) sz As) (cQv D cl w σ sz q) 0 0 (va_A (w σ) sz)) (cw : CallB R s args own index y bytes maxL ret ws rm 0 0 n ∧ (Cond.static y).before args s = true) (hn : As.length = n) (hsize : ls.size = nL) (hst : st0 = As.reverse ++ rest) (hWr : (rest.map fun v => v.category).sum ≤ 8) (hdg : decode cc pc = .ok (.invokestatic index, 3))
    (kk : ∀ (v : Unit) (σ1 : SH) (H1 : Heap) (locs1 : List Loc), F v σ1 = some r → va_P D cl (w σ1) H1 → va_S A s.heap H1 locs1 → W p l e R s m args below meth c H1 locs1 0 0 Q (F0 m (pc + 3) ls (rest))) : W p l e R s m args below meth c H locs 0 0 Q (F0 m pc ls st0) := by
  obtain ⟨v, σ1, hc, h⟩ := bnd_h h
  refine va_callv (va_runS (As := As) (rest := rest) C.1 (hM _ H.size hc) cw ⟨cP_blind, pre_U C hP As⟩ rfl hn hsize hst (lv_room hWr) hdg ⟨Nat.zero_le _, Nat.zero_le _⟩) hS (fun q _ h => wA_sub (C.2.2.1 σ) C.2.2.2.1 hS.1 q h) (wA_sub (C.2.2.1 σ) C.2.2.2.1 hS.1) (fun u t H1 locs1 ht hvm hw hB hz1 hk1 hS1 => ?_)
  cases hw
  rw [ht] at hB
  exact kk _ _ H1 locs1 h hB hS1

/-- what a walk needs at a return -/
def Ri (p : Program) (l : Launch) (e : Env) (R : Room) (s : State) (m : MethodId) (args : Array Value) (below : List Frame) (meth : Method) (c : Code) (cc : ByteArray) (D : va_G) (cl : List vw_C) (w : SH → va_W) (A : Nat → Prop) (Q : State → Prop) (r : Int32 × SH) : Prop :=
  ∀ (pc : Nat) (H : Heap) (locs : List Loc) (ls : Array Slot) (σ1 : SH) (v : Int32) , r = (v, σ1) → decode cc pc = .ok (.ireturn, 1) → va_P D cl (w σ1) H → va_S A s.heap H locs → W p l e R s m args below meth c H locs 0 0 Q (F0 m pc ls [.int v])

/-- what a walk needs at a return -/
def Rl (p : Program) (l : Launch) (e : Env) (R : Room) (s : State) (m : MethodId) (args : Array Value) (below : List Frame) (meth : Method) (c : Code) (cc : ByteArray) (D : va_G) (cl : List vw_C) (w : SH → va_W) (A : Nat → Prop) (Q : State → Prop) (r : Int64 × SH) : Prop :=
  ∀ (pc : Nat) (H : Heap) (locs : List Loc) (ls : Array Slot) (σ1 : SH) (v : Int64) , r = (v, σ1) → decode cc pc = .ok (.lreturn, 1) → va_P D cl (w σ1) H → va_S A s.heap H locs → W p l e R s m args below meth c H locs 0 0 Q (F0 m pc ls [.long v])

/-- what a walk needs at a return -/
def Rv (p : Program) (l : Launch) (e : Env) (R : Room) (s : State) (m : MethodId) (args : Array Value) (below : List Frame) (meth : Method) (c : Code) (cc : ByteArray) (D : va_G) (cl : List vw_C) (w : SH → va_W) (A : Nat → Prop) (Q : State → Prop) (r : Unit × SH) : Prop :=
  ∀ (pc : Nat) (H : Heap) (locs : List Loc) (ls : Array Slot) (σ1 : SH) , r = ((), σ1) → decode cc pc = .ok (.return_, 1) → va_P D cl (w σ1) H → va_S A s.heap H locs → W p l e R s m args below meth c H locs 0 0 Q (F0 m pc ls [])

theorem ofW_i {y : MethodName} {ws ws' : List Cond} {rm : Room} {maxL : Nat} {av : List Value} (hy : plainName y.cls = true) (hw : ws = Cond.code y cc maxL (some .int) :: ws') (hwS : wSame w) (hlen : (lg_sl av).length ≤ maxL) {q : Int32 × SH} {sz : Nat}
    (body : ∀ (p : Program) (e : Env) (s : State) (m : MethodId) (below : List Frame) (meth : Method) (c : Code) (ls : Array Slot), s.heap.size = sz → Cx p s m av.toArray c cc maxL ws y.cls D cl tys w (va_A (w σ) sz) rm rm.frames rm.locals → Ri p l e rm s m av.toArray below meth c cc D cl w (va_A (w σ) sz) (MQ below (cQi D cl w σ sz q) av.toArray s 0 0 (va_A (w σ) sz)) q → va_P D cl (w σ) s.heap → lv_has ls maxL (lv_args 0 av) →
      W p l e rm s m av.toArray below meth c s.heap [] 0 0 (MQ below (cQi D cl w σ sz q) av.toArray s 0 0 (va_A (w σ) sz)) (F0 m 0 ls [])) : Met l y ws rm (cP D cl tys (w σ) sz av) (cQi D cl w σ sz q) 0 0 (va_A (w σ) sz) := by
  refine Met.ofW (cc := cc) (maxL := maxL) (ret := some .int) hy hw ?_
  intro p e s m args below meth c s₁ B hml hv
  obtain ⟨rfl, hsz, hP, hK, hD0⟩ := hv
  have hlocks := B.notSynchronized
  subst hsz
  rw [lg_entry_eq]
  refine body p e s m below meth c _ rfl ⟨⟨B.exec, B.bytes, hml, findClass_of_methodNamed B.named, atoms_spec (ws := ws) B.pre⟩, hK, fun σ' => hwS.D (hD0.self (sz := s.heap.size)) σ', fun q h => Or.inr h, Nat.le_refl _, Nat.le_refl _⟩ ?_ hP (lv_entry av hlen)
  intro pc H locs ls σ1 v hq hdg hP1 hS1
  exact W.iret B.exec B.bytes B.returns (fun t ht _ => ⟨⟨v, σ1, rfl, hq.symm, by show va_P D cl (w σ1) t.heap; rw [ht]; exact hP1⟩, hS1.F ht⟩) hS1.2.2 hdg

theorem ofW_l {y : MethodName} {ws ws' : List Cond} {rm : Room} {maxL : Nat} {av : List Value} (hy : plainName y.cls = true) (hw : ws = Cond.code y cc maxL (some .long) :: ws') (hwS : wSame w) (hlen : (lg_sl av).length ≤ maxL) {q : Int64 × SH} {sz : Nat}
    (body : ∀ (p : Program) (e : Env) (s : State) (m : MethodId) (below : List Frame) (meth : Method) (c : Code) (ls : Array Slot), s.heap.size = sz → Cx p s m av.toArray c cc maxL ws y.cls D cl tys w (va_A (w σ) sz) rm rm.frames rm.locals → Rl p l e rm s m av.toArray below meth c cc D cl w (va_A (w σ) sz) (MQ below (cQl D cl w σ sz q) av.toArray s 0 0 (va_A (w σ) sz)) q → va_P D cl (w σ) s.heap → lv_has ls maxL (lv_args 0 av) →
      W p l e rm s m av.toArray below meth c s.heap [] 0 0 (MQ below (cQl D cl w σ sz q) av.toArray s 0 0 (va_A (w σ) sz)) (F0 m 0 ls [])) : Met l y ws rm (cP D cl tys (w σ) sz av) (cQl D cl w σ sz q) 0 0 (va_A (w σ) sz) := by
  refine Met.ofW (cc := cc) (maxL := maxL) (ret := some .long) hy hw ?_
  intro p e s m args below meth c s₁ B hml hv
  obtain ⟨rfl, hsz, hP, hK, hD0⟩ := hv
  have hlocks := B.notSynchronized
  subst hsz
  rw [lg_entry_eq]
  refine body p e s m below meth c _ rfl ⟨⟨B.exec, B.bytes, hml, findClass_of_methodNamed B.named, atoms_spec (ws := ws) B.pre⟩, hK, fun σ' => hwS.D (hD0.self (sz := s.heap.size)) σ', fun q h => Or.inr h, Nat.le_refl _, Nat.le_refl _⟩ ?_ hP (lv_entry av hlen)
  intro pc H locs ls σ1 v hq hdg hP1 hS1
  exact W.lret B.exec B.bytes B.returns (fun t ht _ => ⟨⟨v, σ1, rfl, hq.symm, by show va_P D cl (w σ1) t.heap; rw [ht]; exact hP1⟩, hS1.F ht⟩) hS1.2.2 hdg

theorem ofW_v {y : MethodName} {ws ws' : List Cond} {rm : Room} {maxL : Nat} {av : List Value} (hy : plainName y.cls = true) (hw : ws = Cond.code y cc maxL (none) :: ws') (hwS : wSame w) (hlen : (lg_sl av).length ≤ maxL) {q : Unit × SH} {sz : Nat}
    (body : ∀ (p : Program) (e : Env) (s : State) (m : MethodId) (below : List Frame) (meth : Method) (c : Code) (ls : Array Slot), s.heap.size = sz → Cx p s m av.toArray c cc maxL ws y.cls D cl tys w (va_A (w σ) sz) rm rm.frames rm.locals → Rv p l e rm s m av.toArray below meth c cc D cl w (va_A (w σ) sz) (MQ below (cQv D cl w σ sz q) av.toArray s 0 0 (va_A (w σ) sz)) q → va_P D cl (w σ) s.heap → lv_has ls maxL (lv_args 0 av) →
      W p l e rm s m av.toArray below meth c s.heap [] 0 0 (MQ below (cQv D cl w σ sz q) av.toArray s 0 0 (va_A (w σ) sz)) (F0 m 0 ls [])) : Met l y ws rm (cP D cl tys (w σ) sz av) (cQv D cl w σ sz q) 0 0 (va_A (w σ) sz) := by
  refine Met.ofW (cc := cc) (maxL := maxL) (ret := none) hy hw ?_
  intro p e s m args below meth c s₁ B hml hv
  obtain ⟨rfl, hsz, hP, hK, hD0⟩ := hv
  have hlocks := B.notSynchronized
  subst hsz
  rw [lg_entry_eq]
  refine body p e s m below meth c _ rfl ⟨⟨B.exec, B.bytes, hml, findClass_of_methodNamed B.named, atoms_spec (ws := ws) B.pre⟩, hK, fun σ' => hwS.D (hD0.self (sz := s.heap.size)) σ', fun q h => Or.inr h, Nat.le_refl _, Nat.le_refl _⟩ ?_ hP (lv_entry av hlen)
  intro pc H locs ls σ1 hq hdg hP1 hS1
  exact W.vret B.exec B.bytes B.returns (fun t ht _ => ⟨⟨σ1, rfl, hq.symm, by show va_P D cl (w σ1) t.heap; rw [ht]; exact hP1⟩, hS1.F ht⟩) hS1.2.2 hdg

/-- .. of a boolean answer -/
def Rz (p : Program) (l : Launch) (e : Env) (R : Room) (s : State) (m : MethodId) (args : Array Value) (below : List Frame) (meth : Method) (c : Code) (cc : ByteArray) (D : va_G) (cl : List vw_C) (w : SH → va_W) (A : Nat → Prop) (Q : State → Prop) (r : Int32 × SH) : Prop :=
  ∀ (pc : Nat) (H : Heap) (locs : List Loc) (ls : Array Slot) (σ1 : SH) (v : Int32), gdb (isB v) (some (v, σ1)) = some r → decode cc pc = .ok (.ireturn, 1) → va_P D cl (w σ1) H → va_S A s.heap H locs → W p l e R s m args below meth c H locs 0 0 Q (F0 m pc ls [.int v])

theorem ofW_z {y : MethodName} {ws ws' : List Cond} {rm : Room} {maxL : Nat} {av : List Value} (hy : plainName y.cls = true) (hw : ws = Cond.code y cc maxL (some .boolean) :: ws') (hwS : wSame w) (hlen : (lg_sl av).length ≤ maxL) {q : Int32 × SH} {sz : Nat}
    (body : ∀ (p : Program) (e : Env) (s : State) (m : MethodId) (below : List Frame) (meth : Method) (c : Code) (ls : Array Slot), s.heap.size = sz → Cx p s m av.toArray c cc maxL ws y.cls D cl tys w (va_A (w σ) sz) rm rm.frames rm.locals → Rz p l e rm s m av.toArray below meth c cc D cl w (va_A (w σ) sz) (MQ below (cQi D cl w σ sz q) av.toArray s 0 0 (va_A (w σ) sz)) q → va_P D cl (w σ) s.heap → lv_has ls maxL (lv_args 0 av) →
      W p l e rm s m av.toArray below meth c s.heap [] 0 0 (MQ below (cQi D cl w σ sz q) av.toArray s 0 0 (va_A (w σ) sz)) (F0 m 0 ls [])) : Met l y ws rm (cP D cl tys (w σ) sz av) (cQi D cl w σ sz q) 0 0 (va_A (w σ) sz) := by
  refine Met.ofW (cc := cc) (maxL := maxL) (ret := some .boolean) hy hw ?_
  intro p e s m args below meth c s₁ B hml hv
  obtain ⟨rfl, hsz, hP, hK, hD0⟩ := hv
  have hlocks := B.notSynchronized
  subst hsz
  rw [lg_entry_eq]
  refine body p e s m below meth c _ rfl ⟨⟨B.exec, B.bytes, hml, findClass_of_methodNamed B.named, atoms_spec (ws := ws) B.pre⟩, hK, fun σ' => hwS.D (hD0.self (sz := s.heap.size)) σ', fun q h => Or.inr h, Nat.le_refl _, Nat.le_refl _⟩ ?_ hP (lv_entry av hlen)
  intro pc H locs ls σ1 v hq hdg hP1 hS1
  exact W.zret B.exec B.bytes B.returns (isB_nar (gdb_h hq).1) (fun t ht _ => ⟨⟨v, σ1, rfl, Option.some.inj (gdb_h hq).2, by show va_P D cl (w σ1) t.heap; rw [ht]; exact hP1⟩, hS1.F ht⟩) hS1.2.2 hdg

end Rows3
end
section
-- ===== PART A: goes FIRST, ahead of the names: the tables' words, and 'selects' of the private methods out of them =====
/-- a private method of a class that the tables say can be made, by its rows of tables_1 -/
def lw_okq (q : MethodName × Nat) : Prop := (q.1.cls ≠ "java/lang/invoke/MethodHandle" ∧ q.1.cls ≠ "java/lang/invoke/VarHandle") ∧ Cond.instantiable q.1.cls q.2 ∈ tables_1 ∧ Cond.privateMethod q.1 ∈ tables_1 ∧ Cond.instanceMethod q.1 ∈ tables_1
theorem lw_p0 : lw_okq (⟨"java/lang/Throwable", "fillInStackTrace", "(I)Ljava/lang/Throwable;"⟩, 6) := ⟨⟨by decide +kernel, by decide +kernel⟩, List.mem_of_getElem? (i := 257) (by decide +kernel), List.mem_of_getElem? (i := 255) (by decide +kernel), List.mem_of_getElem? (i := 256) (by decide +kernel)⟩
theorem lw_p1 : lw_okq (⟨"TradeHall", "hold", "(II)V"⟩, 5) := ⟨⟨by decide +kernel, by decide +kernel⟩, List.mem_of_getElem? (i := 16) (by decide +kernel), List.mem_of_getElem? (i := 379) (by decide +kernel), List.mem_of_getElem? (i := 380) (by decide +kernel)⟩
theorem lw_p2 : lw_okq (⟨"TradeHall", "actByKind", "(I)V"⟩, 5) := ⟨⟨by decide +kernel, by decide +kernel⟩, List.mem_of_getElem? (i := 16) (by decide +kernel), List.mem_of_getElem? (i := 383) (by decide +kernel), List.mem_of_getElem? (i := 384) (by decide +kernel)⟩
theorem lw_p3 : lw_okq (⟨"TradeHall", "meetsOther", "(I)Z"⟩, 5) := ⟨⟨by decide +kernel, by decide +kernel⟩, List.mem_of_getElem? (i := 16) (by decide +kernel), List.mem_of_getElem? (i := 387) (by decide +kernel), List.mem_of_getElem? (i := 388) (by decide +kernel)⟩
theorem lw_p4 : lw_okq (⟨"TradeHall", "close", "(II)V"⟩, 5) := ⟨⟨by decide +kernel, by decide +kernel⟩, List.mem_of_getElem? (i := 16) (by decide +kernel), List.mem_of_getElem? (i := 406) (by decide +kernel), List.mem_of_getElem? (i := 407) (by decide +kernel)⟩
theorem lw_p5 : lw_okq (⟨"TradeHall", "rest", "(I)V"⟩, 5) := ⟨⟨by decide +kernel, by decide +kernel⟩, List.mem_of_getElem? (i := 16) (by decide +kernel), List.mem_of_getElem? (i := 410) (by decide +kernel), List.mem_of_getElem? (i := 411) (by decide +kernel)⟩
theorem lw_p6 : lw_okq (⟨"TradeHall", "wouldTradeWholly", "(I)Z"⟩, 5) := ⟨⟨by decide +kernel, by decide +kernel⟩, List.mem_of_getElem? (i := 16) (by decide +kernel), List.mem_of_getElem? (i := 421) (by decide +kernel), List.mem_of_getElem? (i := 422) (by decide +kernel)⟩
theorem lw_p7 : lw_okq (⟨"TradeHall", "tradeUntilStopped", "(I)Z"⟩, 5) := ⟨⟨by decide +kernel, by decide +kernel⟩, List.mem_of_getElem? (i := 16) (by decide +kernel), List.mem_of_getElem? (i := 425) (by decide +kernel), List.mem_of_getElem? (i := 426) (by decide +kernel)⟩
theorem lw_p8 : lw_okq (⟨"TradeHall", "makeTrade", "(III)V"⟩, 5) := ⟨⟨by decide +kernel, by decide +kernel⟩, List.mem_of_getElem? (i := 16) (by decide +kernel), List.mem_of_getElem? (i := 429) (by decide +kernel), List.mem_of_getElem? (i := 430) (by decide +kernel)⟩
theorem lw_p9 : lw_okq (⟨"TradeHall", "showLess", "(II)V"⟩, 5) := ⟨⟨by decide +kernel, by decide +kernel⟩, List.mem_of_getElem? (i := 16) (by decide +kernel), List.mem_of_getElem? (i := 449) (by decide +kernel), List.mem_of_getElem? (i := 450) (by decide +kernel)⟩
theorem lw_p10 : lw_okq (⟨"TradeHall", "wakeStop", "(I)I"⟩, 5) := ⟨⟨by decide +kernel, by decide +kernel⟩, List.mem_of_getElem? (i := 16) (by decide +kernel), List.mem_of_getElem? (i := 457) (by decide +kernel), List.mem_of_getElem? (i := 458) (by decide +kernel)⟩
theorem lw_p11 : lw_okq (⟨"TradeHall", "needOwnOrder", "(II)V"⟩, 5) := ⟨⟨by decide +kernel, by decide +kernel⟩, List.mem_of_getElem? (i := 16) (by decide +kernel), List.mem_of_getElem? (i := 472) (by decide +kernel), List.mem_of_getElem? (i := 473) (by decide +kernel)⟩
theorem lw_p12 : lw_okq (⟨"TradeHall", "needOrder", "(I)V"⟩, 5) := ⟨⟨by decide +kernel, by decide +kernel⟩, List.mem_of_getElem? (i := 16) (by decide +kernel), List.mem_of_getElem? (i := 476) (by decide +kernel), List.mem_of_getElem? (i := 477) (by decide +kernel)⟩
theorem lw_p13 : lw_okq (⟨"TradeHall", "needThere", "(I)V"⟩, 5) := ⟨⟨by decide +kernel, by decide +kernel⟩, List.mem_of_getElem? (i := 16) (by decide +kernel), List.mem_of_getElem? (i := 482) (by decide +kernel), List.mem_of_getElem? (i := 483) (by decide +kernel)⟩
theorem lw_p14 : lw_okq (⟨"TradeHall", "takeAway", "(I)V"⟩, 5) := ⟨⟨by decide +kernel, by decide +kernel⟩, List.mem_of_getElem? (i := 16) (by decide +kernel), List.mem_of_getElem? (i := 491) (by decide +kernel), List.mem_of_getElem? (i := 492) (by decide +kernel)⟩
theorem lw_p15 : lw_okq (⟨"TradeHallModel", "there", "()I"⟩, 32) := ⟨⟨by decide +kernel, by decide +kernel⟩, List.mem_of_getElem? (i := 655) (by decide +kernel), List.mem_of_getElem? (i := 793) (by decide +kernel), List.mem_of_getElem? (i := 794) (by decide +kernel)⟩
def lw_privs_1 : List (MethodName × Nat) := [(⟨"java/lang/Throwable", "fillInStackTrace", "(I)Ljava/lang/Throwable;"⟩, 6), (⟨"TradeHall", "hold", "(II)V"⟩, 5), (⟨"TradeHall", "actByKind", "(I)V"⟩, 5), (⟨"TradeHall", "meetsOther", "(I)Z"⟩, 5), (⟨"TradeHall", "close", "(II)V"⟩, 5), (⟨"TradeHall", "rest", "(I)V"⟩, 5), (⟨"TradeHall", "wouldTradeWholly", "(I)Z"⟩, 5), (⟨"TradeHall", "tradeUntilStopped", "(I)Z"⟩, 5), (⟨"TradeHall", "makeTrade", "(III)V"⟩, 5), (⟨"TradeHall", "showLess", "(II)V"⟩, 5), (⟨"TradeHall", "wakeStop", "(I)I"⟩, 5), (⟨"TradeHall", "needOwnOrder", "(II)V"⟩, 5), (⟨"TradeHall", "needOrder", "(I)V"⟩, 5), (⟨"TradeHall", "needThere", "(I)V"⟩, 5), (⟨"TradeHall", "takeAway", "(I)V"⟩, 5), (⟨"TradeHallModel", "there", "()I"⟩, 32)]
theorem lw_r1 : ∀ q ∈ lw_privs_1, lw_okq q := List.forall_mem_cons.mpr ⟨lw_p0, List.forall_mem_cons.mpr ⟨lw_p1, List.forall_mem_cons.mpr ⟨lw_p2, List.forall_mem_cons.mpr ⟨lw_p3, List.forall_mem_cons.mpr ⟨lw_p4, List.forall_mem_cons.mpr ⟨lw_p5, List.forall_mem_cons.mpr ⟨lw_p6, List.forall_mem_cons.mpr ⟨lw_p7, List.forall_mem_cons.mpr ⟨lw_p8, List.forall_mem_cons.mpr ⟨lw_p9, List.forall_mem_cons.mpr ⟨lw_p10, List.forall_mem_cons.mpr ⟨lw_p11, List.forall_mem_cons.mpr ⟨lw_p12, List.forall_mem_cons.mpr ⟨lw_p13, List.forall_mem_cons.mpr ⟨lw_p14, List.forall_mem_cons.mpr ⟨lw_p15, fun _ h => absurd h List.not_mem_nil⟩⟩⟩⟩⟩⟩⟩⟩⟩⟩⟩⟩⟩⟩⟩⟩
theorem lw_p16 : lw_okq (⟨"TradeHallModel", "isThere", "(I)Z"⟩, 32) := ⟨⟨by decide +kernel, by decide +kernel⟩, List.mem_of_getElem? (i := 655) (by decide +kernel), List.mem_of_getElem? (i := 797) (by decide +kernel), List.mem_of_getElem? (i := 798) (by decide +kernel)⟩
theorem lw_p17 : lw_okq (⟨"TradeHallModel", "free", "(II)V"⟩, 32) := ⟨⟨by decide +kernel, by decide +kernel⟩, List.mem_of_getElem? (i := 655) (by decide +kernel), List.mem_of_getElem? (i := 801) (by decide +kernel), List.mem_of_getElem? (i := 802) (by decide +kernel)⟩
theorem lw_p18 : lw_okq (⟨"TradeHallModel", "act", "(I)V"⟩, 32) := ⟨⟨by decide +kernel, by decide +kernel⟩, List.mem_of_getElem? (i := 655) (by decide +kernel), List.mem_of_getElem? (i := 805) (by decide +kernel), List.mem_of_getElem? (i := 806) (by decide +kernel)⟩
theorem lw_p19 : lw_okq (⟨"TradeHallModel", "first", "(II)I"⟩, 32) := ⟨⟨by decide +kernel, by decide +kernel⟩, List.mem_of_getElem? (i := 655) (by decide +kernel), List.mem_of_getElem? (i := 809) (by decide +kernel), List.mem_of_getElem? (i := 810) (by decide +kernel)⟩
theorem lw_p20 : lw_okq (⟨"TradeHallModel", "rests", "(III)Z"⟩, 32) := ⟨⟨by decide +kernel, by decide +kernel⟩, List.mem_of_getElem? (i := 655) (by decide +kernel), List.mem_of_getElem? (i := 813) (by decide +kernel), List.mem_of_getElem? (i := 814) (by decide +kernel)⟩
theorem lw_p21 : lw_okq (⟨"TradeHallModel", "allows", "(II)Z"⟩, 32) := ⟨⟨by decide +kernel, by decide +kernel⟩, List.mem_of_getElem? (i := 655) (by decide +kernel), List.mem_of_getElem? (i := 820) (by decide +kernel), List.mem_of_getElem? (i := 821) (by decide +kernel)⟩
theorem lw_p22 : lw_okq (⟨"TradeHallModel", "finish", "(IZ)V"⟩, 32) := ⟨⟨by decide +kernel, by decide +kernel⟩, List.mem_of_getElem? (i := 655) (by decide +kernel), List.mem_of_getElem? (i := 824) (by decide +kernel), List.mem_of_getElem? (i := 825) (by decide +kernel)⟩
theorem lw_p23 : lw_okq (⟨"TradeHallModel", "rest", "(I)V"⟩, 32) := ⟨⟨by decide +kernel, by decide +kernel⟩, List.mem_of_getElem? (i := 655) (by decide +kernel), List.mem_of_getElem? (i := 828) (by decide +kernel), List.mem_of_getElem? (i := 829) (by decide +kernel)⟩
theorem lw_p24 : lw_okq (⟨"TradeHallModel", "cancelled", "(I)V"⟩, 32) := ⟨⟨by decide +kernel, by decide +kernel⟩, List.mem_of_getElem? (i := 655) (by decide +kernel), List.mem_of_getElem? (i := 832) (by decide +kernel), List.mem_of_getElem? (i := 833) (by decide +kernel)⟩
theorem lw_p25 : lw_okq (⟨"TradeHallModel", "wouldTrade", "(I)Z"⟩, 32) := ⟨⟨by decide +kernel, by decide +kernel⟩, List.mem_of_getElem? (i := 655) (by decide +kernel), List.mem_of_getElem? (i := 836) (by decide +kernel), List.mem_of_getElem? (i := 837) (by decide +kernel)⟩
theorem lw_p26 : lw_okq (⟨"TradeHallModel", "match", "(I)Z"⟩, 32) := ⟨⟨by decide +kernel, by decide +kernel⟩, List.mem_of_getElem? (i := 655) (by decide +kernel), List.mem_of_getElem? (i := 840) (by decide +kernel), List.mem_of_getElem? (i := 841) (by decide +kernel)⟩
theorem lw_p27 : lw_okq (⟨"TradeHallModel", "exchange", "(III)V"⟩, 32) := ⟨⟨by decide +kernel, by decide +kernel⟩, List.mem_of_getElem? (i := 655) (by decide +kernel), List.mem_of_getElem? (i := 844) (by decide +kernel), List.mem_of_getElem? (i := 845) (by decide +kernel)⟩
theorem lw_p28 : lw_okq (⟨"TradeHallModel", "ready", "(I)I"⟩, 32) := ⟨⟨by decide +kernel, by decide +kernel⟩, List.mem_of_getElem? (i := 655) (by decide +kernel), List.mem_of_getElem? (i := 848) (by decide +kernel), List.mem_of_getElem? (i := 849) (by decide +kernel)⟩
theorem lw_p29 : lw_okq (⟨"TradeHallModel", "refusal", "(IIZ)I"⟩, 32) := ⟨⟨by decide +kernel, by decide +kernel⟩, List.mem_of_getElem? (i := 655) (by decide +kernel), List.mem_of_getElem? (i := 856) (by decide +kernel), List.mem_of_getElem? (i := 857) (by decide +kernel)⟩
theorem lw_p30 : lw_okq (⟨"TradeHallModel", "priceCount", "(II)I"⟩, 32) := ⟨⟨by decide +kernel, by decide +kernel⟩, List.mem_of_getElem? (i := 655) (by decide +kernel), List.mem_of_getElem? (i := 880) (by decide +kernel), List.mem_of_getElem? (i := 881) (by decide +kernel)⟩
theorem lw_p31 : lw_okq (⟨"TradeHallModel", "priceAt", "(III)I"⟩, 32) := ⟨⟨by decide +kernel, by decide +kernel⟩, List.mem_of_getElem? (i := 655) (by decide +kernel), List.mem_of_getElem? (i := 884) (by decide +kernel), List.mem_of_getElem? (i := 885) (by decide +kernel)⟩
def lw_privs_2 : List (MethodName × Nat) := [(⟨"TradeHallModel", "isThere", "(I)Z"⟩, 32), (⟨"TradeHallModel", "free", "(II)V"⟩, 32), (⟨"TradeHallModel", "act", "(I)V"⟩, 32), (⟨"TradeHallModel", "first", "(II)I"⟩, 32), (⟨"TradeHallModel", "rests", "(III)Z"⟩, 32), (⟨"TradeHallModel", "allows", "(II)Z"⟩, 32), (⟨"TradeHallModel", "finish", "(IZ)V"⟩, 32), (⟨"TradeHallModel", "rest", "(I)V"⟩, 32), (⟨"TradeHallModel", "cancelled", "(I)V"⟩, 32), (⟨"TradeHallModel", "wouldTrade", "(I)Z"⟩, 32), (⟨"TradeHallModel", "match", "(I)Z"⟩, 32), (⟨"TradeHallModel", "exchange", "(III)V"⟩, 32), (⟨"TradeHallModel", "ready", "(I)I"⟩, 32), (⟨"TradeHallModel", "refusal", "(IIZ)I"⟩, 32), (⟨"TradeHallModel", "priceCount", "(II)I"⟩, 32), (⟨"TradeHallModel", "priceAt", "(III)I"⟩, 32)]
theorem lw_r2 : ∀ q ∈ lw_privs_2, lw_okq q := List.forall_mem_cons.mpr ⟨lw_p16, List.forall_mem_cons.mpr ⟨lw_p17, List.forall_mem_cons.mpr ⟨lw_p18, List.forall_mem_cons.mpr ⟨lw_p19, List.forall_mem_cons.mpr ⟨lw_p20, List.forall_mem_cons.mpr ⟨lw_p21, List.forall_mem_cons.mpr ⟨lw_p22, List.forall_mem_cons.mpr ⟨lw_p23, List.forall_mem_cons.mpr ⟨lw_p24, List.forall_mem_cons.mpr ⟨lw_p25, List.forall_mem_cons.mpr ⟨lw_p26, List.forall_mem_cons.mpr ⟨lw_p27, List.forall_mem_cons.mpr ⟨lw_p28, List.forall_mem_cons.mpr ⟨lw_p29, List.forall_mem_cons.mpr ⟨lw_p30, List.forall_mem_cons.mpr ⟨lw_p31, fun _ h => absurd h List.not_mem_nil⟩⟩⟩⟩⟩⟩⟩⟩⟩⟩⟩⟩⟩⟩⟩⟩
theorem lw_p32 : lw_okq (⟨"TradeHallModel", "business", "(II)I"⟩, 32) := ⟨⟨by decide +kernel, by decide +kernel⟩, List.mem_of_getElem? (i := 655) (by decide +kernel), List.mem_of_getElem? (i := 924) (by decide +kernel), List.mem_of_getElem? (i := 925) (by decide +kernel)⟩
def lw_privs_3 : List (MethodName × Nat) := [(⟨"TradeHallModel", "business", "(II)I"⟩, 32)]
theorem lw_r3 : ∀ q ∈ lw_privs_3, lw_okq q := List.forall_mem_cons.mpr ⟨lw_p32, fun _ h => absurd h List.not_mem_nil⟩
def lw_privs : List (MethodName × Nat) := lw_privs_1 ++ (lw_privs_2 ++ (lw_privs_3))
def lw_tbl : List Cond := k2_sels lw_privs ++ tables_1
theorem lw_privs_ok : ∀ q ∈ lw_privs, lw_okq q := by
  show ∀ q ∈ lw_privs_1 ++ (lw_privs_2 ++ (lw_privs_3)), lw_okq q
  exact List.forall_mem_append.mpr ⟨lw_r1, List.forall_mem_append.mpr ⟨lw_r2, lw_r3⟩⟩
end
section
/-! ===== BEGIN words of one list among another's, by their places ===== -/
theorem goodIn_r {big : List Cond} (ws : List Cond) (ps : List Nat) (hp : ws = ps.filterMap (fun i => big[i]?)) (h : ws.all goodWord = true) : GoodIn big ws := by
  intro w hw
  have h1 := List.all_eq_true.mp h w hw
  rw [hp] at hw
  obtain ⟨i, -, hi⟩ := List.mem_filterMap.mp hw
  have hm : w ∈ big := by first | exact List.mem_of_getElem? hi | exact List.getElem?_mem hi
  exact ⟨hm, good_of_word h1⟩
theorem goodIn_app {big a b : List Cond} (ha : GoodIn big a) (hb : GoodIn big b) : GoodIn big (a ++ b) := fun w h => (List.mem_append.mp h).elim (ha w) (hb w)
theorem goodIn_ca {big a b : List Cond} {c : Cond} (ha : GoodIn big (c :: a)) (hb : GoodIn big b) : GoodIn big (c :: (a ++ b)) := fun w h => (List.mem_cons.mp h).elim (fun e => ha w (List.mem_cons.mpr (Or.inl e))) (fun h => (List.mem_append.mp h).elim (fun h => ha w (List.mem_cons.mpr (Or.inr h))) (hb w))
theorem goodIn_sub {big ws : List Cond} (hm : ∀ w ∈ ws, w ∈ big) (h : ws.all goodWord = true) : GoodIn big ws := fun w hw => ⟨hm w hw, good_of_word (List.all_eq_true.mp h w hw)⟩
/-! ===== END ===== -/

/-! ===== BEGIN exceptions that leave a method, and their catching by the caller (launches without stack traces) ===== -/
section VXA
/-! The laws vx_back, vx_callV, vx_callS, vx_callSW, vx_throw0, vx_throwS follow proofs of the library, with one case more: JvmDerived/Free/Laws.lean (Back.of_free), Shelf42/LK1.lean (callV, callS), Shelf/KitTraced.lean (throwNew0V, throwNewS). -/
/-- where a method has thrown q: the class by its name, the cell, what was written, the world -/
def vx_T (XC : String → State → State → Prop) (st : State) (q : Addr) (t : State) (mc ms : Nat) (free : Addr → Prop) : Prop :=
  ∃ (E : String) (ce : Cell) (L : List Loc), XC E st t ∧ t.heap[q]? = some ce ∧ ce.vm = .none ∧ st.vm.findClass E = some ce.cls ∧ st.WarmedH t.vm ∧ st.sameButNew ({ t with vm := st.vm } : State) L mc ms ∧ ∀ z ∈ L, free z.base
def vx_Q (Qc : Array Value → State → Outcome → State → Prop) (XC : String → State → State → Prop) (mc ms : Nat) (free : Addr → Prop) : Array Value → State → Outcome → State → Prop := fun a st o t =>
  (Qc a st o t ∧ ∃ L, FrameEnd st o t L mc ms ∧ ∀ q ∈ L, free q.base) ∨ ∃ q, o = .threw q ∧ vx_T XC st q t mc ms free
/-- a callee that returns or throws -/
def vx_Met (l : Launch) (y : MethodName) (ws : List Cond) (rm : Room) (Pc : Array Value → State → Prop) (Qc : Array Value → State → Outcome → State → Prop) (XC : String → State → State → Prop) (mc ms : Nat) (free : Addr → Prop) : Prop :=
  MetFree l y (headSpec ws rm) Pc (fun _ _ _ _ _ => True) (vx_Q Qc XC mc ms free)
def vx_Post (XC : String → State → State → Prop) (mc ms : Nat) (free : Addr → Prop) : Pt → Array Value → Addr → Pt → Prop := fun A a q B =>
  ∃ (g : JFrame) (mk : MethodId) (t : State) (L : List Loc) (E : String) (ce : Cell), B.U.heap = t.heap ∧ B.U.vm = t.vm ∧ XC E (A.U.calling g mk a) t ∧ t.heap[q]? = some ce ∧ ce.vm = .none ∧ A.U.vm.findClass E = some ce.cls ∧ B.locs = A.locs ++ L ∧ (∀ z ∈ L, free z.base) ∧ B.cells = A.cells + mc ∧ B.slots = A.slots + ms
def vx_Back (l : Launch) (R : Room) (p : Program) (e : Env) (below : List Frame) (s : State) (sargs : Array Value) (y : MethodName) (len W9 : Nat)
    (Pre : Pt → Array Value → Prop) (Post : Pt → Array Value → Option Value → Pt → Prop) (PostX : Pt → Array Value → Addr → Pt → Prop) : Prop :=
  ∀ (m : MethodId) (meth : Method) (c : Code) (A : Pt) (g : JFrame) (ig : Instr) (mk : MethodId) (a : Array Value),
    Stand p l e R s m sargs below meth c A.U A.locs A.cells A.slots → g.method = m → g.locals.size = c.maxLocals → decode c.code g.pc = .ok (ig, len) →
    2 * g.monitorRoom + (g.stack.map fun v => v.category).sum ≤ W9 → A.U.methodNamed? y = some mk → Pre A a →
    (∃ (v : Option Value) (B : Pt), Stand p l e R s m sargs below meth c B.U B.locs B.cells B.slots ∧ Post A a v B ∧
      Steps p.tables e below (doInvoke e (A.U.setTop g) [] mk a).1 (B.U.setTop { g with pc := g.pc + len, stack := v.toList ++ g.stack })) ∨
    (∃ (q : Addr) (B : Pt), Stand p l e R s m sargs below meth c B.U B.locs B.cells B.slots ∧ PostX A a q B ∧
      Steps p.tables e below (doInvoke e (A.U.setTop g) [] mk a).1 ((B.U.setTop g).pushFrame (.throwing q)))
section Payer
variable {l : Launch} {R : Room} {p : Program} {e : Env} {below : List Frame} {s : State} {sargs : Array Value} {y : MethodName} {len W9 : Nat}
theorem vx_back {ws : List Cond} {rm : Room} {Pc : Array Value → State → Prop} {Qc : Array Value → State → Outcome → State → Prop} {XC : String → State → State → Prop} {mc ms : Nat} {free : Addr → Prop} {bytes : ByteArray} {maxL : Nat} {ret : Option FieldType}
    (hM : vx_Met l y ws rm Pc Qc XC mc ms free) (hblind : FrameBlind Pc) (hrc : rm.cells = mc) (hrs : rm.slots = ms)
    (hframes : rm.frames + 1 ≤ R.frames) (hlocals : W9 + (maxL + 11) + rm.locals ≤ R.locals)
    (hws : ∀ w ∈ ws, ∀ a' U, s.WarmedH U.vm → w.before a' U = true) (hcode : Cond.code y bytes maxL ret ∈ ws) (hinit : ∀ a' U, s.WarmedH U.vm → (Cond.initialized y.cls).before a' U = true) :
    vx_Back l R p e below s sargs y len W9 (PreOf R mc ms Pc) (PostOf Qc mc ms free) (vx_Post XC mc ms free) := by
  intro m meth c A g ig mk a X hg hsize hdg hW hn hp
  have h1 : (headSpec ws rm).pre.before a A.U = true := atoms_intro fun w hw => hws w hw _ _ X.warmed
  have h2 : (Cond.code y bytes maxL ret).before a A.U = true := hws _ hcode _ _ X.warmed
  have h3 : (Cond.initialized y.cls).before a A.U = true := hinit _ _ X.warmed
  have h4 : A.cells + (headSpec ws rm).room.cells ≤ R.cells := by rw [show (headSpec ws rm).room.cells = mc from hrc]; exact hp.1
  have h5 : A.slots + (headSpec ws rm).room.slots ≤ R.slots := by rw [show (headSpec ws rm).room.slots = ms from hrs]; exact hp.2.1
  have hPc : Pc a (A.U.calling g mk a) := hblind _ _ _ _ hp.2.2
  obtain ⟨U, Ls, c0, s0⟩ := A
  dsimp only [Pt.U, Pt.locs, Pt.cells, Pt.slots] at h1 h2 h3 h4 h5 X hn hPc ⊢
  obtain ⟨methY, cY, hmY, hcY, -, hlY, -, -, -, -⟩ := Cond.code_spec hn h2
  obtain ⟨kY, hkY, -⟩ := className_of_methodNamed hn
  have hinitY : kY.init = .initialized := Cond.initialized_spec (findClass_of_methodNamed hn) hkY h3
  have h : At U g.method c below := by rw [hg]; exact X.here
  have hlocals9 : W9 + (maxL + 11) + (headSpec ws rm).room.locals ≤ R.locals := hlocals
  have happ : (headSpec ws rm).appliesLoose y e.platform (U.calling g mk a) = true :=
    Spec.appliesLoose_calling (g := g) h hdg hn hkY hinitY
      (X.room_calling (g := g) (R' := (headSpec ws rm).room) hsize hmY hcY hframes (by rw [hlY]; omega) h4 h5) h1
  obtain ⟨mid, hmid⟩ := h.above
  have hfr : (U.setTop g).frames = (.java g :: mid) ++ below := by rw [State.frames_setTop' g h.top, hmid]; rfl
  obtain ⟨o, s₂, hsteps, -, hend, hq⟩ := Steps.callFree hM p X.admits X.cas X.clock (acts := []) hfr happ hPc trivial
  have hq' : vx_Q Qc XC mc ms free a (U.calling g mk a) o s₂ := hq
  rw [State.frames_setTop' g h.top] at hend
  obtain ⟨g₀, hg0⟩ := Option.isSome_iff_exists.mp h.top
  obtain ⟨r, hr⟩ := State.topJava?_eq_some.mp hg0
  have hr' : (({ U with heap := s₂.heap, slotsUsed := s₂.slotsUsed } : State).setVm s₂.vm).frames = .java g₀ :: r := hr
  rcases hq' with ⟨hqc, L, hfe, hL⟩ | ⟨q, rfl, E, ce, L, hx, hce, hcv, hcl, hW₂, hsm, hL⟩
  · obtain ⟨⟨v, rfl⟩, hW₂, e2, q2, q3, q4, q5, q6⟩ := id hfe
    have e3 : s₂ = ({ (U.calling g mk a).setFrames s₂.frames with heap := s₂.heap, slotsUsed := s₂.slotsUsed } : State).setVm s₂.vm := by
      have : s₂ = ({ s₂ with vm := (U.calling g mk a).vm } : State).setVm s₂.vm := rfl
      rw [e2] at this
      exact this
    obtain ⟨c₂, i₂, len₂, hc₂, hd₂, hf₂⟩ := hend
    have hW' : U.WarmedH s₂.vm := hW₂
    have hcc : c₂ = c := by
      have h1 : s₂.code? g.method = U.code? g.method := by
        rw [State.code?_eq, State.code?_eq, hW'.alike.method?]
      exact Option.some.inj (hc₂.symm.trans (h1.trans h.code))
    subst hcc
    have hlen : len₂ = len := by rw [hdg] at hd₂; cases hd₂; rfl
    subst hlen
    have hs₂ : s₂ = (({ U with heap := s₂.heap, slotsUsed := s₂.slotsUsed } : State).setVm s₂.vm).setTop { g with pc := g.pc + len₂, stack := v.toList ++ g.stack } := by
      refine e3.trans ?_
      rw [hf₂, State.calling_eq h.top, State.setFrames_setFrames, State.setTop_of_frames _ hr', hr]
      rfl
    have hsame : U.sameButNew ({ U with heap := s₂.heap, slotsUsed := s₂.slotsUsed } : State) L mc ms := by
      refine ⟨?_, q2, q3, q4, q5, q6⟩
      obtain ⟨t, ht, -⟩ := State.frames_cons hr
      show ({ U with heap := s₂.heap, slotsUsed := s₂.slotsUsed } : State) = { U.setFrames U.frames with heap := s₂.heap, slotsUsed := s₂.slotsUsed }
      rw [State.setFrames_self ht]
    subst hg
    refine Or.inl ⟨v, ⟨(({ U with heap := s₂.heap, slotsUsed := s₂.slotsUsed } : State).setVm s₂.vm), Ls ++ L, c0 + mc, s0 + ms⟩,
      ⟨X.admits, X.cas, X.clock, X.frames, X.room, X.hears, X.method, X.code, (X.here.setHeapUsed s₂.heap s₂.slotsUsed).setVm hW'.alike, X.tail, State.WarmedH.trans X.warmed hW', X.limits, X.bytes, X.same.trans (hsame.setVm s.vm)⟩,
      ⟨g, mk, s₂, L, rfl, rfl, hqc, rfl, hL, rfl, rfl⟩, ?_⟩
    show Steps p.tables e below _ ((({ U with heap := s₂.heap, slotsUsed := s₂.slotsUsed } : State).setVm s₂.vm).setTop { g with pc := g.pc + len₂, stack := v.toList ++ g.stack })
    rw [← hs₂]
    exact hsteps
  · obtain ⟨e2, q2, q3, q4, q5, q6⟩ := id hsm
    have e3 : s₂ = ({ (U.calling g mk a).setFrames s₂.frames with heap := s₂.heap, slotsUsed := s₂.slotsUsed } : State).setVm s₂.vm := by
      have : s₂ = ({ s₂ with vm := (U.calling g mk a).vm } : State).setVm s₂.vm := rfl
      rw [e2] at this
      exact this
    have hf₂ : s₂.frames = .throwing q :: .java g :: U.frames.tail := hend
    have hW' : U.WarmedH s₂.vm := hW₂
    have hs₂ : s₂ = ((({ U with heap := s₂.heap, slotsUsed := s₂.slotsUsed } : State).setVm s₂.vm).setTop g).pushFrame (.throwing q) := by
      refine e3.trans ?_
      rw [hf₂, State.calling_eq h.top, State.setFrames_setFrames, State.pushFrame, State.frames_setTop _ hr', State.setTop_of_frames _ hr', State.setFrames_setFrames, hr]
      rfl
    have hsame : U.sameButNew ({ U with heap := s₂.heap, slotsUsed := s₂.slotsUsed } : State) L mc ms := by
      refine ⟨?_, q2, q3, q4, q5, q6⟩
      obtain ⟨t, ht, -⟩ := State.frames_cons hr
      show ({ U with heap := s₂.heap, slotsUsed := s₂.slotsUsed } : State) = { U.setFrames U.frames with heap := s₂.heap, slotsUsed := s₂.slotsUsed }
      rw [State.setFrames_self ht]
    subst hg
    refine Or.inr ⟨q, ⟨(({ U with heap := s₂.heap, slotsUsed := s₂.slotsUsed } : State).setVm s₂.vm), Ls ++ L, c0 + mc, s0 + ms⟩,
      ⟨X.admits, X.cas, X.clock, X.frames, X.room, X.hears, X.method, X.code, (X.here.setHeapUsed s₂.heap s₂.slotsUsed).setVm hW'.alike, X.tail, State.WarmedH.trans X.warmed hW', X.limits, X.bytes, X.same.trans (hsame.setVm s.vm)⟩,
      ⟨g, mk, s₂, L, E, ce, rfl, rfl, hx, hce, hcv, hcl, rfl, hL, rfl, rfl⟩, ?_⟩
    show Steps p.tables e below _ (((({ U with heap := s₂.heap, slotsUsed := s₂.slotsUsed } : State).setVm s₂.vm).setTop g).pushFrame (.throwing q))
    rw [← hs₂]
    exact hsteps
end Payer
section Calls
variable {p : Program} {l : Launch} {e : Env} {R : Room} {s : State} {m : MethodId} {args : Array Value} {below : List Frame} {meth : Method} {c : Code} {T : State} {locs : List Loc} {cells slots : Nat}
theorem vx_callV (X : Stand p l e R s m args below meth c T locs cells slots) (hexec : p.tables.exec = Jvm.exec) {own C : String} {index : Nat} {y : MethodName} {bytes : ByteArray} {maxL : Nat} {ret : Option FieldType}
    (hown : s.vm.findClass own = some m.cls) (hlink : (Cond.methodLink own index y).before args s = true) (hinst : (Cond.instanceMethod y).before args s = true) (hsel : (Cond.selects C y y).before args s = true)
    (hcode : (Cond.code y bytes maxL ret).before args s = true) (hy : y.cls ≠ "java/lang/invoke/MethodHandle" ∧ y.cls ≠ "java/lang/invoke/VarHandle")
    {W9 : Nat} {Pre : Pt → Array Value → Prop} {Post : Pt → Array Value → Option Value → Pt → Prop} {PostX : Pt → Array Value → Addr → Pt → Prop} (hK : vx_Back l R p e below s args y 3 W9 Pre Post PostX)
    {b : Addr} {cellB : Cell} (hcell : T.heap[b]? = some cellB) (hobj : cellB.vm.isStatics = false) (hcls : s.vm.findClass C = some cellB.cls)
    {g : JFrame} (hg : g.method = m) (hsize : g.locals.size = c.maxLocals) {argsL rest : List Value} (hlen : ∀ sig, parseMethodDescriptor y.desc = some sig → argsL.length = sig.parameters.length)
    (hstack : g.stack = argsL.reverse ++ .ref b :: rest) (hW : 2 * g.monitorRoom + (rest.map fun v => v.category).sum ≤ W9) (hdg : decode c.code g.pc = .ok (.invokevirtual index, 3))
    (hpre : ∀ vm₁, s.WarmedH vm₁ → Pre ⟨T.setVm vm₁, locs, cells, slots⟩ (Value.ref b :: argsL).toArray) :
    (∃ (v : Option Value) (vm₁ : Vm) (B : Pt), s.WarmedH vm₁ ∧ Stand p l e R s m args below meth c B.U B.locs B.cells B.slots ∧ Post ⟨T.setVm vm₁, locs, cells, slots⟩ (Value.ref b :: argsL).toArray v B ∧
      ∀ target, Steps p.tables e below (B.U.setTop { g with pc := g.pc + 3, stack := v.toList ++ rest }) target → Steps p.tables e below (T.setTop g) target) ∨
    (∃ (q : Addr) (vm₁ : Vm) (B : Pt), s.WarmedH vm₁ ∧ Stand p l e R s m args below meth c B.U B.locs B.cells B.slots ∧ PostX ⟨T.setVm vm₁, locs, cells, slots⟩ (Value.ref b :: argsL).toArray q B ∧
      Steps p.tables e below (T.setTop g) ((B.U.setTop { g with stack := rest }).pushFrame (.throwing q))) := by
  obtain ⟨mk, methM, hnamed, hmethM, hstM, habM⟩ := Cond.instanceMethod_spec hinst
  obtain ⟨methM', cM, hmethM', -, -, -, -, -, -, hsigM⟩ := Cond.code_spec hnamed hcode
  cases hmethM.symm.trans hmethM'
  obtain ⟨c2, r2, m2, q1, q2, q3, q4, kP, hkP, hkPi⟩ := Cond.selects_spec hsel
  cases hcls.symm.trans q1
  cases (State.methodFound?_of_named hnamed hy).symm.trans q2
  cases hnamed.symm.trans q3
  have hselP : selectMethod e.platform s.vm cellB.cls mk = .method mk := by rw [Launch.admits_selectMethod X.admits]; exact q4
  obtain ⟨vm₁, X₁, hstep₁⟩ := X.invokevirtual hexec hown hlink hnamed hmethM hstM hkP hkPi hy (a := b) (cell := cellB) hcell
    (fun z h => by rw [h] at hobj; cases hobj) hselP hmethM habM hkP hkPi (g := g) hg (argsL := argsL) (rest := rest) (hlen _ hsigM) hstack hdg
  rcases hK m meth c ⟨T.setVm vm₁, locs, cells, slots⟩ { g with stack := rest } (.invokevirtual index) mk (Value.ref b :: argsL).toArray X₁ hg hsize hdg hW (X₁.named hnamed) (hpre vm₁ X₁.warmed) with ⟨v, B, X', hpost, hsteps⟩ | ⟨q, B, X', hpost, hsteps⟩
  · exact Or.inl ⟨v, vm₁, B, X₁.warmed, X', hpost, fun target h => hstep₁ _ fun acts => by rw [doInvoke_state]; exact hsteps.trans h⟩
  · exact Or.inr ⟨q, vm₁, B, X₁.warmed, X', hpost, hstep₁ _ fun acts => by rw [doInvoke_state]; exact hsteps⟩
theorem vx_callS (X : Stand p l e R s m args below meth c T locs cells slots) (hexec : p.tables.exec = Jvm.exec) {own : String} {index : Nat} {y : MethodName} {bytes : ByteArray} {maxL : Nat} {ret : Option FieldType}
    (hown : s.vm.findClass own = some m.cls) (hlink : (Cond.methodLink own index y).before args s = true) (hstat : (Cond.static y).before args s = true) (hinit : (Cond.initialized y.cls).before args s = true)
    (hcode : (Cond.code y bytes maxL ret).before args s = true) (hy : y.cls ≠ "java/lang/invoke/MethodHandle" ∧ y.cls ≠ "java/lang/invoke/VarHandle")
    {W9 : Nat} {Pre : Pt → Array Value → Prop} {Post : Pt → Array Value → Option Value → Pt → Prop} {PostX : Pt → Array Value → Addr → Pt → Prop} (hK : vx_Back l R p e below s args y 3 W9 Pre Post PostX)
    {g : JFrame} (hg : g.method = m) (hsize : g.locals.size = c.maxLocals) {argsL rest : List Value} (hlen : ∀ sig, parseMethodDescriptor y.desc = some sig → argsL.length = sig.parameters.length)
    (hstack : g.stack = argsL.reverse ++ rest) (hW : 2 * g.monitorRoom + (rest.map fun v => v.category).sum ≤ W9) (hdg : decode c.code g.pc = .ok (.invokestatic index, 3))
    (hpre : ∀ vm₁, s.WarmedH vm₁ → Pre ⟨T.setVm vm₁, locs, cells, slots⟩ argsL.toArray) :
    (∃ (v : Option Value) (vm₁ : Vm) (B : Pt), s.WarmedH vm₁ ∧ Stand p l e R s m args below meth c B.U B.locs B.cells B.slots ∧ Post ⟨T.setVm vm₁, locs, cells, slots⟩ argsL.toArray v B ∧
      ∀ target, Steps p.tables e below (B.U.setTop { g with pc := g.pc + 3, stack := v.toList ++ rest }) target → Steps p.tables e below (T.setTop g) target) ∨
    (∃ (q : Addr) (vm₁ : Vm) (B : Pt), s.WarmedH vm₁ ∧ Stand p l e R s m args below meth c B.U B.locs B.cells B.slots ∧ PostX ⟨T.setVm vm₁, locs, cells, slots⟩ argsL.toArray q B ∧
      Steps p.tables e below (T.setTop g) ((B.U.setTop { g with stack := rest }).pushFrame (.throwing q))) := by
  obtain ⟨mk, hnamed⟩ := Cond.code_named hcode
  obtain ⟨methM, cM, hmethM, -, -, -, -, -, -, hsigM⟩ := Cond.code_spec hnamed hcode
  have hstatic : methM.isStatic = true := Cond.static_spec hnamed hmethM hstat
  obtain ⟨kP, hkP, -⟩ := className_of_methodNamed hnamed
  have hinitP : kP.init = .initialized := Cond.initialized_spec (findClass_of_methodNamed hnamed) hkP hinit
  obtain ⟨vm₁, X₁, hstep₁⟩ := X.invokestatic hexec hown hlink hnamed hmethM hstatic hkP hinitP hy (g := g) hg (argsL := argsL) (rest := rest) (hlen _ hsigM) hstack hdg
  rcases hK m meth c ⟨T.setVm vm₁, locs, cells, slots⟩ { g with stack := rest } (.invokestatic index) mk argsL.toArray X₁ hg hsize hdg hW (X₁.named hnamed) (hpre vm₁ X₁.warmed) with ⟨v, B, X', hpost, hsteps⟩ | ⟨q, B, X', hpost, hsteps⟩
  · exact Or.inl ⟨v, vm₁, B, X₁.warmed, X', hpost, fun target h => hstep₁ _ fun acts => by rw [doInvoke_state]; exact hsteps.trans h⟩
  · exact Or.inr ⟨q, vm₁, B, X₁.warmed, X', hpost, hstep₁ _ fun acts => by rw [doInvoke_state]; exact hsteps⟩
end Calls
theorem vx_cls {s : State} {T : State} {vm₁ : Vm} {E : String} {k : ClassId} (hW : s.WarmedH vm₁) (h : (T.setVm vm₁).vm.findClass E = some k) : s.vm.findClass E = some k := by
  have h1 : vm₁.findClass E = some k := h
  rw [hW.alike.findClass] at h1
  exact h1
/-- the method's frame g, with q thrown over it -/
def vx_W (p : Program) (l : Launch) (e : Env) (R : Room) (s : State) (m : MethodId) (args : Array Value) (below : List Frame) (meth : Method) (c : Code) (H : Heap) (locs : List Loc) (cells slots : Nat) (Q : State → Prop) (g : JFrame) (q : Addr) : Prop :=
  ∀ T : State, T.heap = H → Stand p l e R s m args below meth c T locs cells slots → ∃ t, Steps p.tables e below ((T.setTop g).pushFrame (.throwing q)) t ∧ Q t
def vx_Run (p : Program) (l : Launch) (e : Env) (R : Room) (s : State) (m : MethodId) (args : Array Value) (below : List Frame) (meth : Method) (c : Code) (H : Heap) (locs : List Loc) (cells slots mc ms : Nat) (g : JFrame) (rest : List Value) (Qa : State → Outcome → State → Prop) (XC : String → State → State → Prop) (free : Addr → Prop) : Prop :=
  ∀ T : State, T.heap = H → Stand p l e R s m args below meth c T locs cells slots →
    (∃ (v : Option Value) (st₀ t T' : State) (L : List Loc), st₀.heap = H ∧ Stand p l e R s m args below meth c T' (locs ++ L) (cells + mc) (slots + ms) ∧ (∀ q ∈ L, free q.base) ∧ T'.heap = t.heap ∧ T'.vm = t.vm ∧ Qa st₀ (.returned v) t ∧
      Goes p e below T g T' { g with pc := g.pc + 3, stack := v.toList ++ rest }) ∨
    (∃ (q : Addr) (st₀ t T' : State) (L : List Loc) (E : String) (ce : Cell), st₀.heap = H ∧ Stand p l e R s m args below meth c T' (locs ++ L) (cells + mc) (slots + ms) ∧ (∀ z ∈ L, free z.base) ∧ T'.heap = t.heap ∧ T'.vm = t.vm ∧ XC E st₀ t ∧ t.heap[q]? = some ce ∧ ce.vm = .none ∧ s.vm.findClass E = some ce.cls ∧
      Steps p.tables e below (T.setTop g) ((T'.setTop { g with stack := rest }).pushFrame (.throwing q)))
def vx_X {S : Type} (px : S → Prop) (B : String → S → State → Prop) (A : Nat → Prop) : String → State → State → Prop := fun E st t => ∃ u : S, px u ∧ B E u t ∧ va_F A st t
section Runs
variable {p : Program} {l : Launch} {e : Env} {R : Room} {s : State} {m : MethodId} {args : Array Value} {below : List Frame} {meth : Method} {c : Code} {H : Heap} {locs : List Loc} {cells slots : Nat}
variable {y : MethodName} {bytes cc : ByteArray} {maxL nL mc ms n index : Nat} {ret : Option FieldType} {ws : List Cond} {rm : Room} {Pc : Array Value → State → Prop} {Qc : Array Value → State → Outcome → State → Prop} {XC : String → State → State → Prop} {free : Addr → Prop} {Ts : List Cond} {own C : String} {b : Addr} {As rest : List Value} {g : JFrame}
theorem vx_callBack (cb : CallB R s args own index y bytes maxL ret ws rm mc ms n) (hM : vx_Met l y ws rm Pc Qc XC mc ms free) (hbl : FrameBlind Pc) : vx_Back l R p e below s args y 3 8 (PreOf R mc ms Pc) (PostOf Qc mc ms free) (vx_Post XC mc ms free) := by
  obtain ⟨hrc, hrs, hfr, hlo, hws, hcw, -, hini, -⟩ := cb
  exact vx_back (bytes := bytes) (maxL := maxL) (ret := ret) hM hbl hrc hrs hfr hlo hws hcw (fun a' U hW => word_at hW (Or.inl (by first | rfl | simp [Cond.onTables, Cond.keeps, Cond.steady])) hini)
theorem vx_runV (S : CallFix p m c cc nL s args Ts own) (hM : vx_Met l y ws rm Pc Qc XC mc ms free) (cw : CallW R s args own C index y bytes maxL ret ws rm mc ms n) (hp : PreV s H C b Pc As)
    (hg : g.method = m) (hn : As.length = n) (hsize : g.locals.size = nL) (hstack : g.stack = As.reverse ++ .ref b :: rest) (hW : 2 * g.monitorRoom + (rest.map fun v => v.category).sum ≤ 8) (hdg : decode cc g.pc = .ok (.invokevirtual index, 3)) (hf : cells + mc ≤ R.cells ∧ slots + ms ≤ R.slots) :
    vx_Run p l e R s m args below meth c H locs cells slots mc ms g rest (Qc (Value.ref b :: As).toArray) XC free := by
  have hK : vx_Back l R p e below s args y 3 8 (PreOf R mc ms Pc) (PostOf Qc mc ms free) (vx_Post XC mc ms free) := vx_callBack cw.1 hM hp.1
  obtain ⟨⟨-, -, -, -, -, -, hcode, -, hy, hlen, hl⟩, hin, hse⟩ := cw
  obtain ⟨hx, hb, hml, ho, -⟩ := S
  obtain ⟨-, ⟨cellB, hcB, hoB, hclB⟩, hPc⟩ := hp
  intro T hT X
  rcases vx_callV X hx (C := C) (bytes := bytes) (maxL := maxL) (ret := ret) ho hl hin hse hcode hy hK (by rw [hT]; exact hcB) hoB hclB hg (hsize.trans hml.symm) (argsL := As) (rest := rest) (fun sig h => hn.trans (hlen sig h)) hstack hW (by rw [hb]; exact hdg)
    (fun vm₁ hW₁ => ⟨hf.1, hf.2, hPc (T.setVm vm₁) hT hW₁⟩) with ⟨v, vm₁, ⟨U', l2, c2, s2⟩, hW₁, X', ⟨g', mk, t, L, e1, e2, hq, h1, hL, h2, h3⟩, st⟩ | ⟨q, vm₁, ⟨U', l2, c2, s2⟩, hW₁, X', ⟨g', mk, t, L, E, ce, e1, e2, hq, hce, hcv, hcl, h1, hL, h2, h3⟩, st⟩
  · dsimp only [Pt.U, Pt.locs, Pt.cells, Pt.slots] at X' e1 e2 h1 h2 h3 st
    subst h1; subst h2; subst h3
    exact Or.inl ⟨v, (T.setVm vm₁).calling g' mk (Value.ref b :: As).toArray, t, U', L, hT, X', hL, e1, e2, hq, st⟩
  · dsimp only [Pt.U, Pt.locs, Pt.cells, Pt.slots] at X' e1 e2 h1 h2 h3 st hcl
    subst h1; subst h2; subst h3
    exact Or.inr ⟨q, (T.setVm vm₁).calling g' mk (Value.ref b :: As).toArray, t, U', L, E, ce, hT, X', hL, e1, e2, hq, hce, hcv, vx_cls hW₁ hcl, st⟩
theorem vx_runS (S : CallFix p m c cc nL s args Ts own) (hM : vx_Met l y ws rm Pc Qc XC mc ms free) (cw : CallB R s args own index y bytes maxL ret ws rm mc ms n ∧ (Cond.static y).before args s = true) (hp : PreS s H Pc As)
    (hg : g.method = m) (hn : As.length = n) (hsize : g.locals.size = nL) (hstack : g.stack = As.reverse ++ rest) (hW : 2 * g.monitorRoom + (rest.map fun v => v.category).sum ≤ 8) (hdg : decode cc g.pc = .ok (.invokestatic index, 3)) (hf : cells + mc ≤ R.cells ∧ slots + ms ≤ R.slots) :
    vx_Run p l e R s m args below meth c H locs cells slots mc ms g rest (Qc As.toArray) XC free := by
  have hK : vx_Back l R p e below s args y 3 8 (PreOf R mc ms Pc) (PostOf Qc mc ms free) (vx_Post XC mc ms free) := vx_callBack cw.1 hM hp.1
  obtain ⟨⟨-, -, -, -, -, -, hcode, hini, hy, hlen, hl⟩, hstt⟩ := cw
  obtain ⟨hx, hb, hml, ho, -⟩ := S
  intro T hT X
  rcases vx_callS X hx (bytes := bytes) (maxL := maxL) (ret := ret) ho hl hstt hini hcode hy hK hg (hsize.trans hml.symm) (argsL := As) (rest := rest) (fun sig h => hn.trans (hlen sig h)) hstack hW (by rw [hb]; exact hdg)
    (fun vm₁ hW₁ => ⟨hf.1, hf.2, hp.2 (T.setVm vm₁) hT hW₁⟩) with ⟨v, vm₁, ⟨U', l2, c2, s2⟩, hW₁, X', ⟨g', mk, t, L, e1, e2, hq, h1, hL, h2, h3⟩, st⟩ | ⟨q, vm₁, ⟨U', l2, c2, s2⟩, hW₁, X', ⟨g', mk, t, L, E, ce, e1, e2, hq, hce, hcv, hcl, h1, hL, h2, h3⟩, st⟩
  · dsimp only [Pt.U, Pt.locs, Pt.cells, Pt.slots] at X' e1 e2 h1 h2 h3 st
    subst h1; subst h2; subst h3
    exact Or.inl ⟨v, (T.setVm vm₁).calling g' mk As.toArray, t, U', L, hT, X', hL, e1, e2, hq, st⟩
  · dsimp only [Pt.U, Pt.locs, Pt.cells, Pt.slots] at X' e1 e2 h1 h2 h3 st hcl
    subst h1; subst h2; subst h3
    exact Or.inr ⟨q, (T.setVm vm₁).calling g' mk As.toArray, t, U', L, E, ce, hT, X', hL, e1, e2, hq, hce, hcv, vx_cls hW₁ hcl, st⟩
end Runs
section Rows
variable {p : Program} {l : Launch} {e : Env} {R : Room} {s : State} {m : MethodId} {args : Array Value} {below : List Frame} {meth : Method} {c : Code} {H : Heap} {locs : List Loc} {cells slots : Nat} {Q : State → Prop}
variable {mc ms : Nat} {free : Addr → Prop} {A0 A1 : Nat → Prop} {H0 : Heap} {a : Array Value} {pc : Nat} {ls : Array Slot} {st0 rest : List Value}
theorem vx_keep {st₀ t T' : State} {L : List Loc} (h0 : st₀.heap = H) (e1 : T'.heap = t.heap) (hS : va_S A0 H0 H locs) (hA : ∀ q, q < H.size → A1 q → A0 q) (hf : ∀ q, free q → A0 q) (hL : ∀ q ∈ L, free q.base) (hF : va_F A1 st₀ t) :
    H.size ≤ T'.heap.size ∧ (∀ q : Nat, q < H.size → ¬ A1 q → T'.heap[q]? = H[q]?) ∧ va_S A0 H0 T'.heap (locs ++ L) := by
  obtain ⟨hz, hk⟩ := hF
  rw [h0] at hz hk
  exact ⟨by rw [e1]; exact hz, fun q h1 h2 => by rw [e1]; exact hk q h1 h2,
    ⟨Nat.le_trans hS.1 (by rw [e1]; exact hz), fun q h1 h2 => by rw [e1, hk q (Nat.lt_of_lt_of_le h1 hS.1) (fun z => h2 (hA q (Nat.lt_of_lt_of_le h1 hS.1) z))]; exact hS.2.1 q h1 h2, fun q hq => by
      rcases List.mem_append.mp hq with h | h
      · exact hS.2.2 q h
      · exact hf _ (hL q h)⟩⟩
theorem vx_calli {S SX : Type} {post : Int32 → S → Prop} {px : SX → Prop} {B : S → State → Prop} {BX : String → SX → State → Prop} {AX : Nat → Prop} (hr : vx_Run p l e R s m args below meth c H locs cells slots mc ms (F0 m pc ls st0) rest (va_Qi post B A1 a) (vx_X px BX AX) free) (hS : va_S A0 H0 H locs) (hA : ∀ q, q < H.size → A1 q → A0 q) (hf : ∀ q, free q → A0 q) (hAX : ∀ q, q < H.size → AX q → A0 q)
    (kx : ∀ (E : String) (ce : Cell) (q9 : Addr) (u : SX) (t : State) (H1 : Heap) (locs1 : List Loc), t.heap = H1 → s.vm.Alike t.vm → px u → BX E u t → H.size ≤ H1.size → (∀ q : Nat, q < H.size → ¬ AX q → H1[q]? = H[q]?) → va_S A0 H0 H1 locs1 → H1[q9]? = some ce → ce.vm = .none → s.vm.findClass E = some ce.cls → vx_W p l e R s m args below meth c H1 locs1 (cells + mc) (slots + ms) Q (F0 m pc ls rest) q9)
    (kk : ∀ (r : Int32) (u : S) (t : State) (H1 : Heap) (locs1 : List Loc), t.heap = H1 → s.vm.Alike t.vm → post r u → B u t → H.size ≤ H1.size → (∀ q : Nat, q < H.size → ¬ A1 q → H1[q]? = H[q]?) → va_S A0 H0 H1 locs1 → W p l e R s m args below meth c H1 locs1 (cells + mc) (slots + ms) Q (F0 m (pc + 3) ls (.int r :: rest))) : W p l e R s m args below meth c H locs cells slots Q (F0 m pc ls st0) := by
  intro T hT X
  rcases hr T hT X with ⟨v, st₀, t, T', L, h0, X', hL, e1, e2, ⟨⟨r, u, hv, hp, hb⟩, hF⟩, st⟩ | ⟨q, st₀, t, T', L, E, ce, h0, X', hL, e1, e2, ⟨u, hp, hb, hF⟩, hce, hcv, hcl, st⟩
  · cases hv
    obtain ⟨k1, k2, k3⟩ := vx_keep h0 e1 hS hA hf hL hF
    obtain ⟨t2, a1, b1⟩ := kk r u t T'.heap (locs ++ L) e1.symm (by rw [← e2]; exact X'.warmed.alike) hp hb k1 k2 k3 T' rfl X'
    exact ⟨t2, st t2 a1, b1⟩
  · obtain ⟨k1, k2, k3⟩ := vx_keep h0 e1 hS hAX hf hL hF
    obtain ⟨t2, a1, b1⟩ := kx E ce q u t T'.heap (locs ++ L) e1.symm (by rw [← e2]; exact X'.warmed.alike) hp hb k1 k2 k3 (by rw [e1]; exact hce) hcv hcl T' rfl X'
    exact ⟨t2, st.trans a1, b1⟩
theorem vx_calll {S SX : Type} {post : Int64 → S → Prop} {px : SX → Prop} {B : S → State → Prop} {BX : String → SX → State → Prop} {AX : Nat → Prop} (hr : vx_Run p l e R s m args below meth c H locs cells slots mc ms (F0 m pc ls st0) rest (va_Ql post B A1 a) (vx_X px BX AX) free) (hS : va_S A0 H0 H locs) (hA : ∀ q, q < H.size → A1 q → A0 q) (hf : ∀ q, free q → A0 q) (hAX : ∀ q, q < H.size → AX q → A0 q)
    (kx : ∀ (E : String) (ce : Cell) (q9 : Addr) (u : SX) (t : State) (H1 : Heap) (locs1 : List Loc), t.heap = H1 → s.vm.Alike t.vm → px u → BX E u t → H.size ≤ H1.size → (∀ q : Nat, q < H.size → ¬ AX q → H1[q]? = H[q]?) → va_S A0 H0 H1 locs1 → H1[q9]? = some ce → ce.vm = .none → s.vm.findClass E = some ce.cls → vx_W p l e R s m args below meth c H1 locs1 (cells + mc) (slots + ms) Q (F0 m pc ls rest) q9)
    (kk : ∀ (r : Int64) (u : S) (t : State) (H1 : Heap) (locs1 : List Loc), t.heap = H1 → s.vm.Alike t.vm → post r u → B u t → H.size ≤ H1.size → (∀ q : Nat, q < H.size → ¬ A1 q → H1[q]? = H[q]?) → va_S A0 H0 H1 locs1 → W p l e R s m args below meth c H1 locs1 (cells + mc) (slots + ms) Q (F0 m (pc + 3) ls (.long r :: rest))) : W p l e R s m args below meth c H locs cells slots Q (F0 m pc ls st0) := by
  intro T hT X
  rcases hr T hT X with ⟨v, st₀, t, T', L, h0, X', hL, e1, e2, ⟨⟨r, u, hv, hp, hb⟩, hF⟩, st⟩ | ⟨q, st₀, t, T', L, E, ce, h0, X', hL, e1, e2, ⟨u, hp, hb, hF⟩, hce, hcv, hcl, st⟩
  · cases hv
    obtain ⟨k1, k2, k3⟩ := vx_keep h0 e1 hS hA hf hL hF
    obtain ⟨t2, a1, b1⟩ := kk r u t T'.heap (locs ++ L) e1.symm (by rw [← e2]; exact X'.warmed.alike) hp hb k1 k2 k3 T' rfl X'
    exact ⟨t2, st t2 a1, b1⟩
  · obtain ⟨k1, k2, k3⟩ := vx_keep h0 e1 hS hAX hf hL hF
    obtain ⟨t2, a1, b1⟩ := kx E ce q u t T'.heap (locs ++ L) e1.symm (by rw [← e2]; exact X'.warmed.alike) hp hb k1 k2 k3 (by rw [e1]; exact hce) hcv hcl T' rfl X'
    exact ⟨t2, st.trans a1, b1⟩
theorem vx_callf {S SX : Type} {post : UInt32 → S → Prop} {px : SX → Prop} {B : S → State → Prop} {BX : String → SX → State → Prop} {AX : Nat → Prop} (hr : vx_Run p l e R s m args below meth c H locs cells slots mc ms (F0 m pc ls st0) rest (va_Qf post B A1 a) (vx_X px BX AX) free) (hS : va_S A0 H0 H locs) (hA : ∀ q, q < H.size → A1 q → A0 q) (hf : ∀ q, free q → A0 q) (hAX : ∀ q, q < H.size → AX q → A0 q)
    (kx : ∀ (E : String) (ce : Cell) (q9 : Addr) (u : SX) (t : State) (H1 : Heap) (locs1 : List Loc), t.heap = H1 → s.vm.Alike t.vm → px u → BX E u t → H.size ≤ H1.size → (∀ q : Nat, q < H.size → ¬ AX q → H1[q]? = H[q]?) → va_S A0 H0 H1 locs1 → H1[q9]? = some ce → ce.vm = .none → s.vm.findClass E = some ce.cls → vx_W p l e R s m args below meth c H1 locs1 (cells + mc) (slots + ms) Q (F0 m pc ls rest) q9)
    (kk : ∀ (r : UInt32) (u : S) (t : State) (H1 : Heap) (locs1 : List Loc), t.heap = H1 → s.vm.Alike t.vm → post r u → B u t → H.size ≤ H1.size → (∀ q : Nat, q < H.size → ¬ A1 q → H1[q]? = H[q]?) → va_S A0 H0 H1 locs1 → W p l e R s m args below meth c H1 locs1 (cells + mc) (slots + ms) Q (F0 m (pc + 3) ls (.float r :: rest))) : W p l e R s m args below meth c H locs cells slots Q (F0 m pc ls st0) := by
  intro T hT X
  rcases hr T hT X with ⟨v, st₀, t, T', L, h0, X', hL, e1, e2, ⟨⟨r, u, hv, hp, hb⟩, hF⟩, st⟩ | ⟨q, st₀, t, T', L, E, ce, h0, X', hL, e1, e2, ⟨u, hp, hb, hF⟩, hce, hcv, hcl, st⟩
  · cases hv
    obtain ⟨k1, k2, k3⟩ := vx_keep h0 e1 hS hA hf hL hF
    obtain ⟨t2, a1, b1⟩ := kk r u t T'.heap (locs ++ L) e1.symm (by rw [← e2]; exact X'.warmed.alike) hp hb k1 k2 k3 T' rfl X'
    exact ⟨t2, st t2 a1, b1⟩
  · obtain ⟨k1, k2, k3⟩ := vx_keep h0 e1 hS hAX hf hL hF
    obtain ⟨t2, a1, b1⟩ := kx E ce q u t T'.heap (locs ++ L) e1.symm (by rw [← e2]; exact X'.warmed.alike) hp hb k1 k2 k3 (by rw [e1]; exact hce) hcv hcl T' rfl X'
    exact ⟨t2, st.trans a1, b1⟩
theorem vx_calld {S SX : Type} {post : UInt64 → S → Prop} {px : SX → Prop} {B : S → State → Prop} {BX : String → SX → State → Prop} {AX : Nat → Prop} (hr : vx_Run p l e R s m args below meth c H locs cells slots mc ms (F0 m pc ls st0) rest (va_Qd post B A1 a) (vx_X px BX AX) free) (hS : va_S A0 H0 H locs) (hA : ∀ q, q < H.size → A1 q → A0 q) (hf : ∀ q, free q → A0 q) (hAX : ∀ q, q < H.size → AX q → A0 q)
    (kx : ∀ (E : String) (ce : Cell) (q9 : Addr) (u : SX) (t : State) (H1 : Heap) (locs1 : List Loc), t.heap = H1 → s.vm.Alike t.vm → px u → BX E u t → H.size ≤ H1.size → (∀ q : Nat, q < H.size → ¬ AX q → H1[q]? = H[q]?) → va_S A0 H0 H1 locs1 → H1[q9]? = some ce → ce.vm = .none → s.vm.findClass E = some ce.cls → vx_W p l e R s m args below meth c H1 locs1 (cells + mc) (slots + ms) Q (F0 m pc ls rest) q9)
    (kk : ∀ (r : UInt64) (u : S) (t : State) (H1 : Heap) (locs1 : List Loc), t.heap = H1 → s.vm.Alike t.vm → post r u → B u t → H.size ≤ H1.size → (∀ q : Nat, q < H.size → ¬ A1 q → H1[q]? = H[q]?) → va_S A0 H0 H1 locs1 → W p l e R s m args below meth c H1 locs1 (cells + mc) (slots + ms) Q (F0 m (pc + 3) ls (.double r :: rest))) : W p l e R s m args below meth c H locs cells slots Q (F0 m pc ls st0) := by
  intro T hT X
  rcases hr T hT X with ⟨v, st₀, t, T', L, h0, X', hL, e1, e2, ⟨⟨r, u, hv, hp, hb⟩, hF⟩, st⟩ | ⟨q, st₀, t, T', L, E, ce, h0, X', hL, e1, e2, ⟨u, hp, hb, hF⟩, hce, hcv, hcl, st⟩
  · cases hv
    obtain ⟨k1, k2, k3⟩ := vx_keep h0 e1 hS hA hf hL hF
    obtain ⟨t2, a1, b1⟩ := kk r u t T'.heap (locs ++ L) e1.symm (by rw [← e2]; exact X'.warmed.alike) hp hb k1 k2 k3 T' rfl X'
    exact ⟨t2, st t2 a1, b1⟩
  · obtain ⟨k1, k2, k3⟩ := vx_keep h0 e1 hS hAX hf hL hF
    obtain ⟨t2, a1, b1⟩ := kx E ce q u t T'.heap (locs ++ L) e1.symm (by rw [← e2]; exact X'.warmed.alike) hp hb k1 k2 k3 (by rw [e1]; exact hce) hcv hcl T' rfl X'
    exact ⟨t2, st.trans a1, b1⟩
theorem vx_callv {S SX : Type} {post : S → Prop} {px : SX → Prop} {B : S → State → Prop} {BX : String → SX → State → Prop} {AX : Nat → Prop} (hr : vx_Run p l e R s m args below meth c H locs cells slots mc ms (F0 m pc ls st0) rest (va_Qv post B A1 a) (vx_X px BX AX) free) (hS : va_S A0 H0 H locs) (hA : ∀ q, q < H.size → A1 q → A0 q) (hf : ∀ q, free q → A0 q) (hAX : ∀ q, q < H.size → AX q → A0 q)
    (kx : ∀ (E : String) (ce : Cell) (q9 : Addr) (u : SX) (t : State) (H1 : Heap) (locs1 : List Loc), t.heap = H1 → s.vm.Alike t.vm → px u → BX E u t → H.size ≤ H1.size → (∀ q : Nat, q < H.size → ¬ AX q → H1[q]? = H[q]?) → va_S A0 H0 H1 locs1 → H1[q9]? = some ce → ce.vm = .none → s.vm.findClass E = some ce.cls → vx_W p l e R s m args below meth c H1 locs1 (cells + mc) (slots + ms) Q (F0 m pc ls rest) q9)
    (kk : ∀ (u : S) (t : State) (H1 : Heap) (locs1 : List Loc), t.heap = H1 → s.vm.Alike t.vm → post u → B u t → H.size ≤ H1.size → (∀ q : Nat, q < H.size → ¬ A1 q → H1[q]? = H[q]?) → va_S A0 H0 H1 locs1 → W p l e R s m args below meth c H1 locs1 (cells + mc) (slots + ms) Q (F0 m (pc + 3) ls (rest))) : W p l e R s m args below meth c H locs cells slots Q (F0 m pc ls st0) := by
  intro T hT X
  rcases hr T hT X with ⟨v, st₀, t, T', L, h0, X', hL, e1, e2, ⟨⟨u, hv, hp, hb⟩, hF⟩, st⟩ | ⟨q, st₀, t, T', L, E, ce, h0, X', hL, e1, e2, ⟨u, hp, hb, hF⟩, hce, hcv, hcl, st⟩
  · cases hv
    obtain ⟨k1, k2, k3⟩ := vx_keep h0 e1 hS hA hf hL hF
    obtain ⟨t2, a1, b1⟩ := kk u t T'.heap (locs ++ L) e1.symm (by rw [← e2]; exact X'.warmed.alike) hp hb k1 k2 k3 T' rfl X'
    exact ⟨t2, st t2 a1, b1⟩
  · obtain ⟨k1, k2, k3⟩ := vx_keep h0 e1 hS hAX hf hL hF
    obtain ⟨t2, a1, b1⟩ := kx E ce q u t T'.heap (locs ++ L) e1.symm (by rw [← e2]; exact X'.warmed.alike) hp hb k1 k2 k3 (by rw [e1]; exact hce) hcv hcl T' rfl X'
    exact ⟨t2, st.trans a1, b1⟩
end Rows
section Ends
variable {p : Program} {l : Launch} {e : Env} {R : Room} {s : State} {m : MethodId} {args : Array Value} {below : List Frame} {meth : Method} {c : Code} {H : Heap} {locs : List Loc} {cells slots : Nat} {Q : State → Prop}
variable {mc ms : Nat} {free : Addr → Prop} {A0 A1 : Nat → Prop} {H0 : Heap} {a : Array Value} {ls : Array Slot} {st0 rest : List Value}
variable {Qc : Array Value → State → Outcome → State → Prop} {XC : String → State → State → Prop}
/-- what a body that may throw owes at its end -/
def vx_MQ (below : List Frame) (Qc : Array Value → State → Outcome → State → Prop) (XC : String → State → State → Prop) (a : Array Value) (s : State) (mc ms : Nat) (free : Addr → Prop) : State → Prop := fun t =>
  ∃ o, t.status = .running ∧ Ended t below o ∧ vx_Q Qc XC mc ms free a s o t
theorem vx_ret {g : JFrame} {mc ms : Nat} (k : W p l e R s m args below meth c H locs cells slots (MQ below Qc args s mc ms free) g) : W p l e R s m args below meth c H locs cells slots (vx_MQ below Qc XC args s mc ms free) g := by
  intro T hT X
  obtain ⟨t, a1, o, b1, b2, b3, b4⟩ := k T hT X
  exact ⟨t, a1, o, b1, b2, Or.inl ⟨b3, b4⟩⟩
/-- not caught here: it goes on to the caller -/
theorem vx_widen {g : JFrame} {q : Addr} {k n : Nat} (h1 : cells ≤ k) (h2 : slots ≤ n) (kk : vx_W p l e R s m args below meth c H locs k n Q g q) : vx_W p l e R s m args below meth c H locs cells slots Q g q := fun T hT X => kk T hT (stand_widen X h1 h2)
theorem vx_out {pc : Nat} {E : String} {ce : Cell} {q : Addr} {mc ms : Nat} (hout : ∀ x ∈ c.exceptionTable.toList, covers x pc = false) (hlocks : meth.locks = false) (hcell : H[q]? = some ce) (hv : ce.vm = .none) (hcl : s.vm.findClass E = some ce.cls)
    (hx : ∀ t : State, t.heap = H → s.vm.Alike t.vm → XC E s t) (hf : ∀ z ∈ locs, free z.base) (hc : cells ≤ mc) (hs : slots ≤ ms) :
    vx_W p l e R s m args below meth c H locs cells slots (vx_MQ below Qc XC args s mc ms free) (F0 m pc ls rest) q := by
  intro T hT X
  obtain ⟨st1, hrun, hend, hW, hsm⟩ := X.leaveThrown q (g := F0 m pc ls rest) rfl rfl rfl hout hlocks
  have hcell9 : (T.setFrames (.throwing q :: below)).heap[q]? = some ce := by
    show T.heap[q]? = some ce
    rw [hT]; exact hcell
  exact ⟨_, st1, .threw q, hrun, hend, Or.inr ⟨q, rfl, E, ce, locs, hx _ hT hW.alike, hcell9, hv, hcl, hW, hsm.mono hc hs, hf⟩⟩
theorem vx_frame {U : State} {k n : Nat} (h : s.sameButNew ({ U with vm := s.vm } : State) locs k n) : s.heap.size ≤ U.heap.size ∧ ∀ q : Nat, q < s.heap.size → (∀ z ∈ locs, z.base ≠ q) → U.heap[q]? = s.heap[q]? := by
  obtain ⟨-, h2, -, -, -, h6⟩ := h
  refine ⟨h2, fun q hq hz => ?_⟩
  obtain ⟨c9, e1, e2, e3, e4⟩ := h6 q _ (Array.getElem?_eq_getElem hq)
  have hs : c9.slots = (s.heap[q]).slots := Array.ext_getElem? fun i => e4 i fun hm => hz _ hm rfl
  have h9 : c9 = s.heap[q] := by
    rw [hs] at e2
    exact e2
  have e5 : U.heap[q]? = some c9 := e1
  rw [e5, h9, Array.getElem?_eq_getElem hq]
/-- the words of a throw but the four that speak of the heap -/
def vx_no (w : Cond) : Bool := decide (w ≠ .isRef (.static Bundle.tN "UNASSIGNED_STACK" Bundle.steD)) && decide (w ≠ .isRef (.static Bundle.tN "SUPPRESSED_SENTINEL" Bundle.listD)) && decide (w ≠ .laysStatic Bundle.tN "UNASSIGNED_STACK" Bundle.steD) && decide (w ≠ .laysStatic Bundle.tN "SUPPRESSED_SENTINEL" Bundle.listD)
def vx_at0 (own : String) (ic : Nat) (X : String) (names : List String) : List Cond := (Bundle.ownAtoms0 own ic X names).filter vx_no
def vx_atS (own : String) (ic : Nat) (X : String) (names : List String) : List Cond := (Bundle.ownAtoms own ic X names).filter vx_no
/-- a word that the tables alone decide, or a good one -/
def vx_ot (w : Cond) : Bool := w.onTables || goodWord w
theorem vx_ot_at {args a' : Array Value} {s U : State} {w : Cond} (hW : s.WarmedH U.vm) (hvm : s.vm = U.vm) (hg : vx_ot w = true) (h : w.before args s = true) : w.before a' U = true := by
  simp only [vx_ot, Bool.or_eq_true] at hg
  rcases hg with hg | hg
  · exact va_tabs hg hvm h
  · exact word_at hW (good_of_word hg) h
/-- a list's words: the good ones out of the method's own list, the others by premises of their own -/
theorem vx_hat {args : Array Value} {s : State} {L B : List Cond} (h1 : ∀ w ∈ L.filter goodWord, w.before args s = true) (h2 : ∀ w ∈ L.filter (fun w => !goodWord w), w ∈ B) (h3 : ∀ w ∈ B, w.before args s = true) : ∀ w ∈ L, w.before args s = true := by
  intro w hw
  by_cases g : goodWord w = true
  · exact h1 w (List.mem_filter.mpr ⟨hw, g⟩)
  · refine h3 w (h2 w (List.mem_filter.mpr ⟨hw, ?_⟩))
    show (!goodWord w) = true
    cases hgw : goodWord w
    · rfl
    · exact absurd hgw g
theorem vx_c {args : Array Value} {s : State} {w : Cond} {B : List Cond} (h : w.before args s = true) (t : ∀ w ∈ B, w.before args s = true) : ∀ w' ∈ w :: B, w'.before args s = true := fun w' h' => (List.mem_cons.mp h').elim (fun e => by rw [e]; exact h) (t w')
theorem vx_n {args : Array Value} {s : State} : ∀ w ∈ ([] : List Cond), w.before args s = true := fun _ h => nomatch h
theorem vx_own {args : Array Value} {s : State} {L : List Cond} (h1 : ∀ w ∈ L.filter vx_no, w.before args s = true)
    (hU : (Cond.isRef (.static Bundle.tN "UNASSIGNED_STACK" Bundle.steD)).before args s = true) (hN : (Cond.isRef (.static Bundle.tN "SUPPRESSED_SENTINEL" Bundle.listD)).before args s = true)
    (lU : (Cond.laysStatic Bundle.tN "UNASSIGNED_STACK" Bundle.steD).before args s = true) (lN : (Cond.laysStatic Bundle.tN "SUPPRESSED_SENTINEL" Bundle.listD).before args s = true) : ∀ w ∈ L, w.before args s = true := by
  intro w hw
  by_cases e1 : w = .isRef (.static Bundle.tN "UNASSIGNED_STACK" Bundle.steD)
  · rw [e1]; exact hU
  · by_cases e2 : w = .isRef (.static Bundle.tN "SUPPRESSED_SENTINEL" Bundle.listD)
    · rw [e2]; exact hN
    · by_cases e3 : w = .laysStatic Bundle.tN "UNASSIGNED_STACK" Bundle.steD
      · rw [e3]; exact lU
      · by_cases e4 : w = .laysStatic Bundle.tN "SUPPRESSED_SENTINEL" Bundle.listD
        · rw [e4]; exact lN
        · exact h1 w (List.mem_filter.mpr ⟨hw, by unfold vx_no; rw [decide_eq_true e1, decide_eq_true e2, decide_eq_true e3, decide_eq_true e4]; rfl⟩)
/-- where a static field lies, its class's statics cell in H -/
def vx_L (C n d : String) (A : Nat → Prop) (U : State) (H : Heap) : Prop := ∃ (c : ClassId) (k : Class) (i : Nat) (f : Field) (a : Nat) (cell : Cell), U.vm.findClass C = some c ∧ U.fieldFound? C n d = some (c, k, i, f) ∧ f.isStatic = true ∧ k.statics = some a ∧ H[a]? = some cell ∧ cell.vm.isStatics = true ∧ cell.cls = c ∧ f.slot < cell.slots.size ∧ k.staticTypes[f.slot]? = some f.type ∧ ¬ A a
theorem vx_L.moved {C n d : String} {A : Nat → Prop} {u U : State} {H : Heap} (hvm : u.vm.Alike U.vm) (h : vx_L C n d A u H) : vx_L C n d A U H := by
  obtain ⟨c, k, i, f, a, cell, h1, h2, h3, h4, h5, h6, h7, h8, h9, h10⟩ := h
  obtain ⟨k', hi', he⟩ := State.fieldFound?_setVm hvm h2
  exact ⟨c, k', i, f, a, cell, by rw [hvm.findClass]; exact h1, hi', h3, by rw [he]; exact h4, h5, h6, h7, h8, by rw [he]; exact h9, h10⟩
theorem vx_L.kept {C n d : String} {A : Nat → Prop} {U : State} {H H1 : Heap} (h : vx_L C n d A U H) (hq : ∀ a : Nat, a < H.size → ¬ A a → H1[a]? = H[a]?) : vx_L C n d A U H1 := by
  obtain ⟨c, k, i, f, a, cell, h1, h2, h3, h4, h5, h6, h7, h8, h9, h10⟩ := h
  exact ⟨c, k, i, f, a, cell, h1, h2, h3, h4, by rw [hq a (Array.getElem?_eq_some_iff.mp h5).1 h10]; exact h5, h6, h7, h8, h9, h10⟩
theorem vx_L.narrow {C n d : String} {A B : Nat → Prop} {U : State} {H : Heap} (h : vx_L C n d A U H) (hAB : ∀ q, B q → A q) : vx_L C n d B U H := by
  obtain ⟨c, k, i, f, a, cell, h1, h2, h3, h4, h5, h6, h7, h8, h9, h10⟩ := h
  exact ⟨c, k, i, f, a, cell, h1, h2, h3, h4, h5, h6, h7, h8, h9, fun z => h10 (hAB _ z)⟩
theorem vx_L.word {C n d : String} {A : Nat → Prop} {s : State} {args : Array Value} (h : vx_L C n d A s s.heap) : (Cond.laysStatic C n d).before args s = true := by
  obtain ⟨c, k, i, f, a, cell, h1, h2, h3, h4, h5, h6, h7, h8, h9, -⟩ := h
  show (Cond.laysStatic C n d).holds args s none s [] = true
  exact Cond.laysStatic_of h1 h2 h3 h4 h5 h6 h7 h8 h9
/-- .. and what it holds: null or some reference -/
def vx_Zq (C n d : String) (A : Nat → Prop) (U : State) (H : Heap) : Prop := va_Zq C n d A U H ∧ vx_L C n d A U H
theorem vx_Zq.moved {C n d : String} {A : Nat → Prop} {u U : State} {H : Heap} (hvm : u.vm.Alike U.vm) (h : vx_Zq C n d A u H) : vx_Zq C n d A U H := ⟨va_Zq.moved hvm h.1, vx_L.moved hvm h.2⟩
theorem vx_Zq.kept {C n d : String} {A : Nat → Prop} {U : State} {H H1 : Heap} (h : vx_Zq C n d A U H) (hq : ∀ a : Nat, a < H.size → ¬ A a → H1[a]? = H[a]?) : vx_Zq C n d A U H1 := ⟨va_Zq.kept h.1 hq, vx_L.kept h.2 hq⟩
theorem vx_Zq.narrow {C n d : String} {A B : Nat → Prop} {U : State} {H : Heap} (h : vx_Zq C n d A U H) (hAB : ∀ q, B q → A q) : vx_Zq C n d B U H := ⟨va_Zq.narrow h.1 hAB, vx_L.narrow h.2 hAB⟩
theorem vx_Zqof {args : Array Value} {s : State} {C n d : String} {A : Nat → Prop} (hl : (Cond.laysStatic C n d).before args s = true) (hini : (Cond.initialized C).before args s = true) (h : (Cond.isRef (.static C n d)).before args s = true) (hA : ∀ a : Nat, a < s.heap.size → ¬ A a) : vx_Zq C n d A s s.heap := by
  refine ⟨va_Zqof hl hini h hA, ?_⟩
  obtain ⟨c, k, i, f, a, cell, h1, h2, h3, h4, h5, h6, h7, h8, h9⟩ := Cond.laysStatic_spec hl
  exact ⟨c, k, i, f, a, cell, h1, h2, h3, h4, h5, h6, h7, h8, h9, hA a (Array.getElem?_eq_some_iff.mp h5).1⟩
theorem vx_isRef {C n d : String} {v : Value} {A : Nat → Prop} {s : State} {args : Array Value} (h : va_Z C n d v A s s.heap) (hv : v.isRef = true) : (Cond.isRef (.static C n d)).before args s = true := by
  obtain ⟨cf, kf, fi, f, a, cell, h1, h2, h3, h4, h5, h6, h7, -⟩ := h
  have he : (Term.static C n d).eval args s none [] s = some v := by
    simp [Term.eval, State.fieldNamed?, h1, h2, h4, h5, h6, h7]
  simp only [Cond.before, Cond.holds, Cond.value, he]
  cases v <;> simp_all [Value.isRef]
theorem vx_isRefq {C n d : String} {A : Nat → Prop} {s : State} {args : Array Value} (h : va_Zq C n d A s s.heap) : (Cond.isRef (.static C n d)).before args s = true := by
  rcases h with h | ⟨t, h⟩
  · exact vx_isRef h rfl
  · exact vx_isRef h rfl
/-- the same frame, seen from here: as if the method were called anew in this heap -/
theorem vx_rebase {T : State} (X : Stand p l e R s m args below meth c T locs cells slots) {R' : Room} (hf : R'.frames ≤ R.frames) (hl : R'.locals ≤ R.locals) (hc : cells + R'.cells ≤ R.cells) (hs : slots + R'.slots ≤ R.slots) :
    Stand p l e R' ((T.setVm s.vm).setFrames (.invoking m args :: below)) m args below meth c T [] 0 0 := by
  have htop : (T.setVm s.vm).topJava?.isSome := X.here.top
  have hF : ((T.setVm s.vm).setFrames (.invoking m args :: below)).frames = .invoking m args :: below := State.frames_setFrames _ (State.cur_lt_of_top htop)
  obtain ⟨g₀, hg0⟩ := Option.isSome_iff_exists.mp htop
  obtain ⟨r, hr⟩ := State.topJava?_eq_some.mp hg0
  have hl9 : e.platform.stackLimits (T.setVm s.vm).me = e.platform.stackLimits s.me := X.limits
  have hb9 : (T.setVm s.vm).me.stackBytes = s.me.stackBytes := X.bytes
  refine ⟨X.admits, X.cas, X.clock, hF, ?_, X.hears, X.method, X.code, X.here, X.tail, X.warmed, ?_, ?_, ?_⟩
  · have h := X.room
    have hU : ((T.setVm s.vm).setFrames (.invoking m args :: below)).localsInUse = s.localsInUse := by
      rw [State.localsInUse_invoking hF (meth := meth) (c := c) X.method X.code, State.localsInUse_invoking X.frames X.method X.code]
    simp only [State.hasRoom, Bool.and_eq_true, decide_eq_true_eq] at h ⊢
    obtain ⟨⟨⟨⟨h1, h2, h3, h4, h5, h6⟩, h7⟩, h8⟩, h9⟩ := h
    rw [X.frames, List.length_cons] at h2 h3
    have q1 := X.heapSize
    have q2 := X.used
    simp only [hF, hU, List.length_cons, State.stackLimits_setFrames, State.stackBytes_setFrames, hl9, hb9]
    refine ⟨⟨⟨⟨by omega, by omega, by omega, by omega, by omega, h6⟩, ?_⟩, ?_⟩, X.book⟩
    · show T.heap.size + R'.cells ≤ e.platform.maxCells
      omega
    · show T.slotsUsed + R'.slots ≤ e.platform.maxSlots
      omega
  · rw [State.stackLimits_setFrames]; rfl
  · rw [State.stackBytes_setFrames]; rfl
  · refine ⟨?_, Nat.le_refl _, Nat.le_refl _, ?_, ?_, fun a c9 h9 => ⟨c9, h9, rfl, rfl, fun _ _ => rfl⟩⟩
    · obtain ⟨t, ht, -⟩ := State.frames_cons hr
      show T.setVm s.vm = { ((T.setVm s.vm).setFrames (.invoking m args :: below)).setFrames (T.setVm s.vm).frames with heap := T.heap, slotsUsed := T.slotsUsed }
      rw [State.setFrames_setFrames, State.setFrames_self ht]
      rfl
    · show T.slotsUsed = T.slotsUsed + ((T.heap.toList.drop T.heap.size).map (·.slots.size)).sum
      rw [List.drop_eq_nil_of_le (Nat.le_of_eq Array.length_toList)]
      rfl
    · show ((T.heap.toList.drop T.heap.size).map (·.slots.size)).sum ≤ 0
      rw [List.drop_eq_nil_of_le (Nat.le_of_eq Array.length_toList)]
      exact Nat.le_refl _
/-- 'throw new E()': new; dup; invokespecial; athrow -/
theorem vx_throw0 {cc : ByteArray} {pc : Nat} (hexec : p.tables.exec = Jvm.exec) (hb : c.code = cc) (hl : l.stackTraces = false) {own cls : String} {names : List String} {ik ic mc ms : Nat} {A : Nat → Prop}
    (hown : s.vm.findClass own = some m.cls) (hcls : Bundle.fit cls = true) (hnames : ∀ n ∈ names, Bundle.fit n = true)
    (hk : (Cond.classLink own ik cls).before args s = true) (hini : (Cond.initialized cls).before args s = true) (hat : ∀ w ∈ vx_at0 own ic cls names, w.before args s = true)
    (hgood : ∀ w ∈ Cond.classLink own ik cls :: Cond.initialized cls :: vx_at0 own ic cls names, vx_ot w = true)
    (hU : vx_Zq Bundle.tN "UNASSIGNED_STACK" Bundle.steD A s s.heap) (hN : vx_Zq Bundle.tN "SUPPRESSED_SENTINEL" Bundle.listD A s s.heap) (hS : va_S A s.heap H locs) (hsize : ls.size = c.maxLocals)
    (d0 : decode cc pc = .ok (.new ik, 3)) (d3 : decode cc (pc + 3) = .ok (.dup, 1)) (d4 : decode cc (pc + 4) = .ok (.invokespecial ic, 3)) (d7 : decode cc (pc + 7) = .ok (.athrow, 1))
    (hout : ∀ x ∈ c.exceptionTable.toList, covers x (pc + 7) = false)
    (hRframes : names.length + 3 < R.frames) (hRlocals : (rest.map fun v => v.category).sum + (13 * (names.length + 1) + 42) ≤ R.locals) (hRcells : cells + 1 ≤ R.cells) (hRslots : slots + 6 ≤ R.slots) (hlocks : meth.locks = false)
    (hx : ∀ t : State, s.vm.Alike t.vm → H.size ≤ t.heap.size → (∀ q : Nat, q < H.size → t.heap[q]? = H[q]?) → XC cls s t)
    (hf : ∀ z ∈ locs, free z.base) (hc : cells + 1 ≤ mc) (hs : slots + 6 ≤ ms) :
    W p l e R s m args below meth c H locs cells slots (vx_MQ below Qc XC args s mc ms free) (F0 m pc ls rest) := by
  intro T hT X
  have htr : e.platform.stackTraces = false := (show e.platform.stackTraces = l.stackTraces by rw [X.admits.platform]).trans hl
  have Y := vx_rebase X (R' := { frames := R.frames, locals := R.locals, cells := 1, slots := 6 }) (Nat.le_refl _) (Nat.le_refl _) hRcells hRslots
  obtain ⟨s', hA⟩ : ∃ z, z = (T.setVm s.vm).setFrames (.invoking m args :: below) := ⟨_, rfl⟩
  rw [← hA] at Y
  have hvm : s'.vm = s.vm := by rw [hA]; rfl
  have hhp : s'.heap = H := by rw [hA]; exact hT
  have hW0 : s.WarmedH s'.vm := by rw [hvm]; exact State.WarmedH.refl s
  have hat' : ∀ w ∈ vx_at0 own ic cls names, w.before args s' = true := fun w hw => vx_ot_at hW0 hvm.symm (hgood w (List.mem_cons_of_mem _ (List.mem_cons_of_mem _ hw))) (hat w hw)
  have hk' : (Cond.classLink own ik cls).before args s' = true := vx_ot_at hW0 hvm.symm (hgood _ List.mem_cons_self) hk
  have hini' : (Cond.initialized cls).before args s' = true := vx_ot_at hW0 hvm.symm (hgood _ (List.mem_cons_of_mem _ List.mem_cons_self)) hini
  have hU' : vx_Zq Bundle.tN "UNASSIGNED_STACK" Bundle.steD A s' s'.heap := by rw [hhp]; exact vx_Zq.moved hW0.alike (hU.kept hS.2.1)
  have hN' : vx_Zq Bundle.tN "SUPPRESSED_SENTINEL" Bundle.listD A s' s'.heap := by rw [hhp]; exact vx_Zq.moved hW0.alike (hN.kept hS.2.1)
  have h : ∀ w ∈ Bundle.ownAtoms0 own ic cls names, w.before args s' = true := vx_own hat' (vx_isRefq hU'.1) (vx_isRefq hN'.1) hU'.2.word hN'.2.word
  have hown' : s'.vm.findClass own = some m.cls := by rw [hvm]; exact hown
  have hins : (Cond.instantiable cls 6).before args s' = true := h _ (by simp [Bundle.ownAtoms0])
  obtain ⟨vm₁, cX, kX, hfX, hkX, -, -, X₁, st1⟩ := Y.newCold hexec (own := own) (C := cls) (index := ik) (n := 6) hown' hk' hins hini'
    (g := F0 m pc ls rest) rfl (by rw [hb]; exact d0) (Nat.le_refl _) (Nat.le_refl _)
  generalize hT1 : (T.setVm vm₁).pushCell { cls := cX, slots := kX.instanceTypes.map defaultValue, vm := .none } = T1 at X₁ st1
  have hcat : (Value.ref T.heap.size).category = 1 := rfl
  have hcellA : T1.heap[T.heap.size]? = some (freshCell cX kX) := by rw [← hT1]; exact State.heap_pushCell_size _ _
  have d3' : decode c.code (pc + 3) = .ok (.dup, 1) := by rw [hb]; exact d3
  obtain ⟨U, hsteps, hrun, hend, hW, hsame, ce, hce, hO⟩ := X₁.ctorThrow0 hexec htr (own := own) (cls := cls) (names := names) (ic := ic) hown' hcls hnames h (fun x hx => nomatch hx) hfX hkX hcellA (by rw [hhp, hT]; exact Nat.le_refl _)
    (g := { method := m, pc := pc + 4, locals := ls, stack := .ref T.heap.size :: .ref T.heap.size :: rest, locked := none }) rfl hsize rfl rfl (rest := rest) rfl
    (by rw [hb]; exact d4) (by rw [hb]; exact d7) hout hRframes (by simp only [List.map_cons, List.sum_cons, hcat]; omega) hlocks
  obtain ⟨f1, f2⟩ := vx_frame hsame
  rw [hhp] at f1 f2
  have hWs : s.WarmedH U.vm := State.WarmedH.trans hW0 hW
  have hcl : s.vm.findClass cls = some ce.cls := by
    have h9 := hO.cls
    rw [hvm] at h9
    exact h9
  have hall : s.sameButNew ({ U with vm := s.vm } : State) locs mc ms := by
    subst hA
    obtain ⟨e1, e2⟩ := hsame
    rw [State.setFrames_setFrames] at e1
    have h2 : (T.setVm s.vm).sameButNew ({ U with vm := s.vm } : State) [] (0 + 1) (0 + 6) := ⟨e1, e2⟩
    have h3 := X.same.trans h2
    rw [List.append_nil] at h3
    exact h3.mono hc hs
  refine ⟨U, ?_, .threw T.heap.size, hrun, hend, Or.inr ⟨T.heap.size, rfl, cls, ce, locs, hx U hWs.alike f1 (fun q hq => f2 q hq (fun z hz => nomatch hz)), hce, hO.vm, hcl, hWs, hall, hf⟩⟩
  refine st1 _ ?_
  show Steps p.tables e below (T1.setTop { method := m, pc := pc + 3, locals := ls, stack := .ref T.heap.size :: rest, locked := none }) _
  jvm_step X₁.here [X₁.here.top, hexec, d3', Value.category]
  exact hsteps
/-- 'throw new E("text")': new; dup; ldc; invokespecial; athrow -/
theorem vx_throwS {cc : ByteArray} {pc : Nat} (hexec : p.tables.exec = Jvm.exec) (hb : c.code = cc) (hl : l.stackTraces = false) {own cls text : String} {names : List String} {ik is ic mc ms sa : Nat} {A : Nat → Prop}
    (hown : s.vm.findClass own = some m.cls) (hcls : Bundle.fit cls = true) (hnames : ∀ n ∈ names, Bundle.fit n = true)
    (hk : (Cond.classLink own ik cls).before args s = true) (hini : (Cond.initialized cls).before args s = true) (hstr : vk_R own is text sa s) (hat : ∀ w ∈ vx_atS own ic cls names, w.before args s = true)
    (hgood : ∀ w ∈ Cond.classLink own ik cls :: Cond.initialized cls :: vx_atS own ic cls names, vx_ot w = true)
    (hU : vx_Zq Bundle.tN "UNASSIGNED_STACK" Bundle.steD A s s.heap) (hN : vx_Zq Bundle.tN "SUPPRESSED_SENTINEL" Bundle.listD A s s.heap) (hS : va_S A s.heap H locs) (hsize : ls.size = c.maxLocals)
    (d0 : decode cc pc = .ok (.new ik, 3)) (d3 : decode cc (pc + 3) = .ok (.dup, 1)) (d4 : decode cc (pc + 4) = .ok (.ldc is, 2)) (d6 : decode cc (pc + 6) = .ok (.invokespecial ic, 3)) (d9 : decode cc (pc + 9) = .ok (.athrow, 1))
    (hout : ∀ x ∈ c.exceptionTable.toList, covers x (pc + 9) = false)
    (hRframes : names.length + 3 < R.frames) (hRlocals : (rest.map fun v => v.category).sum + (13 * (names.length + 1) + 43) ≤ R.locals) (hRcells : cells + 1 ≤ R.cells) (hRslots : slots + 6 ≤ R.slots) (hlocks : meth.locks = false)
    (hx : ∀ t : State, s.vm.Alike t.vm → H.size ≤ t.heap.size → (∀ q : Nat, q < H.size → t.heap[q]? = H[q]?) → XC cls s t)
    (hf : ∀ z ∈ locs, free z.base) (hc : cells + 1 ≤ mc) (hs : slots + 6 ≤ ms) :
    W p l e R s m args below meth c H locs cells slots (vx_MQ below Qc XC args s mc ms free) (F0 m pc ls rest) := by
  intro T hT X
  have htr : e.platform.stackTraces = false := (show e.platform.stackTraces = l.stackTraces by rw [X.admits.platform]).trans hl
  have Y := vx_rebase X (R' := { frames := R.frames, locals := R.locals, cells := 1, slots := 6 }) (Nat.le_refl _) (Nat.le_refl _) hRcells hRslots
  obtain ⟨s', hA⟩ : ∃ z, z = (T.setVm s.vm).setFrames (.invoking m args :: below) := ⟨_, rfl⟩
  rw [← hA] at Y
  have hvm : s'.vm = s.vm := by rw [hA]; rfl
  have hhp : s'.heap = H := by rw [hA]; exact hT
  have hW0 : s.WarmedH s'.vm := by rw [hvm]; exact State.WarmedH.refl s
  have hat' : ∀ w ∈ vx_atS own ic cls names, w.before args s' = true := fun w hw => vx_ot_at hW0 hvm.symm (hgood w (List.mem_cons_of_mem _ (List.mem_cons_of_mem _ hw))) (hat w hw)
  have hk' : (Cond.classLink own ik cls).before args s' = true := vx_ot_at hW0 hvm.symm (hgood _ List.mem_cons_self) hk
  have hini' : (Cond.initialized cls).before args s' = true := vx_ot_at hW0 hvm.symm (hgood _ (List.mem_cons_of_mem _ List.mem_cons_self)) hini
  have hU' : vx_Zq Bundle.tN "UNASSIGNED_STACK" Bundle.steD A s' s'.heap := by rw [hhp]; exact vx_Zq.moved hW0.alike (hU.kept hS.2.1)
  have hN' : vx_Zq Bundle.tN "SUPPRESSED_SENTINEL" Bundle.listD A s' s'.heap := by rw [hhp]; exact vx_Zq.moved hW0.alike (hN.kept hS.2.1)
  have h : ∀ w ∈ Bundle.ownAtoms own ic cls names, w.before args s' = true := vx_own hat' (vx_isRefq hU'.1) (vx_isRefq hN'.1) hU'.2.word hN'.2.word
  have hown' : s'.vm.findClass own = some m.cls := by rw [hvm]; exact hown
  have hins : (Cond.instantiable cls 6).before args s' = true := h _ (by simp [Bundle.ownAtoms])
  obtain ⟨vm₁, cX, kX, hfX, hkX, -, -, X₁, st1⟩ := Y.newCold hexec (own := own) (C := cls) (index := ik) (n := 6) hown' hk' hins hini'
    (g := F0 m pc ls rest) rfl (by rw [hb]; exact d0) (Nat.le_refl _) (Nat.le_refl _)
  generalize hT1 : (T.setVm vm₁).pushCell { cls := cX, slots := kX.instanceTypes.map defaultValue, vm := .none } = T1 at X₁ st1
  have hcat : (Value.ref T.heap.size).category = 1 := rfl
  have hcellA : T1.heap[T.heap.size]? = some (freshCell cX kX) := by rw [← hT1]; exact State.heap_pushCell_size _ _
  have d3' : decode c.code (pc + 3) = .ok (.dup, 1) := by rw [hb]; exact d3
  have d4' : decode c.code (pc + 4) = .ok (.ldc is, 2) := by rw [hb]; exact d4
  have hstr' : vk_R own is text sa s' := vk_R.warm hW0 hstr
  obtain ⟨U, hsteps, hrun, hend, hW, hsame, ce, hce, hO⟩ := X₁.ctorThrowS hexec htr (own := own) (cls := cls) (names := names) (ic := ic) hown' hcls hnames h (fun x hx => nomatch hx) hfX hkX hcellA (by rw [hhp, hT]; exact Nat.le_refl _) (msg := .ref sa) rfl
    (g := { method := m, pc := pc + 6, locals := ls, stack := .ref sa :: .ref T.heap.size :: .ref T.heap.size :: rest, locked := none }) rfl hsize rfl rfl (rest := rest) rfl
    (by rw [hb]; exact d6) (by rw [hb]; exact d9) hout hRframes (by simp only [List.map_cons, List.sum_cons, hcat]; omega) hlocks
  obtain ⟨f1, f2⟩ := vx_frame hsame
  rw [hhp] at f1 f2
  have hWs : s.WarmedH U.vm := State.WarmedH.trans hW0 hW
  have hcl : s.vm.findClass cls = some ce.cls := by
    have h9 := hO.cls
    rw [hvm] at h9
    exact h9
  have hall : s.sameButNew ({ U with vm := s.vm } : State) locs mc ms := by
    subst hA
    obtain ⟨e1, e2⟩ := hsame
    rw [State.setFrames_setFrames] at e1
    have h2 : (T.setVm s.vm).sameButNew ({ U with vm := s.vm } : State) [] (0 + 1) (0 + 6) := ⟨e1, e2⟩
    have h3 := X.same.trans h2
    rw [List.append_nil] at h3
    exact h3.mono hc hs
  refine ⟨U, ?_, .threw T.heap.size, hrun, hend, Or.inr ⟨T.heap.size, rfl, cls, ce, locs, hx U hWs.alike f1 (fun q hq => f2 q hq (fun z hz => nomatch hz)), hce, hO.vm, hcl, hWs, hall, hf⟩⟩
  refine st1 _ ?_
  show Steps p.tables e below (T1.setTop { method := m, pc := pc + 3, locals := ls, stack := .ref T.heap.size :: rest, locked := none }) _
  jvm_step X₁.here [X₁.here.top, hexec, d3', Value.category]
  exact X₁.ldcString hexec (own := own) (text := text) (index := is) (a := sa) hown' hstr'.1 hstr'.2
    (g := { method := m, pc := pc + 4, locals := ls, stack := .ref T.heap.size :: .ref T.heap.size :: rest, locked := none }) rfl d4' _ hsteps
/-- 'throw new E("text")', the text by a wide index -/
theorem vx_throwSW {cc : ByteArray} {pc : Nat} (hexec : p.tables.exec = Jvm.exec) (hb : c.code = cc) (hl : l.stackTraces = false) {own cls text : String} {names : List String} {ik is ic mc ms sa : Nat} {A : Nat → Prop}
    (hown : s.vm.findClass own = some m.cls) (hcls : Bundle.fit cls = true) (hnames : ∀ n ∈ names, Bundle.fit n = true)
    (hk : (Cond.classLink own ik cls).before args s = true) (hini : (Cond.initialized cls).before args s = true) (hstr : vk_R own is text sa s) (hat : ∀ w ∈ vx_atS own ic cls names, w.before args s = true)
    (hgood : ∀ w ∈ Cond.classLink own ik cls :: Cond.initialized cls :: vx_atS own ic cls names, vx_ot w = true)
    (hU : vx_Zq Bundle.tN "UNASSIGNED_STACK" Bundle.steD A s s.heap) (hN : vx_Zq Bundle.tN "SUPPRESSED_SENTINEL" Bundle.listD A s s.heap) (hS : va_S A s.heap H locs) (hsize : ls.size = c.maxLocals)
    (d0 : decode cc pc = .ok (.new ik, 3)) (d3 : decode cc (pc + 3) = .ok (.dup, 1)) (d4 : decode cc (pc + 4) = .ok (.ldc_w is, 3)) (d7 : decode cc (pc + 7) = .ok (.invokespecial ic, 3)) (d10 : decode cc (pc + 10) = .ok (.athrow, 1))
    (hout : ∀ x ∈ c.exceptionTable.toList, covers x (pc + 10) = false)
    (hRframes : names.length + 3 < R.frames) (hRlocals : (rest.map fun v => v.category).sum + (13 * (names.length + 1) + 43) ≤ R.locals) (hRcells : cells + 1 ≤ R.cells) (hRslots : slots + 6 ≤ R.slots) (hlocks : meth.locks = false)
    (hx : ∀ t : State, s.vm.Alike t.vm → H.size ≤ t.heap.size → (∀ q : Nat, q < H.size → t.heap[q]? = H[q]?) → XC cls s t)
    (hf : ∀ z ∈ locs, free z.base) (hc : cells + 1 ≤ mc) (hs : slots + 6 ≤ ms) :
    W p l e R s m args below meth c H locs cells slots (vx_MQ below Qc XC args s mc ms free) (F0 m pc ls rest) := by
  intro T hT X
  have htr : e.platform.stackTraces = false := (show e.platform.stackTraces = l.stackTraces by rw [X.admits.platform]).trans hl
  have Y := vx_rebase X (R' := { frames := R.frames, locals := R.locals, cells := 1, slots := 6 }) (Nat.le_refl _) (Nat.le_refl _) hRcells hRslots
  obtain ⟨s', hA⟩ : ∃ z, z = (T.setVm s.vm).setFrames (.invoking m args :: below) := ⟨_, rfl⟩
  rw [← hA] at Y
  have hvm : s'.vm = s.vm := by rw [hA]; rfl
  have hhp : s'.heap = H := by rw [hA]; exact hT
  have hW0 : s.WarmedH s'.vm := by rw [hvm]; exact State.WarmedH.refl s
  have hat' : ∀ w ∈ vx_atS own ic cls names, w.before args s' = true := fun w hw => vx_ot_at hW0 hvm.symm (hgood w (List.mem_cons_of_mem _ (List.mem_cons_of_mem _ hw))) (hat w hw)
  have hk' : (Cond.classLink own ik cls).before args s' = true := vx_ot_at hW0 hvm.symm (hgood _ List.mem_cons_self) hk
  have hini' : (Cond.initialized cls).before args s' = true := vx_ot_at hW0 hvm.symm (hgood _ (List.mem_cons_of_mem _ List.mem_cons_self)) hini
  have hU' : vx_Zq Bundle.tN "UNASSIGNED_STACK" Bundle.steD A s' s'.heap := by rw [hhp]; exact vx_Zq.moved hW0.alike (hU.kept hS.2.1)
  have hN' : vx_Zq Bundle.tN "SUPPRESSED_SENTINEL" Bundle.listD A s' s'.heap := by rw [hhp]; exact vx_Zq.moved hW0.alike (hN.kept hS.2.1)
  have h : ∀ w ∈ Bundle.ownAtoms own ic cls names, w.before args s' = true := vx_own hat' (vx_isRefq hU'.1) (vx_isRefq hN'.1) hU'.2.word hN'.2.word
  have hown' : s'.vm.findClass own = some m.cls := by rw [hvm]; exact hown
  have hins : (Cond.instantiable cls 6).before args s' = true := h _ (by simp [Bundle.ownAtoms])
  obtain ⟨vm₁, cX, kX, hfX, hkX, -, -, X₁, st1⟩ := Y.newCold hexec (own := own) (C := cls) (index := ik) (n := 6) hown' hk' hins hini'
    (g := F0 m pc ls rest) rfl (by rw [hb]; exact d0) (Nat.le_refl _) (Nat.le_refl _)
  generalize hT1 : (T.setVm vm₁).pushCell { cls := cX, slots := kX.instanceTypes.map defaultValue, vm := .none } = T1 at X₁ st1
  have hcat : (Value.ref T.heap.size).category = 1 := rfl
  have hcellA : T1.heap[T.heap.size]? = some (freshCell cX kX) := by rw [← hT1]; exact State.heap_pushCell_size _ _
  have d3' : decode c.code (pc + 3) = .ok (.dup, 1) := by rw [hb]; exact d3
  have d4' : decode c.code (pc + 4) = .ok (.ldc_w is, 3) := by rw [hb]; exact d4
  have hstr' : vk_R own is text sa s' := vk_R.warm hW0 hstr
  obtain ⟨U, hsteps, hrun, hend, hW, hsame, ce, hce, hO⟩ := X₁.ctorThrowS hexec htr (own := own) (cls := cls) (names := names) (ic := ic) hown' hcls hnames h (fun x hx => nomatch hx) hfX hkX hcellA (by rw [hhp, hT]; exact Nat.le_refl _) (msg := .ref sa) rfl
    (g := { method := m, pc := pc + 7, locals := ls, stack := .ref sa :: .ref T.heap.size :: .ref T.heap.size :: rest, locked := none }) rfl hsize rfl rfl (rest := rest) rfl
    (by rw [hb]; exact d7) (by rw [hb]; exact d10) hout hRframes (by simp only [List.map_cons, List.sum_cons, hcat]; omega) hlocks
  obtain ⟨f1, f2⟩ := vx_frame hsame
  rw [hhp] at f1 f2
  have hWs : s.WarmedH U.vm := State.WarmedH.trans hW0 hW
  have hcl : s.vm.findClass cls = some ce.cls := by
    have h9 := hO.cls
    rw [hvm] at h9
    exact h9
  have hall : s.sameButNew ({ U with vm := s.vm } : State) locs mc ms := by
    subst hA
    obtain ⟨e1, e2⟩ := hsame
    rw [State.setFrames_setFrames] at e1
    have h2 : (T.setVm s.vm).sameButNew ({ U with vm := s.vm } : State) [] (0 + 1) (0 + 6) := ⟨e1, e2⟩
    have h3 := X.same.trans h2
    rw [List.append_nil] at h3
    exact h3.mono hc hs
  refine ⟨U, ?_, .threw T.heap.size, hrun, hend, Or.inr ⟨T.heap.size, rfl, cls, ce, locs, hx U hWs.alike f1 (fun q hq => f2 q hq (fun z hz => nomatch hz)), hce, hO.vm, hcl, hWs, hall, hf⟩⟩
  refine st1 _ ?_
  show Steps p.tables e below (T1.setTop { method := m, pc := pc + 3, locals := ls, stack := .ref T.heap.size :: rest, locked := none }) _
  jvm_step X₁.here [X₁.here.top, hexec, d3', Value.category]
  exact X₁.ldcStringW hexec (own := own) (text := text) (index := is) (a := sa) hown' hstr'.1 hstr'.2
    (g := { method := m, pc := pc + 4, locals := ls, stack := .ref T.heap.size :: .ref T.heap.size :: rest, locked := none }) rfl d4' _ hsteps
end Ends
section Bodies
variable {l : Launch}
theorem vx_ofW {y : MethodName} {ws ws' : List Cond} {rm : Room} {Pc : Array Value → State → Prop} {Qc : Array Value → State → Outcome → State → Prop} {XC : String → State → State → Prop} {mc ms : Nat} {free : Addr → Prop} {cc : ByteArray} {maxL : Nat} {ret : Option FieldType}
    (hy : plainName y.cls = true) (hw : ws = Cond.code y cc maxL ret :: ws')
    (body : ∀ p e s m args below meth c s₁, BodyLoose p l y (headSpec ws rm) cc maxL ret e s m args below meth c s₁ → c.maxLocals = maxL → (∀ x ∈ c.exceptionTable.toList, False) → Pc args s →
      W p l e (headSpec ws rm).room s m args below meth c s.heap [] 0 0 (vx_MQ below Qc XC args s mc ms free) (entryFrame m args maxL)) : vx_Met l y ws rm Pc Qc XC mc ms free := by
  refine MetFree.of_bodyS (code := cc) (maxLocals := maxL) (ret := ret) hy ?_ ?_
  · intro args s m h hn
    obtain ⟨meth, c, h1, h2, h3, h4, h5, h6, -, -⟩ := Cond.code_spec hn (atoms_spec (ws := ws) h _ (by rw [hw]; exact List.mem_cons_self))
    exact ⟨meth, c, h1, h2, h3, h4, h5, h6⟩
  · intro p e s m args below meth c s₁ B hml hP _
    have hh0 : s₁.heap = s.heap := by rw [B.state]; rfl
    have ht : ∀ x ∈ c.exceptionTable.toList, False := by
      obtain ⟨meth9, c9, h1, h2, -, -, -, -, h7, -⟩ := Cond.code_spec B.named (atoms_spec (ws := ws) B.pre _ (by rw [hw]; exact List.mem_cons_self))
      cases Option.some.inj (h1.symm.trans B.method)
      cases Option.some.inj (h2.symm.trans (Stand.of_body B).code)
      intro x hx
      rw [Array.isEmpty_iff.mp h7] at hx
      cases hx
    obtain ⟨t, a1, o, b1, b2, b3⟩ := body p e s m args below meth c s₁ B hml ht hP s₁ hh0 (Stand.of_body B)
    exact ⟨t, o, a1, b1, b2, b3⟩
/-- the table of a body with handlers -/
theorem vx_table {p : Program} {x y : MethodName} {S : Spec} {cc bytes : ByteArray} {maxL maxL' : Nat} {ret ret' : Option FieldType} {e : Env} {s s₁ : State} {m : MethodId} {args : Array Value} {below : List Frame} {meth : Method} {c : Code} {hh : List (Nat × Nat × Nat × Nat)}
    (B : BodyLoose p l y S cc maxL ret e s m args below meth c s₁) (h : (Cond.codeWith y bytes maxL' ret' hh).before args s = true) : c.exceptionTable.toList = tableOf hh := by
  obtain ⟨m9, meth9, c9, hn9, h1, h2, -, -, h6, -⟩ := Cond.codeWith_spec h
  cases Option.some.inj (hn9.symm.trans B.named)
  cases Option.some.inj (h1.symm.trans B.method)
  cases Option.some.inj (h2.symm.trans (Stand.of_body B).code)
  rw [← h6, table_eq]
end Bodies
end VXA
/-! ===== END ===== -/
/-! ===== BEGIN a static call of a method with an exception table ===== -/
section VXS
variable {p : Program} {l : Launch} {e : Env} {R : Room} {s : State} {m : MethodId} {args : Array Value} {below : List Frame} {meth : Method} {c : Code} {T : State} {H : Heap} {locs : List Loc} {cells slots : Nat}
abbrev vx_CSW (R : Room) (s : State) (args : Array Value) (own : String) (index : Nat) (y : MethodName) (bytes : ByteArray) (maxL : Nat) (ret : Option FieldType) (hh : List (Nat × Nat × Nat × Nat)) (ws : List Cond) (rm : Room) (mc ms n : Nat) : Prop :=
  (rm.cells = mc ∧ rm.slots = ms ∧ rm.frames + 1 ≤ R.frames ∧ 8 + (maxL + 11) + rm.locals ≤ R.locals ∧ (∀ w ∈ ws, ∀ (a' : Array Value) (U : State), s.WarmedH U.vm → w.before a' U = true) ∧ Cond.codeWith y bytes maxL ret hh ∈ ws) ∧
  (Cond.codeWith y bytes maxL ret hh).before args s = true ∧ (Cond.initialized y.cls).before args s = true ∧ (y.cls ≠ "java/lang/invoke/MethodHandle" ∧ y.cls ≠ "java/lang/invoke/VarHandle") ∧
  (∀ sig, parseMethodDescriptor y.desc = some sig → n = sig.parameters.length) ∧ (Cond.methodLink own index y).before args s = true ∧ (Cond.static y).before args s = true
theorem vx_cwSW {own : String} {index maxL mc ms : Nat} {y : MethodName} {bytes : ByteArray} {ret : Option FieldType} {hh : List (Nat × Nat × Nat × Nat)} {Ts ws ws' : List Cond} {rm : Room} (n : Nat) (ht : ∀ w ∈ Ts, w.before args s = true) (hT : GoodIn Ts (va_wsS own index y ws)) (hw : ws = Cond.codeWith y bytes maxL ret hh :: ws') (hrc : rm.cells = mc) (hrs : rm.slots = ms)
    (hd : y.cls ≠ "java/lang/invoke/MethodHandle" ∧ y.cls ≠ "java/lang/invoke/VarHandle" ∧ (parseMethodDescriptor y.desc).map (fun d => d.parameters.length) = some n) (hR : rm.frames + 1 ≤ R.frames ∧ 8 + (maxL + 11) + rm.locals ≤ R.locals) :
    vx_CSW R s args own index y bytes maxL ret hh ws rm mc ms n := by
  have ok : ∀ w ∈ va_wsS own index y ws, w.before args s = true := fun w h => ht w (hT w h).1
  have hG : GoodIn Ts ws := fun w h => hT w (by unfold va_wsS; exact List.mem_append_right _ h)
  have hc : Cond.codeWith y bytes maxL ret hh ∈ ws := by rw [hw]; exact List.mem_cons_self
  refine ⟨⟨hrc, hrs, hR.1, hR.2, pay_in ht hG, hc⟩, ht _ (hG _ hc).1, ok _ (by simp [va_wsS]), ⟨hd.1, hd.2.1⟩, fun sig h => ?_, ok _ (by simp [va_wsS]), ok _ (by simp [va_wsS])⟩
  have h2 := hd.2.2
  rw [h] at h2
  exact (Option.some.inj h2).symm
theorem vx_callSW (X : Stand p l e R s m args below meth c T locs cells slots) (hexec : p.tables.exec = Jvm.exec) {own : String} {index : Nat} {y : MethodName} {bytes : ByteArray} {maxL : Nat} {ret : Option FieldType} {hh : List (Nat × Nat × Nat × Nat)}
    (hown : s.vm.findClass own = some m.cls) (hlink : (Cond.methodLink own index y).before args s = true) (hstat : (Cond.static y).before args s = true) (hinit : (Cond.initialized y.cls).before args s = true)
    (hcode : (Cond.codeWith y bytes maxL ret hh).before args s = true) (hy : y.cls ≠ "java/lang/invoke/MethodHandle" ∧ y.cls ≠ "java/lang/invoke/VarHandle")
    {W9 : Nat} {Pre : Pt → Array Value → Prop} {Post : Pt → Array Value → Option Value → Pt → Prop} (hK : Back l R p e below s args y 3 W9 Pre Post)
    {g : JFrame} (hg : g.method = m) (hsize : g.locals.size = c.maxLocals) {argsL rest : List Value} (hlen : ∀ sig, parseMethodDescriptor y.desc = some sig → argsL.length = sig.parameters.length)
    (hstack : g.stack = argsL.reverse ++ rest) (hW : 2 * g.monitorRoom + (rest.map fun v => v.category).sum ≤ W9) (hdg : decode c.code g.pc = .ok (.invokestatic index, 3))
    (hpre : ∀ vm₁, s.WarmedH vm₁ → Pre ⟨T.setVm vm₁, locs, cells, slots⟩ argsL.toArray) :
    ∃ (v : Option Value) (vm₁ : Vm) (B : Pt), s.WarmedH vm₁ ∧ Stand p l e R s m args below meth c B.U B.locs B.cells B.slots ∧ Post ⟨T.setVm vm₁, locs, cells, slots⟩ argsL.toArray v B ∧
      ∀ target, Steps p.tables e below (B.U.setTop { g with pc := g.pc + 3, stack := v.toList ++ rest }) target → Steps p.tables e below (T.setTop g) target := by
  obtain ⟨mk, methM, cM, hnamed, hmethM, -, -, -, -, -, -, hsigM⟩ := Cond.codeWith_spec hcode
  have hstatic : methM.isStatic = true := Cond.static_spec hnamed hmethM hstat
  obtain ⟨kP, hkP, -⟩ := className_of_methodNamed hnamed
  have hinitP : kP.init = .initialized := Cond.initialized_spec (findClass_of_methodNamed hnamed) hkP hinit
  obtain ⟨vm₁, X₁, hstep₁⟩ := X.invokestatic hexec hown hlink hnamed hmethM hstatic hkP hinitP hy (g := g) hg (argsL := argsL) (rest := rest) (hlen _ hsigM) hstack hdg
  obtain ⟨v, B, X', hpost, hsteps⟩ := hK m meth c ⟨T.setVm vm₁, locs, cells, slots⟩ { g with stack := rest } (.invokestatic index) mk argsL.toArray X₁ hg hsize hdg hW (X₁.named hnamed) (hpre vm₁ X₁.warmed)
  exact ⟨v, vm₁, B, X₁.warmed, X', hpost, fun target h => hstep₁ _ fun acts => by rw [doInvoke_state]; exact hsteps.trans h⟩
theorem vx_runSW {y : MethodName} {bytes cc : ByteArray} {maxL nL mc ms n index : Nat} {ret : Option FieldType} {hh : List (Nat × Nat × Nat × Nat)} {ws : List Cond} {rm : Room} {Pc : Array Value → State → Prop} {Qc : Array Value → State → Outcome → State → Prop} {free : Addr → Prop} {Ts : List Cond} {own : String} {As rest : List Value} {g : JFrame}
    (S : CallFix p m c cc nL s args Ts own) (hM : Met l y ws rm Pc Qc mc ms free) (cw : vx_CSW R s args own index y bytes maxL ret hh ws rm mc ms n) (hp : PreS s H Pc As)
    (hg : g.method = m) (hn : As.length = n) (hsize : g.locals.size = nL) (hstack : g.stack = As.reverse ++ rest) (hW : 2 * g.monitorRoom + (rest.map fun v => v.category).sum ≤ 8) (hdg : decode cc g.pc = .ok (.invokestatic index, 3)) (hf : cells + mc ≤ R.cells ∧ slots + ms ≤ R.slots) :
    va_Run p l e R s m args below meth c H locs cells slots mc ms g rest (Qc As.toArray) (free) := by
  obtain ⟨⟨hrc, hrs, hfr, hlo, hws, hcw⟩, hcode, hini, hy, hlen, hl, hstt⟩ := cw
  have hK : Back l R p e below s args y 3 8 (PreOf R mc ms Pc) (PostOf Qc mc ms free) := va_backW (hh := hh) (bytes := bytes) (maxL := maxL) (ret := ret) hM hp.1 hrc hrs hfr hlo hws hcw (fun a' U hW => word_at hW (Or.inl (by first | rfl | simp [Cond.onTables, Cond.keeps, Cond.steady])) hini)
  obtain ⟨hx, hb, hml, ho, -⟩ := S
  intro T hT X
  obtain ⟨v, vm₁, ⟨U', l2, c2, s2⟩, hW₁, X', ⟨g', mk, t, L, e1, e2, hq, h1, hL, h2, h3⟩, st⟩ := vx_callSW X hx (hh := hh) (bytes := bytes) (maxL := maxL) (ret := ret) ho hl hstt hini hcode hy hK hg (hsize.trans hml.symm) (argsL := As) (rest := rest) (fun sig h => hn.trans (hlen sig h)) hstack hW (by rw [hb]; exact hdg)
    (fun vm₁ hW₁ => ⟨hf.1, hf.2, hp.2 (T.setVm vm₁) hT hW₁⟩)
  dsimp only [Pt.U, Pt.locs, Pt.cells, Pt.slots] at X' e1 e2 h1 h2 h3 st
  subst h1; subst h2; subst h3
  exact ⟨v, (T.setVm vm₁).calling g' mk As.toArray, t, U', L, hT, X', hL, e1, e2, hq, st⟩
/-- a thing of a world lies in the heap -/
theorem vx_lt {D : va_G} {cl : List vw_C} {ws : va_W} {H1 : Heap} (h : va_P D cl ws H1) {k : Nat} {q : Nat × va_E} (hk : ws[k]? = some q) : q.1 < H1.size := (h k q hk).lt
end VXS
/-! ===== END ===== -/
/-! ===== BEGIN methods with a table of their own: called by a name, returning or throwing ===== -/
section VXH
/-! vx_backW, vx_callVX, vx_callSX, vx_callVW, vx_runVW, vx_runVX, vx_runSX, vx_ofWH follow the same proofs as their sisters above (Free/Laws.lean, Shelf42/LK1.lean); vx_outP calls Shelf42/NT130.lean (outThrough). -/
section
variable {l : Launch} {R : Room} {p : Program} {e : Env} {below : List Frame} {s : State} {sargs : Array Value} {y : MethodName} {len W9 : Nat}
theorem vx_backW {ws : List Cond} {rm : Room} {Pc : Array Value → State → Prop} {Qc : Array Value → State → Outcome → State → Prop} {XC : String → State → State → Prop} {mc ms : Nat} {free : Addr → Prop} {bytes : ByteArray} {maxL : Nat} {ret : Option FieldType} {hh : List (Nat × Nat × Nat × Nat)}
    (hM : vx_Met l y ws rm Pc Qc XC mc ms free) (hblind : FrameBlind Pc) (hrc : rm.cells = mc) (hrs : rm.slots = ms)
    (hframes : rm.frames + 1 ≤ R.frames) (hlocals : W9 + (maxL + 11) + rm.locals ≤ R.locals)
    (hws : ∀ w ∈ ws, ∀ a' U, s.WarmedH U.vm → w.before a' U = true) (hcode : Cond.codeWith y bytes maxL ret hh ∈ ws) (hinit : ∀ a' U, s.WarmedH U.vm → (Cond.initialized y.cls).before a' U = true) :
    vx_Back l R p e below s sargs y len W9 (PreOf R mc ms Pc) (PostOf Qc mc ms free) (vx_Post XC mc ms free) := by
  intro m meth c A g ig mk a X hg hsize hdg hW hn hp
  have h1 : (headSpec ws rm).pre.before a A.U = true := atoms_intro fun w hw => hws w hw _ _ X.warmed
  have h2 : (Cond.codeWith y bytes maxL ret hh).before a A.U = true := hws _ hcode _ _ X.warmed
  have h3 : (Cond.initialized y.cls).before a A.U = true := hinit _ _ X.warmed
  have h4 : A.cells + (headSpec ws rm).room.cells ≤ R.cells := by rw [show (headSpec ws rm).room.cells = mc from hrc]; exact hp.1
  have h5 : A.slots + (headSpec ws rm).room.slots ≤ R.slots := by rw [show (headSpec ws rm).room.slots = ms from hrs]; exact hp.2.1
  have hPc : Pc a (A.U.calling g mk a) := hblind _ _ _ _ hp.2.2
  obtain ⟨U, Ls, c0, s0⟩ := A
  dsimp only [Pt.U, Pt.locs, Pt.cells, Pt.slots] at h1 h2 h3 h4 h5 X hn hPc ⊢
  obtain ⟨m9, methY, cY, hn9, hmY, hcY, -, hlY, -⟩ := Cond.codeWith_spec h2
  cases Option.some.inj (hn9.symm.trans hn)
  obtain ⟨kY, hkY, -⟩ := className_of_methodNamed hn
  have hinitY : kY.init = .initialized := Cond.initialized_spec (findClass_of_methodNamed hn) hkY h3
  have h : At U g.method c below := by rw [hg]; exact X.here
  have hlocals9 : W9 + (maxL + 11) + (headSpec ws rm).room.locals ≤ R.locals := hlocals
  have happ : (headSpec ws rm).appliesLoose y e.platform (U.calling g mk a) = true :=
    Spec.appliesLoose_calling (g := g) h hdg hn hkY hinitY
      (X.room_calling (g := g) (R' := (headSpec ws rm).room) hsize hmY hcY hframes (by rw [hlY]; omega) h4 h5) h1
  obtain ⟨mid, hmid⟩ := h.above
  have hfr : (U.setTop g).frames = (.java g :: mid) ++ below := by rw [State.frames_setTop' g h.top, hmid]; rfl
  obtain ⟨o, s₂, hsteps, -, hend, hq⟩ := Steps.callFree hM p X.admits X.cas X.clock (acts := []) hfr happ hPc trivial
  have hq' : vx_Q Qc XC mc ms free a (U.calling g mk a) o s₂ := hq
  rw [State.frames_setTop' g h.top] at hend
  obtain ⟨g₀, hg0⟩ := Option.isSome_iff_exists.mp h.top
  obtain ⟨r, hr⟩ := State.topJava?_eq_some.mp hg0
  have hr' : (({ U with heap := s₂.heap, slotsUsed := s₂.slotsUsed } : State).setVm s₂.vm).frames = .java g₀ :: r := hr
  rcases hq' with ⟨hqc, L, hfe, hL⟩ | ⟨q, rfl, E, ce, L, hx, hce, hcv, hcl, hW₂, hsm, hL⟩
  · obtain ⟨⟨v, rfl⟩, hW₂, e2, q2, q3, q4, q5, q6⟩ := id hfe
    have e3 : s₂ = ({ (U.calling g mk a).setFrames s₂.frames with heap := s₂.heap, slotsUsed := s₂.slotsUsed } : State).setVm s₂.vm := by
      have : s₂ = ({ s₂ with vm := (U.calling g mk a).vm } : State).setVm s₂.vm := rfl
      rw [e2] at this
      exact this
    obtain ⟨c₂, i₂, len₂, hc₂, hd₂, hf₂⟩ := hend
    have hW' : U.WarmedH s₂.vm := hW₂
    have hcc : c₂ = c := by
      have h1 : s₂.code? g.method = U.code? g.method := by
        rw [State.code?_eq, State.code?_eq, hW'.alike.method?]
      exact Option.some.inj (hc₂.symm.trans (h1.trans h.code))
    subst hcc
    have hlen : len₂ = len := by rw [hdg] at hd₂; cases hd₂; rfl
    subst hlen
    have hs₂ : s₂ = (({ U with heap := s₂.heap, slotsUsed := s₂.slotsUsed } : State).setVm s₂.vm).setTop { g with pc := g.pc + len₂, stack := v.toList ++ g.stack } := by
      refine e3.trans ?_
      rw [hf₂, State.calling_eq h.top, State.setFrames_setFrames, State.setTop_of_frames _ hr', hr]
      rfl
    have hsame : U.sameButNew ({ U with heap := s₂.heap, slotsUsed := s₂.slotsUsed } : State) L mc ms := by
      refine ⟨?_, q2, q3, q4, q5, q6⟩
      obtain ⟨t, ht, -⟩ := State.frames_cons hr
      show ({ U with heap := s₂.heap, slotsUsed := s₂.slotsUsed } : State) = { U.setFrames U.frames with heap := s₂.heap, slotsUsed := s₂.slotsUsed }
      rw [State.setFrames_self ht]
    subst hg
    refine Or.inl ⟨v, ⟨(({ U with heap := s₂.heap, slotsUsed := s₂.slotsUsed } : State).setVm s₂.vm), Ls ++ L, c0 + mc, s0 + ms⟩,
      ⟨X.admits, X.cas, X.clock, X.frames, X.room, X.hears, X.method, X.code, (X.here.setHeapUsed s₂.heap s₂.slotsUsed).setVm hW'.alike, X.tail, State.WarmedH.trans X.warmed hW', X.limits, X.bytes, X.same.trans (hsame.setVm s.vm)⟩,
      ⟨g, mk, s₂, L, rfl, rfl, hqc, rfl, hL, rfl, rfl⟩, ?_⟩
    show Steps p.tables e below _ ((({ U with heap := s₂.heap, slotsUsed := s₂.slotsUsed } : State).setVm s₂.vm).setTop { g with pc := g.pc + len₂, stack := v.toList ++ g.stack })
    rw [← hs₂]
    exact hsteps
  · obtain ⟨e2, q2, q3, q4, q5, q6⟩ := id hsm
    have e3 : s₂ = ({ (U.calling g mk a).setFrames s₂.frames with heap := s₂.heap, slotsUsed := s₂.slotsUsed } : State).setVm s₂.vm := by
      have : s₂ = ({ s₂ with vm := (U.calling g mk a).vm } : State).setVm s₂.vm := rfl
      rw [e2] at this
      exact this
    have hf₂ : s₂.frames = .throwing q :: .java g :: U.frames.tail := hend
    have hW' : U.WarmedH s₂.vm := hW₂
    have hs₂ : s₂ = ((({ U with heap := s₂.heap, slotsUsed := s₂.slotsUsed } : State).setVm s₂.vm).setTop g).pushFrame (.throwing q) := by
      refine e3.trans ?_
      rw [hf₂, State.calling_eq h.top, State.setFrames_setFrames, State.pushFrame, State.frames_setTop _ hr', State.setTop_of_frames _ hr', State.setFrames_setFrames, hr]
      rfl
    have hsame : U.sameButNew ({ U with heap := s₂.heap, slotsUsed := s₂.slotsUsed } : State) L mc ms := by
      refine ⟨?_, q2, q3, q4, q5, q6⟩
      obtain ⟨t, ht, -⟩ := State.frames_cons hr
      show ({ U with heap := s₂.heap, slotsUsed := s₂.slotsUsed } : State) = { U.setFrames U.frames with heap := s₂.heap, slotsUsed := s₂.slotsUsed }
      rw [State.setFrames_self ht]
    subst hg
    refine Or.inr ⟨q, ⟨(({ U with heap := s₂.heap, slotsUsed := s₂.slotsUsed } : State).setVm s₂.vm), Ls ++ L, c0 + mc, s0 + ms⟩,
      ⟨X.admits, X.cas, X.clock, X.frames, X.room, X.hears, X.method, X.code, (X.here.setHeapUsed s₂.heap s₂.slotsUsed).setVm hW'.alike, X.tail, State.WarmedH.trans X.warmed hW', X.limits, X.bytes, X.same.trans (hsame.setVm s.vm)⟩,
      ⟨g, mk, s₂, L, E, ce, rfl, rfl, hx, hce, hcv, hcl, rfl, hL, rfl, rfl⟩, ?_⟩
    show Steps p.tables e below _ (((({ U with heap := s₂.heap, slotsUsed := s₂.slotsUsed } : State).setVm s₂.vm).setTop g).pushFrame (.throwing q))
    rw [← hs₂]
    exact hsteps
end
variable {p : Program} {l : Launch} {e : Env} {R : Room} {s : State} {m : MethodId} {args : Array Value} {below : List Frame} {meth : Method} {c : Code} {T : State} {H : Heap} {locs : List Loc} {cells slots : Nat}
theorem vx_callVX (X : Stand p l e R s m args below meth c T locs cells slots) (hexec : p.tables.exec = Jvm.exec) {own C : String} {index : Nat} {y : MethodName} {bytes : ByteArray} {maxL : Nat} {ret : Option FieldType} {hh : List (Nat × Nat × Nat × Nat)}
    (hown : s.vm.findClass own = some m.cls) (hlink : (Cond.methodLink own index y).before args s = true) (hinst : (Cond.instanceMethod y).before args s = true) (hsel : (Cond.selects C y y).before args s = true)
    (hcode : (Cond.codeWith y bytes maxL ret hh).before args s = true) (hy : y.cls ≠ "java/lang/invoke/MethodHandle" ∧ y.cls ≠ "java/lang/invoke/VarHandle")
    {W9 : Nat} {Pre : Pt → Array Value → Prop} {Post : Pt → Array Value → Option Value → Pt → Prop} {PostX : Pt → Array Value → Addr → Pt → Prop} (hK : vx_Back l R p e below s args y 3 W9 Pre Post PostX)
    {b : Addr} {cellB : Cell} (hcell : T.heap[b]? = some cellB) (hobj : cellB.vm.isStatics = false) (hcls : s.vm.findClass C = some cellB.cls)
    {g : JFrame} (hg : g.method = m) (hsize : g.locals.size = c.maxLocals) {argsL rest : List Value} (hlen : ∀ sig, parseMethodDescriptor y.desc = some sig → argsL.length = sig.parameters.length)
    (hstack : g.stack = argsL.reverse ++ .ref b :: rest) (hW : 2 * g.monitorRoom + (rest.map fun v => v.category).sum ≤ W9) (hdg : decode c.code g.pc = .ok (.invokevirtual index, 3))
    (hpre : ∀ vm₁, s.WarmedH vm₁ → Pre ⟨T.setVm vm₁, locs, cells, slots⟩ (Value.ref b :: argsL).toArray) :
    (∃ (v : Option Value) (vm₁ : Vm) (B : Pt), s.WarmedH vm₁ ∧ Stand p l e R s m args below meth c B.U B.locs B.cells B.slots ∧ Post ⟨T.setVm vm₁, locs, cells, slots⟩ (Value.ref b :: argsL).toArray v B ∧
      ∀ target, Steps p.tables e below (B.U.setTop { g with pc := g.pc + 3, stack := v.toList ++ rest }) target → Steps p.tables e below (T.setTop g) target) ∨
    (∃ (q : Addr) (vm₁ : Vm) (B : Pt), s.WarmedH vm₁ ∧ Stand p l e R s m args below meth c B.U B.locs B.cells B.slots ∧ PostX ⟨T.setVm vm₁, locs, cells, slots⟩ (Value.ref b :: argsL).toArray q B ∧
      Steps p.tables e below (T.setTop g) ((B.U.setTop { g with stack := rest }).pushFrame (.throwing q))) := by
  obtain ⟨mk, methM, hnamed, hmethM, hstM, habM⟩ := Cond.instanceMethod_spec hinst
  obtain ⟨m8, methM', cM, hn8, hmethM', -, -, -, -, -, -, hsigM⟩ := Cond.codeWith_spec hcode
  cases Option.some.inj (hn8.symm.trans hnamed)
  cases hmethM.symm.trans hmethM'
  obtain ⟨c2, r2, m2, q1, q2, q3, q4, kP, hkP, hkPi⟩ := Cond.selects_spec hsel
  cases hcls.symm.trans q1
  cases (State.methodFound?_of_named hnamed hy).symm.trans q2
  cases hnamed.symm.trans q3
  have hselP : selectMethod e.platform s.vm cellB.cls mk = .method mk := by rw [Launch.admits_selectMethod X.admits]; exact q4
  obtain ⟨vm₁, X₁, hstep₁⟩ := X.invokevirtual hexec hown hlink hnamed hmethM hstM hkP hkPi hy (a := b) (cell := cellB) hcell
    (fun z h => by rw [h] at hobj; cases hobj) hselP hmethM habM hkP hkPi (g := g) hg (argsL := argsL) (rest := rest) (hlen _ hsigM) hstack hdg
  rcases hK m meth c ⟨T.setVm vm₁, locs, cells, slots⟩ { g with stack := rest } (.invokevirtual index) mk (Value.ref b :: argsL).toArray X₁ hg hsize hdg hW (X₁.named hnamed) (hpre vm₁ X₁.warmed) with ⟨v, B, X', hpost, hsteps⟩ | ⟨q, B, X', hpost, hsteps⟩
  · exact Or.inl ⟨v, vm₁, B, X₁.warmed, X', hpost, fun target h => hstep₁ _ fun acts => by rw [doInvoke_state]; exact hsteps.trans h⟩
  · exact Or.inr ⟨q, vm₁, B, X₁.warmed, X', hpost, hstep₁ _ fun acts => by rw [doInvoke_state]; exact hsteps⟩
theorem vx_callSX (X : Stand p l e R s m args below meth c T locs cells slots) (hexec : p.tables.exec = Jvm.exec) {own : String} {index : Nat} {y : MethodName} {bytes : ByteArray} {maxL : Nat} {ret : Option FieldType} {hh : List (Nat × Nat × Nat × Nat)}
    (hown : s.vm.findClass own = some m.cls) (hlink : (Cond.methodLink own index y).before args s = true) (hstat : (Cond.static y).before args s = true) (hinit : (Cond.initialized y.cls).before args s = true)
    (hcode : (Cond.codeWith y bytes maxL ret hh).before args s = true) (hy : y.cls ≠ "java/lang/invoke/MethodHandle" ∧ y.cls ≠ "java/lang/invoke/VarHandle")
    {W9 : Nat} {Pre : Pt → Array Value → Prop} {Post : Pt → Array Value → Option Value → Pt → Prop} {PostX : Pt → Array Value → Addr → Pt → Prop} (hK : vx_Back l R p e below s args y 3 W9 Pre Post PostX)
    {g : JFrame} (hg : g.method = m) (hsize : g.locals.size = c.maxLocals) {argsL rest : List Value} (hlen : ∀ sig, parseMethodDescriptor y.desc = some sig → argsL.length = sig.parameters.length)
    (hstack : g.stack = argsL.reverse ++ rest) (hW : 2 * g.monitorRoom + (rest.map fun v => v.category).sum ≤ W9) (hdg : decode c.code g.pc = .ok (.invokestatic index, 3))
    (hpre : ∀ vm₁, s.WarmedH vm₁ → Pre ⟨T.setVm vm₁, locs, cells, slots⟩ argsL.toArray) :
    (∃ (v : Option Value) (vm₁ : Vm) (B : Pt), s.WarmedH vm₁ ∧ Stand p l e R s m args below meth c B.U B.locs B.cells B.slots ∧ Post ⟨T.setVm vm₁, locs, cells, slots⟩ argsL.toArray v B ∧
      ∀ target, Steps p.tables e below (B.U.setTop { g with pc := g.pc + 3, stack := v.toList ++ rest }) target → Steps p.tables e below (T.setTop g) target) ∨
    (∃ (q : Addr) (vm₁ : Vm) (B : Pt), s.WarmedH vm₁ ∧ Stand p l e R s m args below meth c B.U B.locs B.cells B.slots ∧ PostX ⟨T.setVm vm₁, locs, cells, slots⟩ argsL.toArray q B ∧
      Steps p.tables e below (T.setTop g) ((B.U.setTop { g with stack := rest }).pushFrame (.throwing q))) := by
  obtain ⟨mk, methM, cM, hnamed, hmethM, -, -, -, -, -, -, hsigM⟩ := Cond.codeWith_spec hcode
  have hstatic : methM.isStatic = true := Cond.static_spec hnamed hmethM hstat
  obtain ⟨kP, hkP, -⟩ := className_of_methodNamed hnamed
  have hinitP : kP.init = .initialized := Cond.initialized_spec (findClass_of_methodNamed hnamed) hkP hinit
  obtain ⟨vm₁, X₁, hstep₁⟩ := X.invokestatic hexec hown hlink hnamed hmethM hstatic hkP hinitP hy (g := g) hg (argsL := argsL) (rest := rest) (hlen _ hsigM) hstack hdg
  rcases hK m meth c ⟨T.setVm vm₁, locs, cells, slots⟩ { g with stack := rest } (.invokestatic index) mk argsL.toArray X₁ hg hsize hdg hW (X₁.named hnamed) (hpre vm₁ X₁.warmed) with ⟨v, B, X', hpost, hsteps⟩ | ⟨q, B, X', hpost, hsteps⟩
  · exact Or.inl ⟨v, vm₁, B, X₁.warmed, X', hpost, fun target h => hstep₁ _ fun acts => by rw [doInvoke_state]; exact hsteps.trans h⟩
  · exact Or.inr ⟨q, vm₁, B, X₁.warmed, X', hpost, hstep₁ _ fun acts => by rw [doInvoke_state]; exact hsteps⟩
theorem vx_callVW (X : Stand p l e R s m args below meth c T locs cells slots) (hexec : p.tables.exec = Jvm.exec) {own C : String} {index : Nat} {y : MethodName} {bytes : ByteArray} {maxL : Nat} {ret : Option FieldType} {hh : List (Nat × Nat × Nat × Nat)}
    (hown : s.vm.findClass own = some m.cls) (hlink : (Cond.methodLink own index y).before args s = true) (hinst : (Cond.instanceMethod y).before args s = true) (hsel : (Cond.selects C y y).before args s = true)
    (hcode : (Cond.codeWith y bytes maxL ret hh).before args s = true) (hy : y.cls ≠ "java/lang/invoke/MethodHandle" ∧ y.cls ≠ "java/lang/invoke/VarHandle")
    {W9 : Nat} {Pre : Pt → Array Value → Prop} {Post : Pt → Array Value → Option Value → Pt → Prop} (hK : Back l R p e below s args y 3 W9 Pre Post)
    {b : Addr} {cellB : Cell} (hcell : T.heap[b]? = some cellB) (hobj : cellB.vm.isStatics = false) (hcls : s.vm.findClass C = some cellB.cls)
    {g : JFrame} (hg : g.method = m) (hsize : g.locals.size = c.maxLocals) {argsL rest : List Value} (hlen : ∀ sig, parseMethodDescriptor y.desc = some sig → argsL.length = sig.parameters.length)
    (hstack : g.stack = argsL.reverse ++ .ref b :: rest) (hW : 2 * g.monitorRoom + (rest.map fun v => v.category).sum ≤ W9) (hdg : decode c.code g.pc = .ok (.invokevirtual index, 3))
    (hpre : ∀ vm₁, s.WarmedH vm₁ → Pre ⟨T.setVm vm₁, locs, cells, slots⟩ (Value.ref b :: argsL).toArray) :
    ∃ (v : Option Value) (vm₁ : Vm) (B : Pt), s.WarmedH vm₁ ∧ Stand p l e R s m args below meth c B.U B.locs B.cells B.slots ∧ Post ⟨T.setVm vm₁, locs, cells, slots⟩ (Value.ref b :: argsL).toArray v B ∧
      ∀ target, Steps p.tables e below (B.U.setTop { g with pc := g.pc + 3, stack := v.toList ++ rest }) target → Steps p.tables e below (T.setTop g) target := by
  obtain ⟨mk, methM, hnamed, hmethM, hstM, habM⟩ := Cond.instanceMethod_spec hinst
  obtain ⟨m8, methM', cM, hn8, hmethM', -, -, -, -, -, -, hsigM⟩ := Cond.codeWith_spec hcode
  cases Option.some.inj (hn8.symm.trans hnamed)
  cases hmethM.symm.trans hmethM'
  obtain ⟨c2, r2, m2, q1, q2, q3, q4, kP, hkP, hkPi⟩ := Cond.selects_spec hsel
  cases hcls.symm.trans q1
  cases (State.methodFound?_of_named hnamed hy).symm.trans q2
  cases hnamed.symm.trans q3
  have hselP : selectMethod e.platform s.vm cellB.cls mk = .method mk := by rw [Launch.admits_selectMethod X.admits]; exact q4
  obtain ⟨vm₁, X₁, hstep₁⟩ := X.invokevirtual hexec hown hlink hnamed hmethM hstM hkP hkPi hy (a := b) (cell := cellB) hcell
    (fun z h => by rw [h] at hobj; cases hobj) hselP hmethM habM hkP hkPi (g := g) hg (argsL := argsL) (rest := rest) (hlen _ hsigM) hstack hdg
  obtain ⟨v, B, X', hpost, hsteps⟩ := hK m meth c ⟨T.setVm vm₁, locs, cells, slots⟩ { g with stack := rest } (.invokevirtual index) mk (Value.ref b :: argsL).toArray X₁ hg hsize hdg hW (X₁.named hnamed) (hpre vm₁ X₁.warmed)
  exact ⟨v, vm₁, B, X₁.warmed, X', hpost, fun target h => hstep₁ _ fun acts => by rw [doInvoke_state]; exact hsteps.trans h⟩
abbrev vx_CVW (R : Room) (s : State) (args : Array Value) (own C : String) (index : Nat) (y : MethodName) (bytes : ByteArray) (maxL : Nat) (ret : Option FieldType) (hh : List (Nat × Nat × Nat × Nat)) (ws : List Cond) (rm : Room) (mc ms n : Nat) : Prop :=
  (rm.cells = mc ∧ rm.slots = ms ∧ rm.frames + 1 ≤ R.frames ∧ 8 + (maxL + 11) + rm.locals ≤ R.locals ∧ (∀ w ∈ ws, ∀ (a' : Array Value) (U : State), s.WarmedH U.vm → w.before a' U = true) ∧ Cond.codeWith y bytes maxL ret hh ∈ ws) ∧
  (Cond.codeWith y bytes maxL ret hh).before args s = true ∧ (Cond.initialized y.cls).before args s = true ∧ (y.cls ≠ "java/lang/invoke/MethodHandle" ∧ y.cls ≠ "java/lang/invoke/VarHandle") ∧
  (∀ sig, parseMethodDescriptor y.desc = some sig → n = sig.parameters.length) ∧ (Cond.methodLink own index y).before args s = true ∧ (Cond.instanceMethod y).before args s = true ∧ (Cond.selects C y y).before args s = true
theorem vx_cwVW {own C : String} {index maxL mc ms : Nat} {y : MethodName} {bytes : ByteArray} {ret : Option FieldType} {hh : List (Nat × Nat × Nat × Nat)} {Ts ws ws' : List Cond} {rm : Room} (n : Nat) (ht : ∀ w ∈ Ts, w.before args s = true) (hT : GoodIn Ts (wsV own index C y ws)) (hw : ws = Cond.codeWith y bytes maxL ret hh :: ws') (hrc : rm.cells = mc) (hrs : rm.slots = ms)
    (hd : y.cls = C ∧ y.cls ≠ "java/lang/invoke/MethodHandle" ∧ y.cls ≠ "java/lang/invoke/VarHandle" ∧ (parseMethodDescriptor y.desc).map (fun d => d.parameters.length) = some n) (hR : rm.frames + 1 ≤ R.frames ∧ 8 + (maxL + 11) + rm.locals ≤ R.locals) :
    vx_CVW R s args own C index y bytes maxL ret hh ws rm mc ms n := by
  obtain ⟨hC, hd⟩ := hd
  subst hC
  have ok : ∀ w ∈ wsV own index y.cls y ws, w.before args s = true := fun w h => ht w (hT w h).1
  have hG : GoodIn Ts ws := fun w h => hT w (by unfold wsV; exact List.mem_append_right _ h)
  have hc : Cond.codeWith y bytes maxL ret hh ∈ ws := by rw [hw]; exact List.mem_cons_self
  refine ⟨⟨hrc, hrs, hR.1, hR.2, pay_in ht hG, hc⟩, ht _ (hG _ hc).1, ok _ (by simp [wsV]), ⟨hd.1, hd.2.1⟩, fun sig h => ?_, ok _ (by simp [wsV]), ok _ (by simp [wsV]), ok _ (by simp [wsV])⟩
  have h2 := hd.2.2
  rw [h] at h2
  exact (Option.some.inj h2).symm
theorem vx_runVW {y : MethodName} {bytes cc : ByteArray} {maxL nL mc ms n index : Nat} {ret : Option FieldType} {hh : List (Nat × Nat × Nat × Nat)} {ws : List Cond} {rm : Room} {Pc : Array Value → State → Prop} {Qc : Array Value → State → Outcome → State → Prop} {free : Addr → Prop} {Ts : List Cond} {own C : String} {b : Addr} {As rest : List Value} {g : JFrame}
    (S : CallFix p m c cc nL s args Ts own) (hM : Met l y ws rm Pc Qc mc ms free) (cw : vx_CVW R s args own C index y bytes maxL ret hh ws rm mc ms n) (hp : PreV s H C b Pc As)
    (hg : g.method = m) (hn : As.length = n) (hsize : g.locals.size = nL) (hstack : g.stack = As.reverse ++ .ref b :: rest) (hW : 2 * g.monitorRoom + (rest.map fun v => v.category).sum ≤ 8) (hdg : decode cc g.pc = .ok (.invokevirtual index, 3)) (hf : cells + mc ≤ R.cells ∧ slots + ms ≤ R.slots) :
    va_Run p l e R s m args below meth c H locs cells slots mc ms g rest (Qc (Value.ref b :: As).toArray) free := by
  obtain ⟨⟨hrc, hrs, hfr, hlo, hws, hcw⟩, hcode, hini, hy, hlen, hl, hin, hse⟩ := cw
  have hK : Back l R p e below s args y 3 8 (PreOf R mc ms Pc) (PostOf Qc mc ms free) := va_backW (hh := hh) (bytes := bytes) (maxL := maxL) (ret := ret) hM hp.1 hrc hrs hfr hlo hws hcw (fun a' U hW => word_at hW (Or.inl (by first | rfl | simp [Cond.onTables, Cond.keeps, Cond.steady])) hini)
  obtain ⟨hx, hb, hml, ho, -⟩ := S
  obtain ⟨-, ⟨cellB, hcB, hoB, hclB⟩, hPc⟩ := hp
  intro T hT X
  obtain ⟨v, vm₁, ⟨U', l2, c2, s2⟩, hW₁, X', ⟨g', mk, t, L, e1, e2, hq, h1, hL, h2, h3⟩, st⟩ := vx_callVW X hx (C := C) (hh := hh) (bytes := bytes) (maxL := maxL) (ret := ret) ho hl hin hse hcode hy hK (by rw [hT]; exact hcB) hoB hclB hg (hsize.trans hml.symm) (argsL := As) (rest := rest) (fun sig h => hn.trans (hlen sig h)) hstack hW (by rw [hb]; exact hdg)
    (fun vm₁ hW₁ => ⟨hf.1, hf.2, hPc (T.setVm vm₁) hT hW₁⟩)
  dsimp only [Pt.U, Pt.locs, Pt.cells, Pt.slots] at X' e1 e2 h1 h2 h3 st
  subst h1; subst h2; subst h3
  exact ⟨v, (T.setVm vm₁).calling g' mk (Value.ref b :: As).toArray, t, U', L, hT, X', hL, e1, e2, hq, st⟩
section
variable {y : MethodName} {bytes cc : ByteArray} {maxL nL mc ms n index : Nat} {ret : Option FieldType} {ws : List Cond} {rm : Room} {Pc : Array Value → State → Prop} {Qc : Array Value → State → Outcome → State → Prop} {XC : String → State → State → Prop} {free : Addr → Prop} {Ts : List Cond} {own C : String} {b : Addr} {As rest : List Value} {g : JFrame}
theorem vx_runVX {hh : List (Nat × Nat × Nat × Nat)} (S : CallFix p m c cc nL s args Ts own) (hM : vx_Met l y ws rm Pc Qc XC mc ms free) (cw : vx_CVW R s args own C index y bytes maxL ret hh ws rm mc ms n) (hp : PreV s H C b Pc As)
    (hg : g.method = m) (hn : As.length = n) (hsize : g.locals.size = nL) (hstack : g.stack = As.reverse ++ .ref b :: rest) (hW : 2 * g.monitorRoom + (rest.map fun v => v.category).sum ≤ 8) (hdg : decode cc g.pc = .ok (.invokevirtual index, 3)) (hf : cells + mc ≤ R.cells ∧ slots + ms ≤ R.slots) :
    vx_Run p l e R s m args below meth c H locs cells slots mc ms g rest (Qc (Value.ref b :: As).toArray) XC free := by
  obtain ⟨⟨hrc, hrs, hfr, hlo, hws, hcw⟩, hcode, hini, hy, hlen, hl, hin, hse⟩ := cw
  have hK : vx_Back l R p e below s args y 3 8 (PreOf R mc ms Pc) (PostOf Qc mc ms free) (vx_Post XC mc ms free) := vx_backW (hh := hh) (bytes := bytes) (maxL := maxL) (ret := ret) hM hp.1 hrc hrs hfr hlo hws hcw (fun a' U hW => word_at hW (Or.inl (by first | rfl | simp [Cond.onTables, Cond.keeps, Cond.steady])) hini)
  obtain ⟨hx, hb, hml, ho, -⟩ := S
  obtain ⟨-, ⟨cellB, hcB, hoB, hclB⟩, hPc⟩ := hp
  intro T hT X
  rcases vx_callVX X hx (C := C) (hh := hh) (bytes := bytes) (maxL := maxL) (ret := ret) ho hl hin hse hcode hy hK (by rw [hT]; exact hcB) hoB hclB hg (hsize.trans hml.symm) (argsL := As) (rest := rest) (fun sig h => hn.trans (hlen sig h)) hstack hW (by rw [hb]; exact hdg)
    (fun vm₁ hW₁ => ⟨hf.1, hf.2, hPc (T.setVm vm₁) hT hW₁⟩) with ⟨v, vm₁, ⟨U', l2, c2, s2⟩, hW₁, X', ⟨g', mk, t, L, e1, e2, hq, h1, hL, h2, h3⟩, st⟩ | ⟨q, vm₁, ⟨U', l2, c2, s2⟩, hW₁, X', ⟨g', mk, t, L, E, ce, e1, e2, hq, hce, hcv, hcl, h1, hL, h2, h3⟩, st⟩
  · dsimp only [Pt.U, Pt.locs, Pt.cells, Pt.slots] at X' e1 e2 h1 h2 h3 st
    subst h1; subst h2; subst h3
    exact Or.inl ⟨v, (T.setVm vm₁).calling g' mk (Value.ref b :: As).toArray, t, U', L, hT, X', hL, e1, e2, hq, st⟩
  · dsimp only [Pt.U, Pt.locs, Pt.cells, Pt.slots] at X' e1 e2 h1 h2 h3 st hcl
    subst h1; subst h2; subst h3
    exact Or.inr ⟨q, (T.setVm vm₁).calling g' mk (Value.ref b :: As).toArray, t, U', L, E, ce, hT, X', hL, e1, e2, hq, hce, hcv, vx_cls hW₁ hcl, st⟩
theorem vx_runSX {hh : List (Nat × Nat × Nat × Nat)} (S : CallFix p m c cc nL s args Ts own) (hM : vx_Met l y ws rm Pc Qc XC mc ms free) (cw : vx_CSW R s args own index y bytes maxL ret hh ws rm mc ms n) (hp : PreS s H Pc As)
    (hg : g.method = m) (hn : As.length = n) (hsize : g.locals.size = nL) (hstack : g.stack = As.reverse ++ rest) (hW : 2 * g.monitorRoom + (rest.map fun v => v.category).sum ≤ 8) (hdg : decode cc g.pc = .ok (.invokestatic index, 3)) (hf : cells + mc ≤ R.cells ∧ slots + ms ≤ R.slots) :
    vx_Run p l e R s m args below meth c H locs cells slots mc ms g rest (Qc As.toArray) XC free := by
  obtain ⟨⟨hrc, hrs, hfr, hlo, hws, hcw⟩, hcode, hini, hy, hlen, hl, hstt⟩ := cw
  have hK : vx_Back l R p e below s args y 3 8 (PreOf R mc ms Pc) (PostOf Qc mc ms free) (vx_Post XC mc ms free) := vx_backW (hh := hh) (bytes := bytes) (maxL := maxL) (ret := ret) hM hp.1 hrc hrs hfr hlo hws hcw (fun a' U hW => word_at hW (Or.inl (by first | rfl | simp [Cond.onTables, Cond.keeps, Cond.steady])) hini)
  obtain ⟨hx, hb, hml, ho, -⟩ := S
  intro T hT X
  rcases vx_callSX X hx (hh := hh) (bytes := bytes) (maxL := maxL) (ret := ret) ho hl hstt hini hcode hy hK hg (hsize.trans hml.symm) (argsL := As) (rest := rest) (fun sig h => hn.trans (hlen sig h)) hstack hW (by rw [hb]; exact hdg)
    (fun vm₁ hW₁ => ⟨hf.1, hf.2, hp.2 (T.setVm vm₁) hT hW₁⟩) with ⟨v, vm₁, ⟨U', l2, c2, s2⟩, hW₁, X', ⟨g', mk, t, L, e1, e2, hq, h1, hL, h2, h3⟩, st⟩ | ⟨q, vm₁, ⟨U', l2, c2, s2⟩, hW₁, X', ⟨g', mk, t, L, E, ce, e1, e2, hq, hce, hcv, hcl, h1, hL, h2, h3⟩, st⟩
  · dsimp only [Pt.U, Pt.locs, Pt.cells, Pt.slots] at X' e1 e2 h1 h2 h3 st
    subst h1; subst h2; subst h3
    exact Or.inl ⟨v, (T.setVm vm₁).calling g' mk As.toArray, t, U', L, hT, X', hL, e1, e2, hq, st⟩
  · dsimp only [Pt.U, Pt.locs, Pt.cells, Pt.slots] at X' e1 e2 h1 h2 h3 st hcl
    subst h1; subst h2; subst h3
    exact Or.inr ⟨q, (T.setVm vm₁).calling g' mk As.toArray, t, U', L, E, ce, hT, X', hL, e1, e2, hq, hce, hcv, vx_cls hW₁ hcl, st⟩
end
end VXH
theorem vx_ofWH {l : Launch} {y : MethodName} {ws ws' : List Cond} {rm : Room} {Pc : Array Value → State → Prop} {Qc : Array Value → State → Outcome → State → Prop} {XC : String → State → State → Prop} {mc ms : Nat} {free : Addr → Prop} {cc : ByteArray} {maxL : Nat} {ret : Option FieldType} {hh : List (Nat × Nat × Nat × Nat)}
    (hy : plainName y.cls = true) (hw : ws = Cond.codeWith y cc maxL ret hh :: ws')
    (body : ∀ p e s m args below meth c s₁, BodyLoose p l y (headSpec ws rm) cc maxL ret e s m args below meth c s₁ → c.maxLocals = maxL → Pc args s →
      W p l e (headSpec ws rm).room s m args below meth c s.heap [] 0 0 (vx_MQ below Qc XC args s mc ms free) (entryFrame m args maxL)) : vx_Met l y ws rm Pc Qc XC mc ms free := by
  refine MetFree.of_bodyS (code := cc) (maxLocals := maxL) (ret := ret) hy ?_ ?_
  · intro args s m h hn
    obtain ⟨m9, meth, c, hn9, h1, h2, h3, h4, -, h5, h6, -⟩ := Cond.codeWith_spec (atoms_spec (ws := ws) h _ (by rw [hw]; exact List.mem_cons_self))
    cases hn.symm.trans hn9
    exact ⟨meth, c, h1, h2, h3, h4, h5, h6⟩
  · intro p e s m args below meth c s₁ B hml hP _
    have hh0 : s₁.heap = s.heap := by rw [B.state]; rfl
    obtain ⟨t, a1, o, b1, b2, b3⟩ := body p e s m args below meth c s₁ B hml hP s₁ hh0 (Stand.of_body B)
    exact ⟨t, o, a1, b1, b2, b3⟩
/-! ===== END ===== -/
end
section
/-! ===== BEGIN printed: names, fields, word lists, decode rows ===== -/
def RX0 : String := "TradeHall$Books"
def TX0 : u_T := fun k => match k with
  | 0 => ("TradeHall$Books", "orders", "LTradeHall$Orders;", true)
  | 1 => ("TradeHall$Books", "rows", "[I", true)
  | _ => ("TradeHall$Books", "sizes", "[I", true)
def tyX0 : Nat → FieldType := fun k => match k with
  | 0 => .object "TradeHall$Orders"
  | 1 => .array .int
  | _ => .array .int
abbrev wsX00 : List Cond := u_ws RX0 TX0 3
theorem nmX0 : ∀ a, a < 3 → ∀ b, b < 3 → a ≠ b → (TX0 a).2.1 ≠ (TX0 b).2.1 := by decide +kernel
theorem tyX0_ok : ∀ k, k < 3 → parseFieldDescriptor (TX0 k).2.2.1 = some (tyX0 k) := by decide +kernel
abbrev cX0_init : ByteArray := prog_2_method_1_code
def yX0_init : MethodName := ⟨RX0, "<init>", "(LTradeHall$Orders;)V"⟩
abbrev cX0_bookOf : ByteArray := prog_2_method_2_code
def yX0_bookOf : MethodName := ⟨RX0, "bookOf", "(II)I"⟩
abbrev cX0_facing : ByteArray := prog_2_method_3_code
def yX0_facing : MethodName := ⟨RX0, "facing", "(I)I"⟩
abbrev cX0_orderAt : ByteArray := prog_2_method_4_code
def yX0_orderAt : MethodName := ⟨RX0, "orderAt", "(II)I"⟩
abbrev cX0_putLast : ByteArray := prog_2_method_5_code
def yX0_putLast : MethodName := ⟨RX0, "putLast", "(I)V"⟩
abbrev cX0_drop : ByteArray := prog_2_method_6_code
def yX0_drop : MethodName := ⟨RX0, "drop", "(I)V"⟩
abbrev cX0_countPrices : ByteArray := prog_2_method_7_code
def yX0_countPrices : MethodName := ⟨RX0, "countPrices", "(I)I"⟩
abbrev cX0_priceOfLevel : ByteArray := prog_2_method_8_code
def yX0_priceOfLevel : MethodName := ⟨RX0, "priceOfLevel", "(II)I"⟩
abbrev cX0_countOrders : ByteArray := prog_2_method_9_code
def yX0_countOrders : MethodName := ⟨RX0, "countOrders", "(II)I"⟩
abbrev cX0_sumLeft : ByteArray := prog_2_method_10_code
def yX0_sumLeft : MethodName := ⟨RX0, "sumLeft", "(II)I"⟩
abbrev cX0_sumShown : ByteArray := prog_2_method_11_code
def yX0_sumShown : MethodName := ⟨RX0, "sumShown", "(III)I"⟩
def RX1 : String := "TradeHall$Ledger"
def TX1 : u_T := fun k => match k with
  | 0 => ("TradeHall$Ledger", "cashOf", "[J", true)
  | 1 => ("TradeHall$Ledger", "cashHeld", "[J", true)
  | 2 => ("TradeHall$Ledger", "sharesOf", "[I", true)
  | 3 => ("TradeHall$Ledger", "sharesHeld", "[I", true)
  | 4 => ("TradeHall$Ledger", "bought", "[I", true)
  | 5 => ("TradeHall$Ledger", "sold", "[I", true)
  | 6 => ("TradeHall$Ledger", "known", "[Z", true)
  | _ => ("TradeHall$Ledger", "knownCount", "I", false)
def tyX1 : Nat → FieldType := fun k => match k with
  | 0 => .array .long
  | 1 => .array .long
  | 2 => .array .int
  | 3 => .array .int
  | 4 => .array .int
  | 5 => .array .int
  | 6 => .array .boolean
  | _ => .int
abbrev wsX10 : List Cond := u_ws RX1 TX1 8
theorem nmX1 : ∀ a, a < 8 → ∀ b, b < 8 → a ≠ b → (TX1 a).2.1 ≠ (TX1 b).2.1 := by decide +kernel
theorem tyX1_ok : ∀ k, k < 8 → parseFieldDescriptor (TX1 k).2.2.1 = some (tyX1 k) := by decide +kernel
abbrev cX1_init : ByteArray := prog_3_method_1_code
def yX1_init : MethodName := ⟨RX1, "<init>", "()V"⟩
abbrev cX1_placeOf : ByteArray := prog_3_method_2_code
def yX1_placeOf : MethodName := ⟨RX1, "placeOf", "(II)I"⟩
abbrev cX1_know : ByteArray := prog_3_method_3_code
def yX1_know : MethodName := ⟨RX1, "know", "(I)V"⟩
abbrev cX1_freeCash : ByteArray := prog_3_method_4_code
def yX1_freeCash : MethodName := ⟨RX1, "freeCash", "(I)J"⟩
abbrev cX1_canHold : ByteArray := prog_3_method_5_code
def yX1_canHold : MethodName := ⟨RX1, "canHold", "(IIIII)Z"⟩
abbrev cX1_handOver : ByteArray := prog_3_method_6_code
def yX1_handOver : MethodName := ⟨RX1, "handOver", "(IIIII)V"⟩
abbrev cX1_turnover : ByteArray := prog_3_method_7_code
def yX1_turnover : MethodName := ⟨RX1, "turnover", "(II)I"⟩
abbrev cX1_countBusier : ByteArray := prog_3_method_8_code
def yX1_countBusier : MethodName := ⟨RX1, "countBusier", "(II)I"⟩
def RX2 : String := "TradeHall$Orders"
def TX2 : u_T := fun k => match k with
  | 0 => ("TradeHall$Orders", "account", "[I", true)
  | 1 => ("TradeHall$Orders", "symbol", "[I", true)
  | 2 => ("TradeHall$Orders", "side", "[I", true)
  | 3 => ("TradeHall$Orders", "kind", "[I", true)
  | 4 => ("TradeHall$Orders", "price", "[I", true)
  | 5 => ("TradeHall$Orders", "extra", "[I", true)
  | 6 => ("TradeHall$Orders", "left", "[I", true)
  | 7 => ("TradeHall$Orders", "shown", "[I", true)
  | 8 => ("TradeHall$Orders", "state", "[I", true)
  | 9 => ("TradeHall$Orders", "ends", "[I", true)
  | 10 => ("TradeHall$Orders", "traded", "[I", true)
  | 11 => ("TradeHall$Orders", "taken", "I", false)
  | _ => ("TradeHall$Orders", "there", "I", false)
def tyX2 : Nat → FieldType := fun k => match k with
  | 0 => .array .int
  | 1 => .array .int
  | 2 => .array .int
  | 3 => .array .int
  | 4 => .array .int
  | 5 => .array .int
  | 6 => .array .int
  | 7 => .array .int
  | 8 => .array .int
  | 9 => .array .int
  | 10 => .array .int
  | 11 => .int
  | _ => .int
abbrev wsX20 : List Cond := u_ws RX2 TX2 13
theorem nmX2 : ∀ a, a < 13 → ∀ b, b < 13 → a ≠ b → (TX2 a).2.1 ≠ (TX2 b).2.1 := by decide +kernel
theorem tyX2_ok : ∀ k, k < 13 → parseFieldDescriptor (TX2 k).2.2.1 = some (tyX2 k) := by decide +kernel
abbrev cX2_init : ByteArray := prog_4_method_1_code
def yX2_init : MethodName := ⟨RX2, "<init>", "()V"⟩
abbrev cX2_take : ByteArray := prog_4_method_2_code
def yX2_take : MethodName := ⟨RX2, "take", "(IIIIIII)I"⟩
abbrev cX2_isThere : ByteArray := prog_4_method_3_code
def yX2_isThere : MethodName := ⟨RX2, "isThere", "(I)Z"⟩
abbrev cX2_isWokenBy : ByteArray := prog_4_method_4_code
def yX2_isWokenBy : MethodName := ⟨RX2, "isWokenBy", "(II)Z"⟩
abbrev cX2_pricesAllow : ByteArray := prog_4_method_5_code
def yX2_pricesAllow : MethodName := ⟨RX2, "pricesAllow", "(II)Z"⟩
abbrev cX2_fill : ByteArray := prog_4_method_6_code
def yX2_fill : MethodName := ⟨RX2, "fill", "(II)V"⟩
def RX3 : String := "TradeHall$Tape"
def TX3 : u_T := fun k => match k with
  | 0 => ("TradeHall$Tape", "came", "[I", true)
  | 1 => ("TradeHall$Tape", "rested", "[I", true)
  | 2 => ("TradeHall$Tape", "price", "[I", true)
  | 3 => ("TradeHall$Tape", "amount", "[I", true)
  | 4 => ("TradeHall$Tape", "last", "[I", true)
  | 5 => ("TradeHall$Tape", "greatest", "[I", true)
  | 6 => ("TradeHall$Tape", "least", "[I", true)
  | 7 => ("TradeHall$Tape", "volume", "[I", true)
  | _ => ("TradeHall$Tape", "trades", "I", false)
def tyX3 : Nat → FieldType := fun k => match k with
  | 0 => .array .int
  | 1 => .array .int
  | 2 => .array .int
  | 3 => .array .int
  | 4 => .array .int
  | 5 => .array .int
  | 6 => .array .int
  | 7 => .array .int
  | _ => .int
abbrev wsX30 : List Cond := u_ws RX3 TX3 9
theorem nmX3 : ∀ a, a < 9 → ∀ b, b < 9 → a ≠ b → (TX3 a).2.1 ≠ (TX3 b).2.1 := by decide +kernel
theorem tyX3_ok : ∀ k, k < 9 → parseFieldDescriptor (TX3 k).2.2.1 = some (tyX3 k) := by decide +kernel
abbrev cX3_init : ByteArray := prog_5_method_1_code
def yX3_init : MethodName := ⟨RX3, "<init>", "()V"⟩
abbrev cX3_note : ByteArray := prog_5_method_2_code
def yX3_note : MethodName := ⟨RX3, "note", "(IIIII)V"⟩
def RX4 : String := "TradeHall"
def TX4 : u_T := fun k => match k with
  | 0 => ("TradeHall", "ledger", "LTradeHall$Ledger;", true)
  | 1 => ("TradeHall", "orders", "LTradeHall$Orders;", true)
  | 2 => ("TradeHall", "books", "LTradeHall$Books;", true)
  | 3 => ("TradeHall", "tape", "LTradeHall$Tape;", true)
  | _ => ("TradeHall", "now", "I", false)
def tyX4 : Nat → FieldType := fun k => match k with
  | 0 => .object "TradeHall$Ledger"
  | 1 => .object "TradeHall$Orders"
  | 2 => .object "TradeHall$Books"
  | 3 => .object "TradeHall$Tape"
  | _ => .int
abbrev wsX40 : List Cond := u_ws RX4 TX4 5
theorem nmX4 : ∀ a, a < 5 → ∀ b, b < 5 → a ≠ b → (TX4 a).2.1 ≠ (TX4 b).2.1 := by decide +kernel
theorem tyX4_ok : ∀ k, k < 5 → parseFieldDescriptor (TX4 k).2.2.1 = some (tyX4 k) := by decide +kernel
abbrev cX4_init : ByteArray := prog_1_method_1_code
def yX4_init : MethodName := ⟨RX4, "<init>", "()V"⟩
abbrev cX4_deposit : ByteArray := prog_1_method_2_code
def yX4_deposit : MethodName := ⟨RX4, "deposit", "(II)J"⟩
abbrev cX4_withdraw : ByteArray := prog_1_method_3_code
def yX4_withdraw : MethodName := ⟨RX4, "withdraw", "(II)J"⟩
abbrev cX4_grant : ByteArray := prog_1_method_4_code
def yX4_grant : MethodName := ⟨RX4, "grant", "(III)I"⟩
abbrev cX4_order : ByteArray := prog_1_method_5_code
def yX4_order : MethodName := ⟨RX4, "order", "(IIIIIII)I"⟩
abbrev cX4_cancel : ByteArray := prog_1_method_6_code
def yX4_cancel : MethodName := ⟨RX4, "cancel", "(II)I"⟩
abbrev cX4_reduce : ByteArray := prog_1_method_7_code
def yX4_reduce : MethodName := ⟨RX4, "reduce", "(III)I"⟩
abbrev cX4_until : ByteArray := prog_1_method_8_code
def yX4_until : MethodName := ⟨RX4, "until", "(III)V"⟩
abbrev cX4_pass : ByteArray := prog_1_method_9_code
def yX4_pass : MethodName := ⟨RX4, "pass", "(I)I"⟩
abbrev cX4_best : ByteArray := prog_1_method_10_code
def yX4_best : MethodName := ⟨RX4, "best", "(II)I"⟩
abbrev cX4_depth : ByteArray := prog_1_method_11_code
def yX4_depth : MethodName := ⟨RX4, "depth", "(III)I"⟩
abbrev cX4_level : ByteArray := prog_1_method_12_code
def yX4_level : MethodName := ⟨RX4, "level", "(IIII)I"⟩
abbrev cX4_about : ByteArray := prog_1_method_13_code
def yX4_about : MethodName := ⟨RX4, "about", "(II)I"⟩
abbrev cX4_ahead : ByteArray := prog_1_method_14_code
def yX4_ahead : MethodName := ⟨RX4, "ahead", "(I)I"⟩
abbrev cX4_cash : ByteArray := prog_1_method_15_code
def yX4_cash : MethodName := ⟨RX4, "cash", "(II)J"⟩
abbrev cX4_shares : ByteArray := prog_1_method_16_code
def yX4_shares : MethodName := ⟨RX4, "shares", "(III)I"⟩
abbrev cX4_count : ByteArray := prog_1_method_17_code
def yX4_count : MethodName := ⟨RX4, "count", "(I)I"⟩
abbrev cX4_trade : ByteArray := prog_1_method_18_code
def yX4_trade : MethodName := ⟨RX4, "trade", "(II)I"⟩
abbrev cX4_symbol : ByteArray := prog_1_method_19_code
def yX4_symbol : MethodName := ⟨RX4, "symbol", "(II)I"⟩
abbrev cX4_busiest : ByteArray := prog_1_method_20_code
def yX4_busiest : MethodName := ⟨RX4, "busiest", "(II)I"⟩
abbrev cX4_needAccount : ByteArray := prog_1_method_21_code
def yX4_needAccount : MethodName := ⟨RX4, "needAccount", "(I)V"⟩
abbrev cX4_needSymbol : ByteArray := prog_1_method_22_code
def yX4_needSymbol : MethodName := ⟨RX4, "needSymbol", "(I)V"⟩
abbrev cX4_needSide : ByteArray := prog_1_method_23_code
def yX4_needSide : MethodName := ⟨RX4, "needSide", "(I)V"⟩
abbrev cX4_needWithin : ByteArray := prog_1_method_24_code
def yX4_needWithin : MethodName := ⟨RX4, "needWithin", "(III)V"⟩
abbrev cX4_needOrder : ByteArray := prog_1_method_25_code
def yX4_needOrder : MethodName := ⟨RX4, "needOrder", "(I)V"⟩
abbrev cX4_needOwnOrder : ByteArray := prog_1_method_26_code
def yX4_needOwnOrder : MethodName := ⟨RX4, "needOwnOrder", "(II)V"⟩
abbrev cX4_needThere : ByteArray := prog_1_method_27_code
def yX4_needThere : MethodName := ⟨RX4, "needThere", "(I)V"⟩
abbrev cX4_actByKind : ByteArray := prog_1_method_28_code
def yX4_actByKind : MethodName := ⟨RX4, "actByKind", "(I)V"⟩
abbrev cX4_wakeStop : ByteArray := prog_1_method_29_code
def yX4_wakeStop : MethodName := ⟨RX4, "wakeStop", "(I)I"⟩
abbrev cX4_meetsOther : ByteArray := prog_1_method_30_code
def yX4_meetsOther : MethodName := ⟨RX4, "meetsOther", "(I)Z"⟩
abbrev cX4_wouldTradeWholly : ByteArray := prog_1_method_31_code
def yX4_wouldTradeWholly : MethodName := ⟨RX4, "wouldTradeWholly", "(I)Z"⟩
abbrev cX4_tradeUntilStopped : ByteArray := prog_1_method_32_code
def yX4_tradeUntilStopped : MethodName := ⟨RX4, "tradeUntilStopped", "(I)Z"⟩
abbrev cX4_makeTrade : ByteArray := prog_1_method_33_code
def yX4_makeTrade : MethodName := ⟨RX4, "makeTrade", "(III)V"⟩
abbrev cX4_showLess : ByteArray := prog_1_method_34_code
def yX4_showLess : MethodName := ⟨RX4, "showLess", "(II)V"⟩
abbrev cX4_rest : ByteArray := prog_1_method_35_code
def yX4_rest : MethodName := ⟨RX4, "rest", "(I)V"⟩
abbrev cX4_takeAway : ByteArray := prog_1_method_36_code
def yX4_takeAway : MethodName := ⟨RX4, "takeAway", "(I)V"⟩
abbrev cX4_close : ByteArray := prog_1_method_37_code
def yX4_close : MethodName := ⟨RX4, "close", "(II)V"⟩
abbrev cX4_hold : ByteArray := prog_1_method_38_code
def yX4_hold : MethodName := ⟨RX4, "hold", "(II)V"⟩
def RX5 : String := "TradeHallModel"
def TX5 : u_T := fun k => match k with
  | 0 => ("TradeHallModel", "thrown", "I", false)
  | 1 => ("TradeHallModel", "time", "I", false)
  | 2 => ("TradeHallModel", "cash", "[J", true)
  | 3 => ("TradeHallModel", "held", "[J", true)
  | 4 => ("TradeHallModel", "shares", "[I", true)
  | 5 => ("TradeHallModel", "heldShares", "[I", true)
  | 6 => ("TradeHallModel", "bought", "[I", true)
  | 7 => ("TradeHallModel", "sold", "[I", true)
  | 8 => ("TradeHallModel", "had", "[Z", true)
  | 9 => ("TradeHallModel", "orders", "I", false)
  | 10 => ("TradeHallModel", "accounts", "[I", true)
  | 11 => ("TradeHallModel", "symbols", "[I", true)
  | 12 => ("TradeHallModel", "sides", "[I", true)
  | 13 => ("TradeHallModel", "kinds", "[I", true)
  | 14 => ("TradeHallModel", "prices", "[I", true)
  | 15 => ("TradeHallModel", "left", "[I", true)
  | 16 => ("TradeHallModel", "shown", "[I", true)
  | 17 => ("TradeHallModel", "extras", "[I", true)
  | 18 => ("TradeHallModel", "states", "[I", true)
  | 19 => ("TradeHallModel", "ends", "[I", true)
  | 20 => ("TradeHallModel", "done", "[I", true)
  | 21 => ("TradeHallModel", "turns", "[I", true)
  | 22 => ("TradeHallModel", "nextTurn", "I", false)
  | 23 => ("TradeHallModel", "tryLeft", "[I", true)
  | 24 => ("TradeHallModel", "tryShown", "[I", true)
  | 25 => ("TradeHallModel", "tryTurns", "[I", true)
  | 26 => ("TradeHallModel", "trades", "I", false)
  | 27 => ("TradeHallModel", "tradeCells", "[I", true)
  | 28 => ("TradeHallModel", "lasts", "[I", true)
  | 29 => ("TradeHallModel", "greatest", "[I", true)
  | 30 => ("TradeHallModel", "least", "[I", true)
  | _ => ("TradeHallModel", "volumes", "[I", true)
def tyX5 : Nat → FieldType := fun k => match k with
  | 0 => .int
  | 1 => .int
  | 2 => .array .long
  | 3 => .array .long
  | 4 => .array .int
  | 5 => .array .int
  | 6 => .array .int
  | 7 => .array .int
  | 8 => .array .boolean
  | 9 => .int
  | 10 => .array .int
  | 11 => .array .int
  | 12 => .array .int
  | 13 => .array .int
  | 14 => .array .int
  | 15 => .array .int
  | 16 => .array .int
  | 17 => .array .int
  | 18 => .array .int
  | 19 => .array .int
  | 20 => .array .int
  | 21 => .array .int
  | 22 => .int
  | 23 => .array .int
  | 24 => .array .int
  | 25 => .array .int
  | 26 => .int
  | 27 => .array .int
  | 28 => .array .int
  | 29 => .array .int
  | 30 => .array .int
  | _ => .array .int
abbrev wsX50 : List Cond := u_ws RX5 TX5 32
theorem nmX5 : ∀ a, a < 32 → ∀ b, b < 32 → a ≠ b → (TX5 a).2.1 ≠ (TX5 b).2.1 := by decide +kernel
theorem tyX5_ok : ∀ k, k < 32 → parseFieldDescriptor (TX5 k).2.2.1 = some (tyX5 k) := by decide +kernel
abbrev cX5_init : ByteArray := prog_7_method_1_code
def yX5_init : MethodName := ⟨RX5, "<init>", "()V"⟩
abbrev cX5_thrown : ByteArray := prog_7_method_2_code
def yX5_thrown : MethodName := ⟨RX5, "thrown", "()I"⟩
abbrev cX5_isIn : ByteArray := prog_7_method_3_code
def yX5_isIn : MethodName := ⟨RX5, "isIn", "(III)Z"⟩
abbrev cX5_isAccount : ByteArray := prog_7_method_4_code
def yX5_isAccount : MethodName := ⟨RX5, "isAccount", "(I)Z"⟩
abbrev cX5_isSymbol : ByteArray := prog_7_method_5_code
def yX5_isSymbol : MethodName := ⟨RX5, "isSymbol", "(I)Z"⟩
abbrev cX5_deposit : ByteArray := prog_7_method_6_code
def yX5_deposit : MethodName := ⟨RX5, "deposit", "(II)J"⟩
abbrev cX5_withdraw : ByteArray := prog_7_method_7_code
def yX5_withdraw : MethodName := ⟨RX5, "withdraw", "(II)J"⟩
abbrev cX5_cell : ByteArray := prog_7_method_8_code
def yX5_cell : MethodName := ⟨RX5, "cell", "(II)I"⟩
abbrev cX5_grant : ByteArray := prog_7_method_9_code
def yX5_grant : MethodName := ⟨RX5, "grant", "(III)I"⟩
abbrev cX5_isThere : ByteArray := prog_7_method_10_code
def yX5_isThere : MethodName := ⟨RX5, "isThere", "(I)Z"⟩
abbrev cX5_there : ByteArray := prog_7_method_11_code
def yX5_there : MethodName := ⟨RX5, "there", "()I"⟩
abbrev cX5_rests : ByteArray := prog_7_method_12_code
def yX5_rests : MethodName := ⟨RX5, "rests", "(III)Z"⟩
abbrev cX5_isBetter : ByteArray := prog_7_method_13_code
def yX5_isBetter : MethodName := ⟨RX5, "isBetter", "(III)Z"⟩
abbrev cX5_first : ByteArray := prog_7_method_14_code
def yX5_first : MethodName := ⟨RX5, "first", "(II)I"⟩
abbrev cX5_allows : ByteArray := prog_7_method_15_code
def yX5_allows : MethodName := ⟨RX5, "allows", "(II)Z"⟩
abbrev cX5_free : ByteArray := prog_7_method_16_code
def yX5_free : MethodName := ⟨RX5, "free", "(II)V"⟩
abbrev cX5_cancelled : ByteArray := prog_7_method_17_code
def yX5_cancelled : MethodName := ⟨RX5, "cancelled", "(I)V"⟩
abbrev cX5_exchange : ByteArray := prog_7_method_18_code
def yX5_exchange : MethodName := ⟨RX5, "exchange", "(III)V"⟩
abbrev cX5_match : ByteArray := prog_7_method_19_code
def yX5_match : MethodName := ⟨RX5, "match", "(I)Z"⟩
abbrev cX5_wouldTrade : ByteArray := prog_7_method_20_code
def yX5_wouldTrade : MethodName := ⟨RX5, "wouldTrade", "(I)Z"⟩
abbrev cX5_rest : ByteArray := prog_7_method_21_code
def yX5_rest : MethodName := ⟨RX5, "rest", "(I)V"⟩
abbrev cX5_finish : ByteArray := prog_7_method_22_code
def yX5_finish : MethodName := ⟨RX5, "finish", "(IZ)V"⟩
abbrev cX5_act : ByteArray := prog_7_method_23_code
def yX5_act : MethodName := ⟨RX5, "act", "(I)V"⟩
abbrev cX5_ready : ByteArray := prog_7_method_24_code
def yX5_ready : MethodName := ⟨RX5, "ready", "(I)I"⟩
abbrev cX5_order : ByteArray := prog_7_method_25_code
def yX5_order : MethodName := ⟨RX5, "order", "(IIIIIII)I"⟩
abbrev cX5_refusal : ByteArray := prog_7_method_26_code
def yX5_refusal : MethodName := ⟨RX5, "refusal", "(IIZ)I"⟩
abbrev cX5_cancel : ByteArray := prog_7_method_27_code
def yX5_cancel : MethodName := ⟨RX5, "cancel", "(II)I"⟩
abbrev cX5_reduce : ByteArray := prog_7_method_28_code
def yX5_reduce : MethodName := ⟨RX5, "reduce", "(III)I"⟩
abbrev cX5_until : ByteArray := prog_7_method_29_code
def yX5_until : MethodName := ⟨RX5, "until", "(III)V"⟩
abbrev cX5_pass : ByteArray := prog_7_method_30_code
def yX5_pass : MethodName := ⟨RX5, "pass", "(I)I"⟩
abbrev cX5_best : ByteArray := prog_7_method_31_code
def yX5_best : MethodName := ⟨RX5, "best", "(II)I"⟩
abbrev cX5_priceCount : ByteArray := prog_7_method_32_code
def yX5_priceCount : MethodName := ⟨RX5, "priceCount", "(II)I"⟩
abbrev cX5_depth : ByteArray := prog_7_method_33_code
def yX5_depth : MethodName := ⟨RX5, "depth", "(III)I"⟩
abbrev cX5_priceAt : ByteArray := prog_7_method_34_code
def yX5_priceAt : MethodName := ⟨RX5, "priceAt", "(III)I"⟩
abbrev cX5_level : ByteArray := prog_7_method_35_code
def yX5_level : MethodName := ⟨RX5, "level", "(IIII)I"⟩
abbrev cX5_about : ByteArray := prog_7_method_36_code
def yX5_about : MethodName := ⟨RX5, "about", "(II)I"⟩
abbrev cX5_ahead : ByteArray := prog_7_method_37_code
def yX5_ahead : MethodName := ⟨RX5, "ahead", "(I)I"⟩
abbrev cX5_cash : ByteArray := prog_7_method_38_code
def yX5_cash : MethodName := ⟨RX5, "cash", "(II)J"⟩
abbrev cX5_shares : ByteArray := prog_7_method_39_code
def yX5_shares : MethodName := ⟨RX5, "shares", "(III)I"⟩
abbrev cX5_count : ByteArray := prog_7_method_40_code
def yX5_count : MethodName := ⟨RX5, "count", "(I)I"⟩
abbrev cX5_trade : ByteArray := prog_7_method_41_code
def yX5_trade : MethodName := ⟨RX5, "trade", "(II)I"⟩
abbrev cX5_symbol : ByteArray := prog_7_method_42_code
def yX5_symbol : MethodName := ⟨RX5, "symbol", "(II)I"⟩
abbrev cX5_business : ByteArray := prog_7_method_43_code
def yX5_business : MethodName := ⟨RX5, "business", "(II)I"⟩
abbrev cX5_busiest : ByteArray := prog_7_method_44_code
def yX5_busiest : MethodName := ⟨RX5, "busiest", "(II)I"⟩
def RJx145de : String := "java/io/Serializable"
def TJx145de : u_T := fun k => match k with
  | _ => ("", "", "", false)
def tyJx145de : Nat → FieldType := fun k => match k with
  | _ => .int
abbrev wsJx145de0 : List Cond := u_ws RJx145de TJx145de 0
theorem nmJx145de : ∀ a, a < 0 → ∀ b, b < 0 → a ≠ b → (TJx145de a).2.1 ≠ (TJx145de b).2.1 := by decide +kernel
theorem tyJx145de_ok : ∀ k, k < 0 → parseFieldDescriptor (TJx145de k).2.2.1 = some (tyJx145de k) := by decide +kernel
def RJ9 : String := "java/lang/Math"
def TJ9 : u_T := fun k => match k with
  | _ => ("", "", "", false)
def tyJ9 : Nat → FieldType := fun k => match k with
  | _ => .int
abbrev wsJ90 : List Cond := u_ws RJ9 TJ9 0
theorem nmJ9 : ∀ a, a < 0 → ∀ b, b < 0 → a ≠ b → (TJ9 a).2.1 ≠ (TJ9 b).2.1 := by decide +kernel
theorem tyJ9_ok : ∀ k, k < 0 → parseFieldDescriptor (TJ9 k).2.2.1 = some (tyJ9 k) := by decide +kernel
abbrev cJ9_max_7cf53 : ByteArray := prog_13_method_65_code
def yJ9_max_7cf53 : MethodName := ⟨RJ9, "max", "(II)I"⟩
abbrev cJ9_min_7cf53 : ByteArray := prog_13_method_69_code
def yJ9_min_7cf53 : MethodName := ⟨RJ9, "min", "(II)I"⟩
def RJ0 : String := "java/lang/String"
def TJ0 : u_T := fun k => match k with
  | _ => ("", "", "", false)
def tyJ0 : Nat → FieldType := fun k => match k with
  | _ => .int
abbrev wsJ00 : List Cond := u_ws RJ0 TJ0 0
theorem nmJ0 : ∀ a, a < 0 → ∀ b, b < 0 → a ≠ b → (TJ0 a).2.1 ≠ (TJ0 b).2.1 := by decide +kernel
theorem tyJ0_ok : ∀ k, k < 0 → parseFieldDescriptor (TJ0 k).2.2.1 = some (tyJ0 k) := by decide +kernel
def RL : String := "TradeHallLaw"
abbrev cL_deposit : ByteArray := method_3_code
def yL_deposit : MethodName := ⟨RL, "deposit", "(LTradeHall;II[J)I"⟩
abbrev cL_withdraw : ByteArray := method_4_code
def yL_withdraw : MethodName := ⟨RL, "withdraw", "(LTradeHall;II[J)I"⟩
abbrev cL_grant : ByteArray := method_5_code
def yL_grant : MethodName := ⟨RL, "grant", "(LTradeHall;III[J)I"⟩
abbrev cL_order : ByteArray := method_6_code
def yL_order : MethodName := ⟨RL, "order", "(LTradeHall;IIIIIII[J)I"⟩
abbrev cL_cancel : ByteArray := method_7_code
def yL_cancel : MethodName := ⟨RL, "cancel", "(LTradeHall;II[J)I"⟩
abbrev cL_reduce : ByteArray := method_8_code
def yL_reduce : MethodName := ⟨RL, "reduce", "(LTradeHall;III[J)I"⟩
abbrev cL_until : ByteArray := method_9_code
def yL_until : MethodName := ⟨RL, "until", "(LTradeHall;III)I"⟩
abbrev cL_pass : ByteArray := method_10_code
def yL_pass : MethodName := ⟨RL, "pass", "(LTradeHall;I[J)I"⟩
abbrev cL_best : ByteArray := method_11_code
def yL_best : MethodName := ⟨RL, "best", "(LTradeHall;II[J)I"⟩
abbrev cL_depth : ByteArray := method_12_code
def yL_depth : MethodName := ⟨RL, "depth", "(LTradeHall;III[J)I"⟩
abbrev cL_level : ByteArray := method_13_code
def yL_level : MethodName := ⟨RL, "level", "(LTradeHall;IIII[J)I"⟩
abbrev cL_about : ByteArray := method_14_code
def yL_about : MethodName := ⟨RL, "about", "(LTradeHall;II[J)I"⟩
abbrev cL_ahead : ByteArray := method_15_code
def yL_ahead : MethodName := ⟨RL, "ahead", "(LTradeHall;I[J)I"⟩
abbrev cL_cash : ByteArray := method_16_code
def yL_cash : MethodName := ⟨RL, "cash", "(LTradeHall;II[J)I"⟩
abbrev cL_shares : ByteArray := method_17_code
def yL_shares : MethodName := ⟨RL, "shares", "(LTradeHall;III[J)I"⟩
abbrev cL_count : ByteArray := method_18_code
def yL_count : MethodName := ⟨RL, "count", "(LTradeHall;I[J)I"⟩
abbrev cL_trade : ByteArray := method_19_code
def yL_trade : MethodName := ⟨RL, "trade", "(LTradeHall;II[J)I"⟩
abbrev cL_symbol : ByteArray := method_20_code
def yL_symbol : MethodName := ⟨RL, "symbol", "(LTradeHall;II[J)I"⟩
abbrev cL_busiest : ByteArray := method_21_code
def yL_busiest : MethodName := ⟨RL, "busiest", "(LTradeHall;II[J)I"⟩
abbrev cL_law : ByteArray := code
def yL_law : MethodName := ⟨RL, "law", "([I)Z"⟩
def wsX0_init : List Cond := .code yX0_init cX0_init 2 none :: ([.methodLink RX0 3 objectInit, .instanceMethod objectInit, .code objectInit ⟨#[0xb1]⟩ 1 none, .arrayClass .int, .fieldLink RX0 9 "TradeHall$Books" "rows" "[I", .fieldLink RX0 15 "TradeHall$Books" "sizes" "[I", .fieldLink RX0 18 "TradeHall$Books" "orders" "LTradeHall$Orders;"] ++ wsX00)
def wsX0_bookOf : List Cond := .code yX0_bookOf cX0_bookOf 2 (some .int) :: ([])
def wsX0_facing : List Cond := .code yX0_facing cX0_facing 2 (some .int) :: ([.fieldLink RX0 18 "TradeHall$Books" "orders" "LTradeHall$Orders;", .fieldLink RX0 22 "TradeHall$Orders" "symbol" "[I", .fieldLink RX0 27 "TradeHall$Orders" "side" "[I", .methodLink RX0 30 yX0_bookOf, .static yX0_bookOf, .initialized RX0, .code yX0_bookOf cX0_bookOf 2 (some .int)] ++ wsX00 ++ wsX20)
def wsX0_orderAt : List Cond := .code yX0_orderAt cX0_orderAt 3 (some .int) :: ([.fieldLink RX0 15 "TradeHall$Books" "sizes" "[I", .fieldLink RX0 9 "TradeHall$Books" "rows" "[I"] ++ wsX00)
def wsX0_putLast : List Cond := .code yX0_putLast cX0_putLast 7 none :: ([.fieldLink RX0 18 "TradeHall$Books" "orders" "LTradeHall$Orders;", .fieldLink RX0 22 "TradeHall$Orders" "symbol" "[I", .fieldLink RX0 27 "TradeHall$Orders" "side" "[I", .fieldLink RX0 15 "TradeHall$Books" "sizes" "[I", .fieldLink RX0 34 "TradeHall$Orders" "price" "[I", .fieldLink RX0 9 "TradeHall$Books" "rows" "[I", .methodLink RX0 30 yX0_bookOf, .static yX0_bookOf, .initialized RX0, .code yX0_bookOf cX0_bookOf 2 (some .int)] ++ wsX00 ++ wsX20)
def wsX0_drop : List Cond := .code yX0_drop cX0_drop 7 none :: ([.fieldLink RX0 18 "TradeHall$Books" "orders" "LTradeHall$Orders;", .fieldLink RX0 22 "TradeHall$Orders" "symbol" "[I", .fieldLink RX0 27 "TradeHall$Orders" "side" "[I", .fieldLink RX0 15 "TradeHall$Books" "sizes" "[I", .fieldLink RX0 9 "TradeHall$Books" "rows" "[I", .methodLink RX0 30 yX0_bookOf, .static yX0_bookOf, .initialized RX0, .code yX0_bookOf cX0_bookOf 2 (some .int)] ++ wsX00 ++ wsX20)
def wsX0_countPrices : List Cond := .code yX0_countPrices cX0_countPrices 6 (some .int) :: ([.fieldLink RX0 15 "TradeHall$Books" "sizes" "[I", .fieldLink RX0 18 "TradeHall$Books" "orders" "LTradeHall$Orders;", .fieldLink RX0 34 "TradeHall$Orders" "price" "[I", .fieldLink RX0 9 "TradeHall$Books" "rows" "[I"] ++ wsX00 ++ wsX20)
def wsX0_priceOfLevel : List Cond := .code yX0_priceOfLevel cX0_priceOfLevel 7 (some .int) :: ([.fieldLink RX0 15 "TradeHall$Books" "sizes" "[I", .fieldLink RX0 18 "TradeHall$Books" "orders" "LTradeHall$Orders;", .fieldLink RX0 34 "TradeHall$Orders" "price" "[I", .fieldLink RX0 9 "TradeHall$Books" "rows" "[I"] ++ wsX00 ++ wsX20)
def wsX0_countOrders : List Cond := .code yX0_countOrders cX0_countOrders 5 (some .int) :: ([.fieldLink RX0 15 "TradeHall$Books" "sizes" "[I", .fieldLink RX0 18 "TradeHall$Books" "orders" "LTradeHall$Orders;", .fieldLink RX0 34 "TradeHall$Orders" "price" "[I", .fieldLink RX0 9 "TradeHall$Books" "rows" "[I"] ++ wsX00 ++ wsX20)
def wsX0_sumLeft : List Cond := .code yX0_sumLeft cX0_sumLeft 6 (some .int) :: ([.fieldLink RX0 15 "TradeHall$Books" "sizes" "[I", .fieldLink RX0 9 "TradeHall$Books" "rows" "[I", .fieldLink RX0 18 "TradeHall$Books" "orders" "LTradeHall$Orders;", .fieldLink RX0 34 "TradeHall$Orders" "price" "[I", .fieldLink RX0 37 "TradeHall$Orders" "left" "[I"] ++ wsX00 ++ wsX20)
def wsX0_sumShown : List Cond := .code yX0_sumShown cX0_sumShown 7 (some .int) :: ([.fieldLink RX0 15 "TradeHall$Books" "sizes" "[I", .fieldLink RX0 9 "TradeHall$Books" "rows" "[I", .fieldLink RX0 18 "TradeHall$Books" "orders" "LTradeHall$Orders;", .fieldLink RX0 34 "TradeHall$Orders" "price" "[I", .fieldLink RX0 40 "TradeHall$Orders" "shown" "[I"] ++ wsX00 ++ wsX20)
def wsX1_init : List Cond := .code yX1_init cX1_init 1 none :: ([.methodLink RX1 3 objectInit, .instanceMethod objectInit, .code objectInit ⟨#[0xb1]⟩ 1 none, .arrayClass .long, .fieldLink RX1 9 "TradeHall$Ledger" "cashOf" "[J", .fieldLink RX1 15 "TradeHall$Ledger" "cashHeld" "[J", .arrayClass .int, .fieldLink RX1 18 "TradeHall$Ledger" "sharesOf" "[I", .fieldLink RX1 22 "TradeHall$Ledger" "sharesHeld" "[I", .fieldLink RX1 25 "TradeHall$Ledger" "bought" "[I", .fieldLink RX1 28 "TradeHall$Ledger" "sold" "[I", .arrayClass .boolean, .fieldLink RX1 31 "TradeHall$Ledger" "known" "[Z", .fieldLink RX1 35 "TradeHall$Ledger" "knownCount" "I"] ++ wsX10)
def wsX1_placeOf : List Cond := .code yX1_placeOf cX1_placeOf 2 (some .int) :: ([])
def wsX1_know : List Cond := .code yX1_know cX1_know 2 none :: ([.fieldLink RX1 31 "TradeHall$Ledger" "known" "[Z", .fieldLink RX1 35 "TradeHall$Ledger" "knownCount" "I"] ++ wsX10)
def wsX1_freeCash : List Cond := .code yX1_freeCash cX1_freeCash 2 (some .long) :: ([.fieldLink RX1 9 "TradeHall$Ledger" "cashOf" "[J", .fieldLink RX1 15 "TradeHall$Ledger" "cashHeld" "[J"] ++ wsX10)
def wsX1_canHold : List Cond := .code yX1_canHold cX1_canHold 7 (some .boolean) :: ([.fieldLink RX1 18 "TradeHall$Ledger" "sharesOf" "[I", .fieldLink RX1 22 "TradeHall$Ledger" "sharesHeld" "[I", .methodLink RX1 39 yX1_freeCash, .instanceMethod yX1_freeCash, .selects RX1 yX1_freeCash yX1_freeCash, .initialized RX1, .code yX1_freeCash cX1_freeCash 2 (some .long), .fieldLink RX1 9 "TradeHall$Ledger" "cashOf" "[J", .fieldLink RX1 15 "TradeHall$Ledger" "cashHeld" "[J", .methodLink RX1 43 yX1_placeOf, .static yX1_placeOf, .code yX1_placeOf cX1_placeOf 2 (some .int)] ++ wsX10)
def wsX1_handOver : List Cond := .code yX1_handOver cX1_handOver 10 none :: ([.fieldLink RX1 9 "TradeHall$Ledger" "cashOf" "[J", .fieldLink RX1 18 "TradeHall$Ledger" "sharesOf" "[I", .fieldLink RX1 25 "TradeHall$Ledger" "bought" "[I", .fieldLink RX1 28 "TradeHall$Ledger" "sold" "[I", .methodLink RX1 43 yX1_placeOf, .static yX1_placeOf, .initialized RX1, .code yX1_placeOf cX1_placeOf 2 (some .int)] ++ wsX10)
def wsX1_turnover : List Cond := .code yX1_turnover cX1_turnover 4 (some .int) :: ([.fieldLink RX1 25 "TradeHall$Ledger" "bought" "[I", .fieldLink RX1 28 "TradeHall$Ledger" "sold" "[I", .methodLink RX1 43 yX1_placeOf, .static yX1_placeOf, .initialized RX1, .code yX1_placeOf cX1_placeOf 2 (some .int)] ++ wsX10)
def wsX1_countBusier : List Cond := .code yX1_countBusier cX1_countBusier 7 (some .int) :: ([.methodLink RX1 47 yX1_turnover, .instanceMethod yX1_turnover, .selects RX1 yX1_turnover yX1_turnover, .initialized RX1, .code yX1_turnover cX1_turnover 4 (some .int), .fieldLink RX1 25 "TradeHall$Ledger" "bought" "[I", .fieldLink RX1 28 "TradeHall$Ledger" "sold" "[I", .methodLink RX1 43 yX1_placeOf, .static yX1_placeOf, .code yX1_placeOf cX1_placeOf 2 (some .int)] ++ wsX10)
def wsX2_init : List Cond := .code yX2_init cX2_init 1 none :: ([.methodLink RX2 3 objectInit, .instanceMethod objectInit, .code objectInit ⟨#[0xb1]⟩ 1 none, .arrayClass .int, .fieldLink RX2 9 "TradeHall$Orders" "account" "[I", .fieldLink RX2 15 "TradeHall$Orders" "symbol" "[I", .fieldLink RX2 18 "TradeHall$Orders" "side" "[I", .fieldLink RX2 21 "TradeHall$Orders" "kind" "[I", .fieldLink RX2 24 "TradeHall$Orders" "price" "[I", .fieldLink RX2 27 "TradeHall$Orders" "extra" "[I", .fieldLink RX2 30 "TradeHall$Orders" "left" "[I", .fieldLink RX2 33 "TradeHall$Orders" "shown" "[I", .fieldLink RX2 36 "TradeHall$Orders" "state" "[I", .fieldLink RX2 39 "TradeHall$Orders" "ends" "[I", .fieldLink RX2 42 "TradeHall$Orders" "traded" "[I", .fieldLink RX2 45 "TradeHall$Orders" "taken" "I", .fieldLink RX2 49 "TradeHall$Orders" "there" "I"] ++ wsX20)
def wsX2_take : List Cond := .code yX2_take cX2_take 9 (some .int) :: ([.fieldLink RX2 45 "TradeHall$Orders" "taken" "I", .fieldLink RX2 9 "TradeHall$Orders" "account" "[I", .fieldLink RX2 15 "TradeHall$Orders" "symbol" "[I", .fieldLink RX2 18 "TradeHall$Orders" "side" "[I", .fieldLink RX2 21 "TradeHall$Orders" "kind" "[I", .fieldLink RX2 24 "TradeHall$Orders" "price" "[I", .fieldLink RX2 27 "TradeHall$Orders" "extra" "[I", .fieldLink RX2 30 "TradeHall$Orders" "left" "[I", .fieldLink RX2 36 "TradeHall$Orders" "state" "[I", .fieldLink RX2 49 "TradeHall$Orders" "there" "I"] ++ wsX20)
def wsX2_isThere : List Cond := .code yX2_isThere cX2_isThere 2 (some .boolean) :: ([.fieldLink RX2 36 "TradeHall$Orders" "state" "[I"] ++ wsX20)
def wsX2_isWokenBy : List Cond := .code yX2_isWokenBy cX2_isWokenBy 3 (some .boolean) :: ([.fieldLink RX2 36 "TradeHall$Orders" "state" "[I", .fieldLink RX2 18 "TradeHall$Orders" "side" "[I", .fieldLink RX2 27 "TradeHall$Orders" "extra" "[I"] ++ wsX20)
def wsX2_pricesAllow : List Cond := .code yX2_pricesAllow cX2_pricesAllow 3 (some .boolean) :: ([.fieldLink RX2 18 "TradeHall$Orders" "side" "[I", .fieldLink RX2 24 "TradeHall$Orders" "price" "[I"] ++ wsX20)
def wsX2_fill : List Cond := .code yX2_fill cX2_fill 3 none :: ([.fieldLink RX2 30 "TradeHall$Orders" "left" "[I", .fieldLink RX2 42 "TradeHall$Orders" "traded" "[I"] ++ wsX20)
def wsX3_init : List Cond := .code yX3_init cX3_init 1 none :: ([.methodLink RX3 3 objectInit, .instanceMethod objectInit, .code objectInit ⟨#[0xb1]⟩ 1 none, .arrayClass .int, .fieldLink RX3 9 "TradeHall$Tape" "came" "[I", .fieldLink RX3 15 "TradeHall$Tape" "rested" "[I", .fieldLink RX3 18 "TradeHall$Tape" "price" "[I", .fieldLink RX3 21 "TradeHall$Tape" "amount" "[I", .fieldLink RX3 24 "TradeHall$Tape" "last" "[I", .fieldLink RX3 27 "TradeHall$Tape" "greatest" "[I", .fieldLink RX3 30 "TradeHall$Tape" "least" "[I", .fieldLink RX3 33 "TradeHall$Tape" "volume" "[I", .fieldLink RX3 36 "TradeHall$Tape" "trades" "I"] ++ wsX30)
def wsX3_note : List Cond := .code yX3_note cX3_note 6 none :: ([.fieldLink RX3 36 "TradeHall$Tape" "trades" "I", .fieldLink RX3 9 "TradeHall$Tape" "came" "[I", .fieldLink RX3 15 "TradeHall$Tape" "rested" "[I", .fieldLink RX3 18 "TradeHall$Tape" "price" "[I", .fieldLink RX3 21 "TradeHall$Tape" "amount" "[I", .fieldLink RX3 30 "TradeHall$Tape" "least" "[I", .fieldLink RX3 24 "TradeHall$Tape" "last" "[I", .methodLink RX3 40 Lib.Math.min.name, .static Lib.Math.min.name, .initialized "java/lang/Math", .code Lib.Math.min.name Lib.Math.min.code 2 (some .int), .fieldLink RX3 27 "TradeHall$Tape" "greatest" "[I", .methodLink RX3 46 Lib.Math.max.name, .static Lib.Math.max.name, .code Lib.Math.max.name Lib.Math.max.code 2 (some .int), .fieldLink RX3 33 "TradeHall$Tape" "volume" "[I"] ++ wsX30)
def wsX4_init_r1 : List Cond := [Cond.methodLink RX4 1 objectInit, Cond.instanceMethod objectInit, Cond.code objectInit ⟨#[0xb1]⟩ 1 none, Cond.classLink RX4 7 RX1, Cond.instantiable RX1 8, Cond.initialized RX1, Cond.fieldLink RX4 10 "TradeHall" "ledger" "LTradeHall$Ledger;", Cond.classLink RX4 16 RX2, Cond.instantiable RX2 13, Cond.initialized RX2, Cond.fieldLink RX4 19 "TradeHall" "orders" "LTradeHall$Orders;", Cond.classLink RX4 23 RX0, Cond.instantiable RX0 3, Cond.initialized RX0, Cond.fieldLink RX4 28 "TradeHall" "books" "LTradeHall$Books;", Cond.classLink RX4 32 RX3, Cond.instantiable RX3 9, Cond.initialized RX3, Cond.fieldLink RX4 35 "TradeHall" "tape" "LTradeHall$Tape;", Cond.fieldLink RX4 39 "TradeHall" "now" "I", Cond.instanceMethod yX1_init, Cond.code yX1_init cX1_init 1 none, Cond.methodLink RX1 3 objectInit, Cond.arrayClass .long]
def wsX4_init_r2 : List Cond := [Cond.fieldLink RX1 9 "TradeHall$Ledger" "cashOf" "[J", Cond.fieldLink RX1 15 "TradeHall$Ledger" "cashHeld" "[J", Cond.arrayClass .int, Cond.fieldLink RX1 18 "TradeHall$Ledger" "sharesOf" "[I", Cond.fieldLink RX1 22 "TradeHall$Ledger" "sharesHeld" "[I", Cond.fieldLink RX1 25 "TradeHall$Ledger" "bought" "[I", Cond.fieldLink RX1 28 "TradeHall$Ledger" "sold" "[I", Cond.arrayClass .boolean, Cond.fieldLink RX1 31 "TradeHall$Ledger" "known" "[Z", Cond.fieldLink RX1 35 "TradeHall$Ledger" "knownCount" "I", Cond.instanceMethod yX2_init, Cond.code yX2_init cX2_init 1 none, Cond.methodLink RX2 3 objectInit, Cond.fieldLink RX2 9 "TradeHall$Orders" "account" "[I", Cond.fieldLink RX2 15 "TradeHall$Orders" "symbol" "[I", Cond.fieldLink RX2 18 "TradeHall$Orders" "side" "[I", Cond.fieldLink RX2 21 "TradeHall$Orders" "kind" "[I", Cond.fieldLink RX2 24 "TradeHall$Orders" "price" "[I", Cond.fieldLink RX2 27 "TradeHall$Orders" "extra" "[I", Cond.fieldLink RX2 30 "TradeHall$Orders" "left" "[I", Cond.fieldLink RX2 33 "TradeHall$Orders" "shown" "[I", Cond.fieldLink RX2 36 "TradeHall$Orders" "state" "[I", Cond.fieldLink RX2 39 "TradeHall$Orders" "ends" "[I", Cond.fieldLink RX2 42 "TradeHall$Orders" "traded" "[I"]
def wsX4_init_r3 : List Cond := [Cond.fieldLink RX2 45 "TradeHall$Orders" "taken" "I", Cond.fieldLink RX2 49 "TradeHall$Orders" "there" "I", Cond.methodLink RX4 25 yX0_init, Cond.instanceMethod yX0_init, Cond.code yX0_init cX0_init 2 none, Cond.methodLink RX0 3 objectInit, Cond.fieldLink RX0 9 "TradeHall$Books" "rows" "[I", Cond.fieldLink RX0 15 "TradeHall$Books" "sizes" "[I", Cond.fieldLink RX0 18 "TradeHall$Books" "orders" "LTradeHall$Orders;", Cond.instanceMethod yX3_init, Cond.code yX3_init cX3_init 1 none, Cond.methodLink RX3 3 objectInit, Cond.fieldLink RX3 9 "TradeHall$Tape" "came" "[I", Cond.fieldLink RX3 15 "TradeHall$Tape" "rested" "[I", Cond.fieldLink RX3 18 "TradeHall$Tape" "price" "[I", Cond.fieldLink RX3 21 "TradeHall$Tape" "amount" "[I", Cond.fieldLink RX3 24 "TradeHall$Tape" "last" "[I", Cond.fieldLink RX3 27 "TradeHall$Tape" "greatest" "[I", Cond.fieldLink RX3 30 "TradeHall$Tape" "least" "[I", Cond.fieldLink RX3 33 "TradeHall$Tape" "volume" "[I", Cond.fieldLink RX3 36 "TradeHall$Tape" "trades" "I"]
def wsX4_init : List Cond := .code yX4_init cX4_init 1 none :: ((wsX4_init_r1 ++ (wsX4_init_r2 ++ wsX4_init_r3)) ++ wsX10 ++ wsX40 ++ wsX20 ++ wsX00 ++ wsX30)
def wsX4_needAccount : List Cond := .code yX4_needAccount cX4_needAccount 1 none :: ([.classLink RX4 179 "java/lang/IndexOutOfBoundsException", .initialized "java/lang/IndexOutOfBoundsException"] ++ (vx_atS RX4 183 "java/lang/IndexOutOfBoundsException" ["java/lang/RuntimeException", "java/lang/Exception"]).filter goodWord)
def wsX4_needWithin : List Cond := .code yX4_needWithin cX4_needWithin 3 none :: ([.classLink RX4 132 "java/lang/IllegalArgumentException", .initialized "java/lang/IllegalArgumentException"] ++ (vx_atS RX4 136 "java/lang/IllegalArgumentException" ["java/lang/RuntimeException", "java/lang/Exception"]).filter goodWord)
def wsX4_deposit : List Cond := .code yX4_deposit cX4_deposit 3 (some .long) :: ([.classLink RX4 58 "java/lang/IllegalStateException", .initialized "java/lang/IllegalStateException", .constant RX4 47 (1000000000), .fieldLink RX4 10 "TradeHall" "ledger" "LTradeHall$Ledger;", .fieldLink RX4 52 "TradeHall$Ledger" "cashOf" "[J", .constantLong RX4 56 (1000000000000000), .methodLink RX4 43 yX4_needAccount, .static yX4_needAccount, .initialized RX4, .code yX4_needAccount cX4_needAccount 1 none, .classLink RX4 179 "java/lang/IndexOutOfBoundsException", .initialized "java/lang/IndexOutOfBoundsException", .methodLink RX4 48 yX4_needWithin, .static yX4_needWithin, .code yX4_needWithin cX4_needWithin 3 none, .classLink RX4 132 "java/lang/IllegalArgumentException", .initialized "java/lang/IllegalArgumentException", .methodLink RX4 65 yX1_know, .instanceMethod yX1_know, .selects RX1 yX1_know yX1_know, .initialized RX1, .code yX1_know cX1_know 2 none, .fieldLink RX1 31 "TradeHall$Ledger" "known" "[Z", .fieldLink RX1 35 "TradeHall$Ledger" "knownCount" "I"] ++ wsX40 ++ wsX10 ++ (vx_atS RX4 62 "java/lang/IllegalStateException" ["java/lang/RuntimeException", "java/lang/Exception"]).filter goodWord ++ (vx_atS RX4 183 "java/lang/IndexOutOfBoundsException" ["java/lang/RuntimeException", "java/lang/Exception"]).filter goodWord ++ (vx_atS RX4 136 "java/lang/IllegalArgumentException" ["java/lang/RuntimeException", "java/lang/Exception"]).filter goodWord)
def wsX4_withdraw : List Cond := .code yX4_withdraw cX4_withdraw 3 (some .long) :: ([.classLink RX4 58 "java/lang/IllegalStateException", .initialized "java/lang/IllegalStateException", .constant RX4 47 (1000000000), .fieldLink RX4 10 "TradeHall" "ledger" "LTradeHall$Ledger;", .fieldLink RX4 52 "TradeHall$Ledger" "cashOf" "[J", .methodLink RX4 43 yX4_needAccount, .static yX4_needAccount, .initialized RX4, .code yX4_needAccount cX4_needAccount 1 none, .classLink RX4 179 "java/lang/IndexOutOfBoundsException", .initialized "java/lang/IndexOutOfBoundsException", .methodLink RX4 48 yX4_needWithin, .static yX4_needWithin, .code yX4_needWithin cX4_needWithin 3 none, .classLink RX4 132 "java/lang/IllegalArgumentException", .initialized "java/lang/IllegalArgumentException", .methodLink RX4 68 yX1_freeCash, .instanceMethod yX1_freeCash, .selects RX1 yX1_freeCash yX1_freeCash, .initialized RX1, .code yX1_freeCash cX1_freeCash 2 (some .long), .fieldLink RX1 9 "TradeHall$Ledger" "cashOf" "[J", .fieldLink RX1 15 "TradeHall$Ledger" "cashHeld" "[J"] ++ wsX40 ++ wsX10 ++ (vx_atS RX4 62 "java/lang/IllegalStateException" ["java/lang/RuntimeException", "java/lang/Exception"]).filter goodWord ++ (vx_atS RX4 183 "java/lang/IndexOutOfBoundsException" ["java/lang/RuntimeException", "java/lang/Exception"]).filter goodWord ++ (vx_atS RX4 136 "java/lang/IllegalArgumentException" ["java/lang/RuntimeException", "java/lang/Exception"]).filter goodWord)
def wsX4_needSymbol : List Cond := .code yX4_needSymbol cX4_needSymbol 1 none :: ([.classLink RX4 179 "java/lang/IndexOutOfBoundsException", .initialized "java/lang/IndexOutOfBoundsException"] ++ (vx_atS RX4 183 "java/lang/IndexOutOfBoundsException" ["java/lang/RuntimeException", "java/lang/Exception"]).filter goodWord)
def wsX4_grant_r1 : List Cond := [Cond.classLink RX4 58 "java/lang/IllegalStateException", Cond.initialized "java/lang/IllegalStateException", Cond.constant RX4 77 (1000000), Cond.fieldLink RX4 10 "TradeHall" "ledger" "LTradeHall$Ledger;", Cond.fieldLink RX4 82 "TradeHall$Ledger" "sharesOf" "[I", Cond.constant RX4 47 (1000000000), Cond.methodLink RX4 43 yX4_needAccount, Cond.static yX4_needAccount, Cond.initialized RX4, Cond.code yX4_needAccount cX4_needAccount 1 none, Cond.classLink RX4 179 "java/lang/IndexOutOfBoundsException", Cond.initialized "java/lang/IndexOutOfBoundsException", Cond.methodLink RX4 74 yX4_needSymbol, Cond.static yX4_needSymbol, Cond.code yX4_needSymbol cX4_needSymbol 1 none, Cond.methodLink RX4 48 yX4_needWithin, Cond.static yX4_needWithin, Cond.code yX4_needWithin cX4_needWithin 3 none, Cond.classLink RX4 132 "java/lang/IllegalArgumentException", Cond.initialized "java/lang/IllegalArgumentException", Cond.methodLink RX4 78 yX1_placeOf, Cond.static yX1_placeOf, Cond.initialized RX1, Cond.code yX1_placeOf cX1_placeOf 2 (some .int)]
def wsX4_grant_r2 : List Cond := [Cond.methodLink RX4 65 yX1_know, Cond.instanceMethod yX1_know, Cond.selects RX1 yX1_know yX1_know, Cond.code yX1_know cX1_know 2 none, Cond.fieldLink RX1 31 "TradeHall$Ledger" "known" "[Z", Cond.fieldLink RX1 35 "TradeHall$Ledger" "knownCount" "I"]
def wsX4_grant : List Cond := .code yX4_grant cX4_grant 5 (some .int) :: ((wsX4_grant_r1 ++ wsX4_grant_r2) ++ wsX40 ++ wsX10 ++ (vx_atS RX4 62 "java/lang/IllegalStateException" ["java/lang/RuntimeException", "java/lang/Exception"]).filter goodWord ++ (vx_atS RX4 183 "java/lang/IndexOutOfBoundsException" ["java/lang/RuntimeException", "java/lang/Exception"]).filter goodWord ++ (vx_atS RX4 136 "java/lang/IllegalArgumentException" ["java/lang/RuntimeException", "java/lang/Exception"]).filter goodWord)
def wsX4_needSide : List Cond := .code yX4_needSide cX4_needSide 1 none :: ([.classLink RX4 132 "java/lang/IllegalArgumentException", .initialized "java/lang/IllegalArgumentException"] ++ (vx_atS RX4 136 "java/lang/IllegalArgumentException" ["java/lang/RuntimeException", "java/lang/Exception"]).filter goodWord)
def wsX4_hold : List Cond := .code yX4_hold cX4_hold 4 none :: ([.fieldLink RX4 19 "TradeHall" "orders" "LTradeHall$Orders;", .fieldLink RX4 198 "TradeHall$Orders" "account" "[I", .fieldLink RX4 214 "TradeHall$Orders" "side" "[I", .fieldLink RX4 10 "TradeHall" "ledger" "LTradeHall$Ledger;", .fieldLink RX4 217 "TradeHall$Ledger" "cashHeld" "[J", .fieldLink RX4 169 "TradeHall$Orders" "price" "[I", .fieldLink RX4 222 "TradeHall$Ledger" "sharesHeld" "[I", .fieldLink RX4 211 "TradeHall$Orders" "symbol" "[I", .methodLink RX4 78 yX1_placeOf, .static yX1_placeOf, .initialized RX1, .code yX1_placeOf cX1_placeOf 2 (some .int)] ++ wsX40 ++ wsX20 ++ wsX10)
def wsX4_meetsOther_r1 : List Cond := [Cond.fieldLink RX4 28 "TradeHall" "books" "LTradeHall$Books;", Cond.fieldLink RX4 19 "TradeHall" "orders" "LTradeHall$Orders;", Cond.methodLink RX4 313 yX0_facing, Cond.instanceMethod yX0_facing, Cond.selects RX0 yX0_facing yX0_facing, Cond.initialized RX0, Cond.code yX0_facing cX0_facing 2 (some .int), Cond.fieldLink RX0 18 "TradeHall$Books" "orders" "LTradeHall$Orders;", Cond.fieldLink RX0 22 "TradeHall$Orders" "symbol" "[I", Cond.fieldLink RX0 27 "TradeHall$Orders" "side" "[I", Cond.methodLink RX0 30 yX0_bookOf, Cond.static yX0_bookOf, Cond.code yX0_bookOf cX0_bookOf 2 (some .int), Cond.methodLink RX4 161 yX0_orderAt, Cond.instanceMethod yX0_orderAt, Cond.selects RX0 yX0_orderAt yX0_orderAt, Cond.code yX0_orderAt cX0_orderAt 3 (some .int), Cond.fieldLink RX0 15 "TradeHall$Books" "sizes" "[I", Cond.fieldLink RX0 9 "TradeHall$Books" "rows" "[I", Cond.methodLink RX4 316 yX2_pricesAllow, Cond.instanceMethod yX2_pricesAllow, Cond.selects RX2 yX2_pricesAllow yX2_pricesAllow, Cond.initialized RX2, Cond.code yX2_pricesAllow cX2_pricesAllow 3 (some .boolean)]
def wsX4_meetsOther_r2 : List Cond := [Cond.fieldLink RX2 18 "TradeHall$Orders" "side" "[I", Cond.fieldLink RX2 24 "TradeHall$Orders" "price" "[I"]
def wsX4_meetsOther : List Cond := .code yX4_meetsOther cX4_meetsOther 3 (some .boolean) :: ((wsX4_meetsOther_r1 ++ wsX4_meetsOther_r2) ++ wsX40 ++ wsX00 ++ wsX20)
def wsX4_close : List Cond := .code yX4_close cX4_close 3 none :: ([.fieldLink RX4 19 "TradeHall" "orders" "LTradeHall$Orders;", .fieldLink RX4 126 "TradeHall$Orders" "left" "[I", .fieldLink RX4 139 "TradeHall$Orders" "shown" "[I", .fieldLink RX4 201 "TradeHall$Orders" "state" "[I", .fieldLink RX4 97 "TradeHall$Orders" "there" "I", .methodLink RX4 109 yX4_hold, .instanceMethod yX4_hold, .selects RX4 yX4_hold yX4_hold, .initialized RX4, .code yX4_hold cX4_hold 4 none, .fieldLink RX4 198 "TradeHall$Orders" "account" "[I", .fieldLink RX4 214 "TradeHall$Orders" "side" "[I", .fieldLink RX4 10 "TradeHall" "ledger" "LTradeHall$Ledger;", .fieldLink RX4 217 "TradeHall$Ledger" "cashHeld" "[J", .fieldLink RX4 169 "TradeHall$Orders" "price" "[I", .fieldLink RX4 222 "TradeHall$Ledger" "sharesHeld" "[I", .fieldLink RX4 211 "TradeHall$Orders" "symbol" "[I", .methodLink RX4 78 yX1_placeOf, .static yX1_placeOf, .initialized RX1, .code yX1_placeOf cX1_placeOf 2 (some .int)] ++ wsX40 ++ wsX20 ++ wsX10)
def wsX4_rest_r1 : List Cond := [Cond.fieldLink RX4 19 "TradeHall" "orders" "LTradeHall$Orders;", Cond.fieldLink RX4 126 "TradeHall$Orders" "left" "[I", Cond.fieldLink RX4 139 "TradeHall$Orders" "shown" "[I", Cond.fieldLink RX4 291 "TradeHall$Orders" "kind" "[I", Cond.fieldLink RX4 341 "TradeHall$Orders" "extra" "[I", Cond.methodLink RX4 142 Lib.Math.min.name, Cond.static Lib.Math.min.name, Cond.initialized "java/lang/Math", Cond.code Lib.Math.min.name Lib.Math.min.code 2 (some .int), Cond.fieldLink RX4 201 "TradeHall$Orders" "state" "[I", Cond.fieldLink RX4 28 "TradeHall" "books" "LTradeHall$Books;", Cond.methodLink RX4 344 yX0_putLast, Cond.instanceMethod yX0_putLast, Cond.selects RX0 yX0_putLast yX0_putLast, Cond.initialized RX0, Cond.code yX0_putLast cX0_putLast 7 none, Cond.fieldLink RX0 18 "TradeHall$Books" "orders" "LTradeHall$Orders;", Cond.fieldLink RX0 22 "TradeHall$Orders" "symbol" "[I", Cond.fieldLink RX0 27 "TradeHall$Orders" "side" "[I", Cond.fieldLink RX0 15 "TradeHall$Books" "sizes" "[I", Cond.fieldLink RX0 34 "TradeHall$Orders" "price" "[I", Cond.fieldLink RX0 9 "TradeHall$Books" "rows" "[I", Cond.methodLink RX0 30 yX0_bookOf, Cond.static yX0_bookOf]
def wsX4_rest_r2 : List Cond := [Cond.code yX0_bookOf cX0_bookOf 2 (some .int)]
def wsX4_rest : List Cond := .code yX4_rest cX4_rest 3 none :: ((wsX4_rest_r1 ++ wsX4_rest_r2) ++ wsX40 ++ wsX20 ++ wsX00)
def wsX4_wouldTradeWholly_r1 : List Cond := [Cond.fieldLink RX4 28 "TradeHall" "books" "LTradeHall$Books;", Cond.fieldLink RX4 319 "TradeHall$Books" "sizes" "[I", Cond.fieldLink RX4 19 "TradeHall" "orders" "LTradeHall$Orders;", Cond.fieldLink RX4 169 "TradeHall$Orders" "price" "[I", Cond.fieldLink RX4 198 "TradeHall$Orders" "account" "[I", Cond.fieldLink RX4 126 "TradeHall$Orders" "left" "[I", Cond.fieldLink RX4 139 "TradeHall$Orders" "shown" "[I", Cond.methodLink RX4 313 yX0_facing, Cond.instanceMethod yX0_facing, Cond.selects RX0 yX0_facing yX0_facing, Cond.initialized RX0, Cond.code yX0_facing cX0_facing 2 (some .int), Cond.fieldLink RX0 18 "TradeHall$Books" "orders" "LTradeHall$Orders;", Cond.fieldLink RX0 22 "TradeHall$Orders" "symbol" "[I", Cond.fieldLink RX0 27 "TradeHall$Orders" "side" "[I", Cond.methodLink RX0 30 yX0_bookOf, Cond.static yX0_bookOf, Cond.code yX0_bookOf cX0_bookOf 2 (some .int), Cond.methodLink RX4 161 yX0_orderAt, Cond.instanceMethod yX0_orderAt, Cond.selects RX0 yX0_orderAt yX0_orderAt, Cond.code yX0_orderAt cX0_orderAt 3 (some .int), Cond.fieldLink RX0 15 "TradeHall$Books" "sizes" "[I", Cond.fieldLink RX0 9 "TradeHall$Books" "rows" "[I"]
def wsX4_wouldTradeWholly_r2 : List Cond := [Cond.methodLink RX4 316 yX2_pricesAllow, Cond.instanceMethod yX2_pricesAllow, Cond.selects RX2 yX2_pricesAllow yX2_pricesAllow, Cond.initialized RX2, Cond.code yX2_pricesAllow cX2_pricesAllow 3 (some .boolean), Cond.fieldLink RX2 18 "TradeHall$Orders" "side" "[I", Cond.fieldLink RX2 24 "TradeHall$Orders" "price" "[I"]
def wsX4_wouldTradeWholly : List Cond := .code yX4_wouldTradeWholly cX4_wouldTradeWholly 9 (some .boolean) :: ((wsX4_wouldTradeWholly_r1 ++ wsX4_wouldTradeWholly_r2) ++ wsX40 ++ wsX00 ++ wsX20)
def wsX4_makeTrade_r1 : List Cond := [Cond.fieldLink RX4 19 "TradeHall" "orders" "LTradeHall$Orders;", Cond.fieldLink RX4 169 "TradeHall$Orders" "price" "[I", Cond.fieldLink RX4 211 "TradeHall$Orders" "symbol" "[I", Cond.fieldLink RX4 214 "TradeHall$Orders" "side" "[I", Cond.fieldLink RX4 198 "TradeHall$Orders" "account" "[I", Cond.fieldLink RX4 10 "TradeHall" "ledger" "LTradeHall$Ledger;", Cond.fieldLink RX4 35 "TradeHall" "tape" "LTradeHall$Tape;", Cond.methodLink RX4 109 yX4_hold, Cond.instanceMethod yX4_hold, Cond.selects RX4 yX4_hold yX4_hold, Cond.initialized RX4, Cond.code yX4_hold cX4_hold 4 none, Cond.fieldLink RX4 217 "TradeHall$Ledger" "cashHeld" "[J", Cond.fieldLink RX4 222 "TradeHall$Ledger" "sharesHeld" "[I", Cond.methodLink RX4 78 yX1_placeOf, Cond.static yX1_placeOf, Cond.initialized RX1, Cond.code yX1_placeOf cX1_placeOf 2 (some .int), Cond.methodLink RX4 328 yX1_handOver, Cond.instanceMethod yX1_handOver, Cond.selects RX1 yX1_handOver yX1_handOver, Cond.code yX1_handOver cX1_handOver 10 none, Cond.fieldLink RX1 9 "TradeHall$Ledger" "cashOf" "[J", Cond.fieldLink RX1 18 "TradeHall$Ledger" "sharesOf" "[I"]
def wsX4_makeTrade_r2 : List Cond := [Cond.fieldLink RX1 25 "TradeHall$Ledger" "bought" "[I", Cond.fieldLink RX1 28 "TradeHall$Ledger" "sold" "[I", Cond.methodLink RX1 43 yX1_placeOf, Cond.methodLink RX4 332 yX2_fill, Cond.instanceMethod yX2_fill, Cond.selects RX2 yX2_fill yX2_fill, Cond.initialized RX2, Cond.code yX2_fill cX2_fill 3 none, Cond.fieldLink RX2 30 "TradeHall$Orders" "left" "[I", Cond.fieldLink RX2 42 "TradeHall$Orders" "traded" "[I", Cond.methodLink RX4 335 yX3_note, Cond.instanceMethod yX3_note, Cond.selects RX3 yX3_note yX3_note, Cond.initialized RX3, Cond.code yX3_note cX3_note 6 none, Cond.fieldLink RX3 36 "TradeHall$Tape" "trades" "I", Cond.fieldLink RX3 9 "TradeHall$Tape" "came" "[I", Cond.fieldLink RX3 15 "TradeHall$Tape" "rested" "[I", Cond.fieldLink RX3 18 "TradeHall$Tape" "price" "[I", Cond.fieldLink RX3 21 "TradeHall$Tape" "amount" "[I", Cond.fieldLink RX3 30 "TradeHall$Tape" "least" "[I", Cond.fieldLink RX3 24 "TradeHall$Tape" "last" "[I", Cond.methodLink RX3 40 Lib.Math.min.name, Cond.static Lib.Math.min.name]
def wsX4_makeTrade_r3 : List Cond := [Cond.initialized "java/lang/Math", Cond.code Lib.Math.min.name Lib.Math.min.code 2 (some .int), Cond.fieldLink RX3 27 "TradeHall$Tape" "greatest" "[I", Cond.methodLink RX3 46 Lib.Math.max.name, Cond.static Lib.Math.max.name, Cond.code Lib.Math.max.name Lib.Math.max.code 2 (some .int), Cond.fieldLink RX3 33 "TradeHall$Tape" "volume" "[I"]
def wsX4_makeTrade : List Cond := .code yX4_makeTrade cX4_makeTrade 9 none :: ((wsX4_makeTrade_r1 ++ (wsX4_makeTrade_r2 ++ wsX4_makeTrade_r3)) ++ wsX40 ++ wsX20 ++ wsX10 ++ wsX30)
def wsX4_showLess_r1 : List Cond := [Cond.fieldLink RX4 19 "TradeHall" "orders" "LTradeHall$Orders;", Cond.fieldLink RX4 139 "TradeHall$Orders" "shown" "[I", Cond.fieldLink RX4 28 "TradeHall" "books" "LTradeHall$Books;", Cond.fieldLink RX4 126 "TradeHall$Orders" "left" "[I", Cond.methodLink RX4 338 yX0_drop, Cond.instanceMethod yX0_drop, Cond.selects RX0 yX0_drop yX0_drop, Cond.initialized RX0, Cond.code yX0_drop cX0_drop 7 none, Cond.fieldLink RX0 18 "TradeHall$Books" "orders" "LTradeHall$Orders;", Cond.fieldLink RX0 22 "TradeHall$Orders" "symbol" "[I", Cond.fieldLink RX0 27 "TradeHall$Orders" "side" "[I", Cond.fieldLink RX0 15 "TradeHall$Books" "sizes" "[I", Cond.fieldLink RX0 9 "TradeHall$Books" "rows" "[I", Cond.methodLink RX0 30 yX0_bookOf, Cond.static yX0_bookOf, Cond.code yX0_bookOf cX0_bookOf 2 (some .int), Cond.methodLink RX4 297 yX4_close, Cond.instanceMethod yX4_close, Cond.selects RX4 yX4_close yX4_close, Cond.initialized RX4, Cond.code yX4_close cX4_close 3 none, Cond.fieldLink RX4 201 "TradeHall$Orders" "state" "[I", Cond.fieldLink RX4 97 "TradeHall$Orders" "there" "I"]
def wsX4_showLess_r2 : List Cond := [Cond.methodLink RX4 109 yX4_hold, Cond.instanceMethod yX4_hold, Cond.selects RX4 yX4_hold yX4_hold, Cond.code yX4_hold cX4_hold 4 none, Cond.fieldLink RX4 198 "TradeHall$Orders" "account" "[I", Cond.fieldLink RX4 214 "TradeHall$Orders" "side" "[I", Cond.fieldLink RX4 10 "TradeHall" "ledger" "LTradeHall$Ledger;", Cond.fieldLink RX4 217 "TradeHall$Ledger" "cashHeld" "[J", Cond.fieldLink RX4 169 "TradeHall$Orders" "price" "[I", Cond.fieldLink RX4 222 "TradeHall$Ledger" "sharesHeld" "[I", Cond.fieldLink RX4 211 "TradeHall$Orders" "symbol" "[I", Cond.methodLink RX4 78 yX1_placeOf, Cond.static yX1_placeOf, Cond.initialized RX1, Cond.code yX1_placeOf cX1_placeOf 2 (some .int), Cond.methodLink RX4 300 yX4_rest, Cond.instanceMethod yX4_rest, Cond.selects RX4 yX4_rest yX4_rest, Cond.code yX4_rest cX4_rest 3 none, Cond.fieldLink RX4 291 "TradeHall$Orders" "kind" "[I", Cond.fieldLink RX4 341 "TradeHall$Orders" "extra" "[I", Cond.methodLink RX4 142 Lib.Math.min.name, Cond.static Lib.Math.min.name, Cond.initialized "java/lang/Math"]
def wsX4_showLess_r3 : List Cond := [Cond.code Lib.Math.min.name Lib.Math.min.code 2 (some .int), Cond.methodLink RX4 344 yX0_putLast, Cond.instanceMethod yX0_putLast, Cond.selects RX0 yX0_putLast yX0_putLast, Cond.code yX0_putLast cX0_putLast 7 none, Cond.fieldLink RX0 34 "TradeHall$Orders" "price" "[I"]
def wsX4_showLess : List Cond := .code yX4_showLess cX4_showLess 3 none :: ((wsX4_showLess_r1 ++ (wsX4_showLess_r2 ++ wsX4_showLess_r3)) ++ wsX40 ++ wsX20 ++ wsX00 ++ wsX10)
def wsX4_tradeUntilStopped_r1 : List Cond := [Cond.fieldLink RX4 28 "TradeHall" "books" "LTradeHall$Books;", Cond.fieldLink RX4 19 "TradeHall" "orders" "LTradeHall$Orders;", Cond.fieldLink RX4 126 "TradeHall$Orders" "left" "[I", Cond.fieldLink RX4 198 "TradeHall$Orders" "account" "[I", Cond.fieldLink RX4 139 "TradeHall$Orders" "shown" "[I", Cond.methodLink RX4 142 Lib.Math.min.name, Cond.static Lib.Math.min.name, Cond.initialized "java/lang/Math", Cond.code Lib.Math.min.name Lib.Math.min.code 2 (some .int), Cond.methodLink RX4 313 yX0_facing, Cond.instanceMethod yX0_facing, Cond.selects RX0 yX0_facing yX0_facing, Cond.initialized RX0, Cond.code yX0_facing cX0_facing 2 (some .int), Cond.fieldLink RX0 18 "TradeHall$Books" "orders" "LTradeHall$Orders;", Cond.fieldLink RX0 22 "TradeHall$Orders" "symbol" "[I", Cond.fieldLink RX0 27 "TradeHall$Orders" "side" "[I", Cond.methodLink RX0 30 yX0_bookOf, Cond.static yX0_bookOf, Cond.code yX0_bookOf cX0_bookOf 2 (some .int), Cond.methodLink RX4 161 yX0_orderAt, Cond.instanceMethod yX0_orderAt, Cond.selects RX0 yX0_orderAt yX0_orderAt, Cond.code yX0_orderAt cX0_orderAt 3 (some .int)]
def wsX4_tradeUntilStopped_r2 : List Cond := [Cond.fieldLink RX0 15 "TradeHall$Books" "sizes" "[I", Cond.fieldLink RX0 9 "TradeHall$Books" "rows" "[I", Cond.methodLink RX4 316 yX2_pricesAllow, Cond.instanceMethod yX2_pricesAllow, Cond.selects RX2 yX2_pricesAllow yX2_pricesAllow, Cond.initialized RX2, Cond.code yX2_pricesAllow cX2_pricesAllow 3 (some .boolean), Cond.fieldLink RX2 18 "TradeHall$Orders" "side" "[I", Cond.fieldLink RX2 24 "TradeHall$Orders" "price" "[I", Cond.methodLink RX4 322 yX4_makeTrade, Cond.instanceMethod yX4_makeTrade, Cond.selects RX4 yX4_makeTrade yX4_makeTrade, Cond.initialized RX4, Cond.code yX4_makeTrade cX4_makeTrade 9 none, Cond.fieldLink RX4 169 "TradeHall$Orders" "price" "[I", Cond.fieldLink RX4 211 "TradeHall$Orders" "symbol" "[I", Cond.fieldLink RX4 214 "TradeHall$Orders" "side" "[I", Cond.fieldLink RX4 10 "TradeHall" "ledger" "LTradeHall$Ledger;", Cond.fieldLink RX4 35 "TradeHall" "tape" "LTradeHall$Tape;", Cond.methodLink RX4 109 yX4_hold, Cond.instanceMethod yX4_hold, Cond.selects RX4 yX4_hold yX4_hold, Cond.code yX4_hold cX4_hold 4 none, Cond.fieldLink RX4 217 "TradeHall$Ledger" "cashHeld" "[J"]
def wsX4_tradeUntilStopped_r3 : List Cond := [Cond.fieldLink RX4 222 "TradeHall$Ledger" "sharesHeld" "[I", Cond.methodLink RX4 78 yX1_placeOf, Cond.static yX1_placeOf, Cond.initialized RX1, Cond.code yX1_placeOf cX1_placeOf 2 (some .int), Cond.methodLink RX4 328 yX1_handOver, Cond.instanceMethod yX1_handOver, Cond.selects RX1 yX1_handOver yX1_handOver, Cond.code yX1_handOver cX1_handOver 10 none, Cond.fieldLink RX1 9 "TradeHall$Ledger" "cashOf" "[J", Cond.fieldLink RX1 18 "TradeHall$Ledger" "sharesOf" "[I", Cond.fieldLink RX1 25 "TradeHall$Ledger" "bought" "[I", Cond.fieldLink RX1 28 "TradeHall$Ledger" "sold" "[I", Cond.methodLink RX1 43 yX1_placeOf, Cond.methodLink RX4 332 yX2_fill, Cond.instanceMethod yX2_fill, Cond.selects RX2 yX2_fill yX2_fill, Cond.code yX2_fill cX2_fill 3 none, Cond.fieldLink RX2 30 "TradeHall$Orders" "left" "[I", Cond.fieldLink RX2 42 "TradeHall$Orders" "traded" "[I", Cond.methodLink RX4 335 yX3_note, Cond.instanceMethod yX3_note, Cond.selects RX3 yX3_note yX3_note, Cond.initialized RX3]
def wsX4_tradeUntilStopped_r4 : List Cond := [Cond.code yX3_note cX3_note 6 none, Cond.fieldLink RX3 36 "TradeHall$Tape" "trades" "I", Cond.fieldLink RX3 9 "TradeHall$Tape" "came" "[I", Cond.fieldLink RX3 15 "TradeHall$Tape" "rested" "[I", Cond.fieldLink RX3 18 "TradeHall$Tape" "price" "[I", Cond.fieldLink RX3 21 "TradeHall$Tape" "amount" "[I", Cond.fieldLink RX3 30 "TradeHall$Tape" "least" "[I", Cond.fieldLink RX3 24 "TradeHall$Tape" "last" "[I", Cond.methodLink RX3 40 Lib.Math.min.name, Cond.fieldLink RX3 27 "TradeHall$Tape" "greatest" "[I", Cond.methodLink RX3 46 Lib.Math.max.name, Cond.static Lib.Math.max.name, Cond.code Lib.Math.max.name Lib.Math.max.code 2 (some .int), Cond.fieldLink RX3 33 "TradeHall$Tape" "volume" "[I", Cond.methodLink RX4 325 yX4_showLess, Cond.instanceMethod yX4_showLess, Cond.selects RX4 yX4_showLess yX4_showLess, Cond.code yX4_showLess cX4_showLess 3 none, Cond.methodLink RX4 338 yX0_drop, Cond.instanceMethod yX0_drop, Cond.selects RX0 yX0_drop yX0_drop, Cond.code yX0_drop cX0_drop 7 none, Cond.methodLink RX4 297 yX4_close, Cond.instanceMethod yX4_close]
def wsX4_tradeUntilStopped_r5 : List Cond := [Cond.selects RX4 yX4_close yX4_close, Cond.code yX4_close cX4_close 3 none, Cond.fieldLink RX4 201 "TradeHall$Orders" "state" "[I", Cond.fieldLink RX4 97 "TradeHall$Orders" "there" "I", Cond.methodLink RX4 300 yX4_rest, Cond.instanceMethod yX4_rest, Cond.selects RX4 yX4_rest yX4_rest, Cond.code yX4_rest cX4_rest 3 none, Cond.fieldLink RX4 291 "TradeHall$Orders" "kind" "[I", Cond.fieldLink RX4 341 "TradeHall$Orders" "extra" "[I", Cond.methodLink RX4 344 yX0_putLast, Cond.instanceMethod yX0_putLast, Cond.selects RX0 yX0_putLast yX0_putLast, Cond.code yX0_putLast cX0_putLast 7 none, Cond.fieldLink RX0 34 "TradeHall$Orders" "price" "[I"]
def wsX4_tradeUntilStopped : List Cond := .code yX4_tradeUntilStopped cX4_tradeUntilStopped 6 (some .boolean) :: ((wsX4_tradeUntilStopped_r1 ++ (wsX4_tradeUntilStopped_r2 ++ (wsX4_tradeUntilStopped_r3 ++ (wsX4_tradeUntilStopped_r4 ++ wsX4_tradeUntilStopped_r5)))) ++ wsX40 ++ wsX20 ++ wsX00 ++ wsX10 ++ wsX30)
def wsX4_actByKind_r1 : List Cond := [Cond.fieldLink RX4 19 "TradeHall" "orders" "LTradeHall$Orders;", Cond.fieldLink RX4 291 "TradeHall$Orders" "kind" "[I", Cond.fieldLink RX4 126 "TradeHall$Orders" "left" "[I", Cond.methodLink RX4 294 yX4_meetsOther, Cond.instanceMethod yX4_meetsOther, Cond.selects RX4 yX4_meetsOther yX4_meetsOther, Cond.initialized RX4, Cond.code yX4_meetsOther cX4_meetsOther 3 (some .boolean), Cond.fieldLink RX4 28 "TradeHall" "books" "LTradeHall$Books;", Cond.methodLink RX4 313 yX0_facing, Cond.instanceMethod yX0_facing, Cond.selects RX0 yX0_facing yX0_facing, Cond.initialized RX0, Cond.code yX0_facing cX0_facing 2 (some .int), Cond.fieldLink RX0 18 "TradeHall$Books" "orders" "LTradeHall$Orders;", Cond.fieldLink RX0 22 "TradeHall$Orders" "symbol" "[I", Cond.fieldLink RX0 27 "TradeHall$Orders" "side" "[I", Cond.methodLink RX0 30 yX0_bookOf, Cond.static yX0_bookOf, Cond.code yX0_bookOf cX0_bookOf 2 (some .int), Cond.methodLink RX4 161 yX0_orderAt, Cond.instanceMethod yX0_orderAt, Cond.selects RX0 yX0_orderAt yX0_orderAt, Cond.code yX0_orderAt cX0_orderAt 3 (some .int)]
def wsX4_actByKind_r2 : List Cond := [Cond.fieldLink RX0 15 "TradeHall$Books" "sizes" "[I", Cond.fieldLink RX0 9 "TradeHall$Books" "rows" "[I", Cond.methodLink RX4 316 yX2_pricesAllow, Cond.instanceMethod yX2_pricesAllow, Cond.selects RX2 yX2_pricesAllow yX2_pricesAllow, Cond.initialized RX2, Cond.code yX2_pricesAllow cX2_pricesAllow 3 (some .boolean), Cond.fieldLink RX2 18 "TradeHall$Orders" "side" "[I", Cond.fieldLink RX2 24 "TradeHall$Orders" "price" "[I", Cond.methodLink RX4 297 yX4_close, Cond.instanceMethod yX4_close, Cond.selects RX4 yX4_close yX4_close, Cond.code yX4_close cX4_close 3 none, Cond.fieldLink RX4 139 "TradeHall$Orders" "shown" "[I", Cond.fieldLink RX4 201 "TradeHall$Orders" "state" "[I", Cond.fieldLink RX4 97 "TradeHall$Orders" "there" "I", Cond.methodLink RX4 109 yX4_hold, Cond.instanceMethod yX4_hold, Cond.selects RX4 yX4_hold yX4_hold, Cond.code yX4_hold cX4_hold 4 none, Cond.fieldLink RX4 198 "TradeHall$Orders" "account" "[I", Cond.fieldLink RX4 214 "TradeHall$Orders" "side" "[I", Cond.fieldLink RX4 10 "TradeHall" "ledger" "LTradeHall$Ledger;", Cond.fieldLink RX4 217 "TradeHall$Ledger" "cashHeld" "[J"]
def wsX4_actByKind_r3 : List Cond := [Cond.fieldLink RX4 169 "TradeHall$Orders" "price" "[I", Cond.fieldLink RX4 222 "TradeHall$Ledger" "sharesHeld" "[I", Cond.fieldLink RX4 211 "TradeHall$Orders" "symbol" "[I", Cond.methodLink RX4 78 yX1_placeOf, Cond.static yX1_placeOf, Cond.initialized RX1, Cond.code yX1_placeOf cX1_placeOf 2 (some .int), Cond.methodLink RX4 300 yX4_rest, Cond.instanceMethod yX4_rest, Cond.selects RX4 yX4_rest yX4_rest, Cond.code yX4_rest cX4_rest 3 none, Cond.fieldLink RX4 341 "TradeHall$Orders" "extra" "[I", Cond.methodLink RX4 142 Lib.Math.min.name, Cond.static Lib.Math.min.name, Cond.initialized "java/lang/Math", Cond.code Lib.Math.min.name Lib.Math.min.code 2 (some .int), Cond.methodLink RX4 344 yX0_putLast, Cond.instanceMethod yX0_putLast, Cond.selects RX0 yX0_putLast yX0_putLast, Cond.code yX0_putLast cX0_putLast 7 none, Cond.fieldLink RX0 34 "TradeHall$Orders" "price" "[I", Cond.methodLink RX4 303 yX4_wouldTradeWholly, Cond.instanceMethod yX4_wouldTradeWholly, Cond.selects RX4 yX4_wouldTradeWholly yX4_wouldTradeWholly]
def wsX4_actByKind_r4 : List Cond := [Cond.code yX4_wouldTradeWholly cX4_wouldTradeWholly 9 (some .boolean), Cond.fieldLink RX4 319 "TradeHall$Books" "sizes" "[I", Cond.methodLink RX4 306 yX4_tradeUntilStopped, Cond.instanceMethod yX4_tradeUntilStopped, Cond.selects RX4 yX4_tradeUntilStopped yX4_tradeUntilStopped, Cond.code yX4_tradeUntilStopped cX4_tradeUntilStopped 6 (some .boolean), Cond.methodLink RX4 322 yX4_makeTrade, Cond.instanceMethod yX4_makeTrade, Cond.selects RX4 yX4_makeTrade yX4_makeTrade, Cond.code yX4_makeTrade cX4_makeTrade 9 none, Cond.fieldLink RX4 35 "TradeHall" "tape" "LTradeHall$Tape;", Cond.methodLink RX4 328 yX1_handOver, Cond.instanceMethod yX1_handOver, Cond.selects RX1 yX1_handOver yX1_handOver, Cond.code yX1_handOver cX1_handOver 10 none, Cond.fieldLink RX1 9 "TradeHall$Ledger" "cashOf" "[J", Cond.fieldLink RX1 18 "TradeHall$Ledger" "sharesOf" "[I", Cond.fieldLink RX1 25 "TradeHall$Ledger" "bought" "[I", Cond.fieldLink RX1 28 "TradeHall$Ledger" "sold" "[I", Cond.methodLink RX1 43 yX1_placeOf, Cond.methodLink RX4 332 yX2_fill, Cond.instanceMethod yX2_fill, Cond.selects RX2 yX2_fill yX2_fill, Cond.code yX2_fill cX2_fill 3 none]
def wsX4_actByKind_r5 : List Cond := [Cond.fieldLink RX2 30 "TradeHall$Orders" "left" "[I", Cond.fieldLink RX2 42 "TradeHall$Orders" "traded" "[I", Cond.methodLink RX4 335 yX3_note, Cond.instanceMethod yX3_note, Cond.selects RX3 yX3_note yX3_note, Cond.initialized RX3, Cond.code yX3_note cX3_note 6 none, Cond.fieldLink RX3 36 "TradeHall$Tape" "trades" "I", Cond.fieldLink RX3 9 "TradeHall$Tape" "came" "[I", Cond.fieldLink RX3 15 "TradeHall$Tape" "rested" "[I", Cond.fieldLink RX3 18 "TradeHall$Tape" "price" "[I", Cond.fieldLink RX3 21 "TradeHall$Tape" "amount" "[I", Cond.fieldLink RX3 30 "TradeHall$Tape" "least" "[I", Cond.fieldLink RX3 24 "TradeHall$Tape" "last" "[I", Cond.methodLink RX3 40 Lib.Math.min.name, Cond.fieldLink RX3 27 "TradeHall$Tape" "greatest" "[I", Cond.methodLink RX3 46 Lib.Math.max.name, Cond.static Lib.Math.max.name, Cond.code Lib.Math.max.name Lib.Math.max.code 2 (some .int), Cond.fieldLink RX3 33 "TradeHall$Tape" "volume" "[I", Cond.methodLink RX4 325 yX4_showLess, Cond.instanceMethod yX4_showLess, Cond.selects RX4 yX4_showLess yX4_showLess, Cond.code yX4_showLess cX4_showLess 3 none]
def wsX4_actByKind_r6 : List Cond := [Cond.methodLink RX4 338 yX0_drop, Cond.instanceMethod yX0_drop, Cond.selects RX0 yX0_drop yX0_drop, Cond.code yX0_drop cX0_drop 7 none]
def wsX4_actByKind : List Cond := .code yX4_actByKind cX4_actByKind 4 none :: ((wsX4_actByKind_r1 ++ (wsX4_actByKind_r2 ++ (wsX4_actByKind_r3 ++ (wsX4_actByKind_r4 ++ (wsX4_actByKind_r5 ++ wsX4_actByKind_r6))))) ++ wsX40 ++ wsX20 ++ wsX00 ++ wsX10 ++ wsX30)
def wsX4_wakeStop : List Cond := .code yX4_wakeStop cX4_wakeStop 4 (some .int) :: ([.fieldLink RX4 35 "TradeHall" "tape" "LTradeHall$Tape;", .fieldLink RX4 255 "TradeHall$Tape" "last" "[I", .fieldLink RX4 19 "TradeHall" "orders" "LTradeHall$Orders;", .fieldLink RX4 100 "TradeHall$Orders" "taken" "I", .fieldLink RX4 211 "TradeHall$Orders" "symbol" "[I", .fieldLink RX4 291 "TradeHall$Orders" "kind" "[I", .methodLink RX4 309 yX2_isWokenBy, .instanceMethod yX2_isWokenBy, .selects RX2 yX2_isWokenBy yX2_isWokenBy, .initialized RX2, .code yX2_isWokenBy cX2_isWokenBy 3 (some .boolean), .fieldLink RX2 36 "TradeHall$Orders" "state" "[I", .fieldLink RX2 18 "TradeHall$Orders" "side" "[I", .fieldLink RX2 27 "TradeHall$Orders" "extra" "[I"] ++ wsX40 ++ wsX30 ++ wsX20)
def wsX4_order_r1 : List Cond := [Cond.classLink RX4 58 "java/lang/IllegalStateException", Cond.initialized "java/lang/IllegalStateException", Cond.fieldLink RX4 10 "TradeHall" "ledger" "LTradeHall$Ledger;", Cond.fieldLink RX4 19 "TradeHall" "orders" "LTradeHall$Orders;", Cond.fieldLink RX4 97 "TradeHall$Orders" "there" "I", Cond.fieldLink RX4 100 "TradeHall$Orders" "taken" "I", Cond.methodLink RX4 43 yX4_needAccount, Cond.static yX4_needAccount, Cond.initialized RX4, Cond.code yX4_needAccount cX4_needAccount 1 none, Cond.classLink RX4 179 "java/lang/IndexOutOfBoundsException", Cond.initialized "java/lang/IndexOutOfBoundsException", Cond.methodLink RX4 74 yX4_needSymbol, Cond.static yX4_needSymbol, Cond.code yX4_needSymbol cX4_needSymbol 1 none, Cond.methodLink RX4 88 yX4_needSide, Cond.static yX4_needSide, Cond.code yX4_needSide cX4_needSide 1 none, Cond.classLink RX4 132 "java/lang/IllegalArgumentException", Cond.initialized "java/lang/IllegalArgumentException", Cond.methodLink RX4 48 yX4_needWithin, Cond.static yX4_needWithin, Cond.code yX4_needWithin cX4_needWithin 3 none, Cond.methodLink RX4 91 yX1_canHold]
def wsX4_order_r2 : List Cond := [Cond.instanceMethod yX1_canHold, Cond.selects RX1 yX1_canHold yX1_canHold, Cond.initialized RX1, Cond.code yX1_canHold cX1_canHold 7 (some .boolean), Cond.fieldLink RX1 18 "TradeHall$Ledger" "sharesOf" "[I", Cond.fieldLink RX1 22 "TradeHall$Ledger" "sharesHeld" "[I", Cond.methodLink RX1 39 yX1_freeCash, Cond.instanceMethod yX1_freeCash, Cond.selects RX1 yX1_freeCash yX1_freeCash, Cond.code yX1_freeCash cX1_freeCash 2 (some .long), Cond.fieldLink RX1 9 "TradeHall$Ledger" "cashOf" "[J", Cond.fieldLink RX1 15 "TradeHall$Ledger" "cashHeld" "[J", Cond.methodLink RX1 43 yX1_placeOf, Cond.static yX1_placeOf, Cond.code yX1_placeOf cX1_placeOf 2 (some .int), Cond.methodLink RX4 105 yX2_take, Cond.instanceMethod yX2_take, Cond.selects RX2 yX2_take yX2_take, Cond.initialized RX2, Cond.code yX2_take cX2_take 9 (some .int), Cond.fieldLink RX2 45 "TradeHall$Orders" "taken" "I", Cond.fieldLink RX2 9 "TradeHall$Orders" "account" "[I", Cond.fieldLink RX2 15 "TradeHall$Orders" "symbol" "[I", Cond.fieldLink RX2 18 "TradeHall$Orders" "side" "[I"]
def wsX4_order_r3 : List Cond := [Cond.fieldLink RX2 21 "TradeHall$Orders" "kind" "[I", Cond.fieldLink RX2 24 "TradeHall$Orders" "price" "[I", Cond.fieldLink RX2 27 "TradeHall$Orders" "extra" "[I", Cond.fieldLink RX2 30 "TradeHall$Orders" "left" "[I", Cond.fieldLink RX2 36 "TradeHall$Orders" "state" "[I", Cond.fieldLink RX2 49 "TradeHall$Orders" "there" "I", Cond.methodLink RX4 109 yX4_hold, Cond.instanceMethod yX4_hold, Cond.selects RX4 yX4_hold yX4_hold, Cond.code yX4_hold cX4_hold 4 none, Cond.fieldLink RX4 198 "TradeHall$Orders" "account" "[I", Cond.fieldLink RX4 214 "TradeHall$Orders" "side" "[I", Cond.fieldLink RX4 217 "TradeHall$Ledger" "cashHeld" "[J", Cond.fieldLink RX4 169 "TradeHall$Orders" "price" "[I", Cond.fieldLink RX4 222 "TradeHall$Ledger" "sharesHeld" "[I", Cond.fieldLink RX4 211 "TradeHall$Orders" "symbol" "[I", Cond.methodLink RX4 78 yX1_placeOf, Cond.methodLink RX4 113 yX4_actByKind, Cond.instanceMethod yX4_actByKind, Cond.selects RX4 yX4_actByKind yX4_actByKind, Cond.code yX4_actByKind cX4_actByKind 4 none, Cond.fieldLink RX4 291 "TradeHall$Orders" "kind" "[I", Cond.fieldLink RX4 126 "TradeHall$Orders" "left" "[I", Cond.methodLink RX4 294 yX4_meetsOther]
def wsX4_order_r4 : List Cond := [Cond.instanceMethod yX4_meetsOther, Cond.selects RX4 yX4_meetsOther yX4_meetsOther, Cond.code yX4_meetsOther cX4_meetsOther 3 (some .boolean), Cond.fieldLink RX4 28 "TradeHall" "books" "LTradeHall$Books;", Cond.methodLink RX4 313 yX0_facing, Cond.instanceMethod yX0_facing, Cond.selects RX0 yX0_facing yX0_facing, Cond.initialized RX0, Cond.code yX0_facing cX0_facing 2 (some .int), Cond.fieldLink RX0 18 "TradeHall$Books" "orders" "LTradeHall$Orders;", Cond.fieldLink RX0 22 "TradeHall$Orders" "symbol" "[I", Cond.fieldLink RX0 27 "TradeHall$Orders" "side" "[I", Cond.methodLink RX0 30 yX0_bookOf, Cond.static yX0_bookOf, Cond.code yX0_bookOf cX0_bookOf 2 (some .int), Cond.methodLink RX4 161 yX0_orderAt, Cond.instanceMethod yX0_orderAt, Cond.selects RX0 yX0_orderAt yX0_orderAt, Cond.code yX0_orderAt cX0_orderAt 3 (some .int), Cond.fieldLink RX0 15 "TradeHall$Books" "sizes" "[I", Cond.fieldLink RX0 9 "TradeHall$Books" "rows" "[I", Cond.methodLink RX4 316 yX2_pricesAllow, Cond.instanceMethod yX2_pricesAllow, Cond.selects RX2 yX2_pricesAllow yX2_pricesAllow]
def wsX4_order_r5 : List Cond := [Cond.code yX2_pricesAllow cX2_pricesAllow 3 (some .boolean), Cond.methodLink RX4 297 yX4_close, Cond.instanceMethod yX4_close, Cond.selects RX4 yX4_close yX4_close, Cond.code yX4_close cX4_close 3 none, Cond.fieldLink RX4 139 "TradeHall$Orders" "shown" "[I", Cond.fieldLink RX4 201 "TradeHall$Orders" "state" "[I", Cond.methodLink RX4 300 yX4_rest, Cond.instanceMethod yX4_rest, Cond.selects RX4 yX4_rest yX4_rest, Cond.code yX4_rest cX4_rest 3 none, Cond.fieldLink RX4 341 "TradeHall$Orders" "extra" "[I", Cond.methodLink RX4 142 Lib.Math.min.name, Cond.static Lib.Math.min.name, Cond.initialized "java/lang/Math", Cond.code Lib.Math.min.name Lib.Math.min.code 2 (some .int), Cond.methodLink RX4 344 yX0_putLast, Cond.instanceMethod yX0_putLast, Cond.selects RX0 yX0_putLast yX0_putLast, Cond.code yX0_putLast cX0_putLast 7 none, Cond.fieldLink RX0 34 "TradeHall$Orders" "price" "[I", Cond.methodLink RX4 303 yX4_wouldTradeWholly, Cond.instanceMethod yX4_wouldTradeWholly, Cond.selects RX4 yX4_wouldTradeWholly yX4_wouldTradeWholly]
def wsX4_order_r6 : List Cond := [Cond.code yX4_wouldTradeWholly cX4_wouldTradeWholly 9 (some .boolean), Cond.fieldLink RX4 319 "TradeHall$Books" "sizes" "[I", Cond.methodLink RX4 306 yX4_tradeUntilStopped, Cond.instanceMethod yX4_tradeUntilStopped, Cond.selects RX4 yX4_tradeUntilStopped yX4_tradeUntilStopped, Cond.code yX4_tradeUntilStopped cX4_tradeUntilStopped 6 (some .boolean), Cond.methodLink RX4 322 yX4_makeTrade, Cond.instanceMethod yX4_makeTrade, Cond.selects RX4 yX4_makeTrade yX4_makeTrade, Cond.code yX4_makeTrade cX4_makeTrade 9 none, Cond.fieldLink RX4 35 "TradeHall" "tape" "LTradeHall$Tape;", Cond.methodLink RX4 328 yX1_handOver, Cond.instanceMethod yX1_handOver, Cond.selects RX1 yX1_handOver yX1_handOver, Cond.code yX1_handOver cX1_handOver 10 none, Cond.fieldLink RX1 25 "TradeHall$Ledger" "bought" "[I", Cond.fieldLink RX1 28 "TradeHall$Ledger" "sold" "[I", Cond.methodLink RX4 332 yX2_fill, Cond.instanceMethod yX2_fill, Cond.selects RX2 yX2_fill yX2_fill, Cond.code yX2_fill cX2_fill 3 none, Cond.fieldLink RX2 42 "TradeHall$Orders" "traded" "[I", Cond.methodLink RX4 335 yX3_note, Cond.instanceMethod yX3_note]
def wsX4_order_r7 : List Cond := [Cond.selects RX3 yX3_note yX3_note, Cond.initialized RX3, Cond.code yX3_note cX3_note 6 none, Cond.fieldLink RX3 36 "TradeHall$Tape" "trades" "I", Cond.fieldLink RX3 9 "TradeHall$Tape" "came" "[I", Cond.fieldLink RX3 15 "TradeHall$Tape" "rested" "[I", Cond.fieldLink RX3 18 "TradeHall$Tape" "price" "[I", Cond.fieldLink RX3 21 "TradeHall$Tape" "amount" "[I", Cond.fieldLink RX3 30 "TradeHall$Tape" "least" "[I", Cond.fieldLink RX3 24 "TradeHall$Tape" "last" "[I", Cond.methodLink RX3 40 Lib.Math.min.name, Cond.fieldLink RX3 27 "TradeHall$Tape" "greatest" "[I", Cond.methodLink RX3 46 Lib.Math.max.name, Cond.static Lib.Math.max.name, Cond.code Lib.Math.max.name Lib.Math.max.code 2 (some .int), Cond.fieldLink RX3 33 "TradeHall$Tape" "volume" "[I", Cond.methodLink RX4 325 yX4_showLess, Cond.instanceMethod yX4_showLess, Cond.selects RX4 yX4_showLess yX4_showLess, Cond.code yX4_showLess cX4_showLess 3 none, Cond.methodLink RX4 338 yX0_drop, Cond.instanceMethod yX0_drop, Cond.selects RX0 yX0_drop yX0_drop, Cond.code yX0_drop cX0_drop 7 none]
def wsX4_order_r8 : List Cond := [Cond.methodLink RX4 116 yX4_wakeStop, Cond.instanceMethod yX4_wakeStop, Cond.selects RX4 yX4_wakeStop yX4_wakeStop, Cond.code yX4_wakeStop cX4_wakeStop 4 (some .int), Cond.fieldLink RX4 255 "TradeHall$Tape" "last" "[I", Cond.methodLink RX4 309 yX2_isWokenBy, Cond.instanceMethod yX2_isWokenBy, Cond.selects RX2 yX2_isWokenBy yX2_isWokenBy, Cond.code yX2_isWokenBy cX2_isWokenBy 3 (some .boolean)]
def wsX4_order : List Cond := .code yX4_order cX4_order 11 (some .int) :: ((wsX4_order_r1 ++ (wsX4_order_r2 ++ (wsX4_order_r3 ++ (wsX4_order_r4 ++ (wsX4_order_r5 ++ (wsX4_order_r6 ++ (wsX4_order_r7 ++ wsX4_order_r8))))))) ++ wsX40 ++ wsX20 ++ wsX10 ++ wsX00 ++ wsX30 ++ (vx_atS RX4 62 "java/lang/IllegalStateException" ["java/lang/RuntimeException", "java/lang/Exception"]).filter goodWord ++ (vx_atS RX4 183 "java/lang/IndexOutOfBoundsException" ["java/lang/RuntimeException", "java/lang/Exception"]).filter goodWord ++ (vx_atS RX4 136 "java/lang/IllegalArgumentException" ["java/lang/RuntimeException", "java/lang/Exception"]).filter goodWord)
def wsX4_needOrder : List Cond := .code yX4_needOrder cX4_needOrder 2 none :: ([.classLink RX4 179 "java/lang/IndexOutOfBoundsException", .initialized "java/lang/IndexOutOfBoundsException", .fieldLink RX4 19 "TradeHall" "orders" "LTradeHall$Orders;", .fieldLink RX4 100 "TradeHall$Orders" "taken" "I"] ++ wsX40 ++ wsX20 ++ (vx_atS RX4 183 "java/lang/IndexOutOfBoundsException" ["java/lang/RuntimeException", "java/lang/Exception"]).filter goodWord)
def wsX4_needOwnOrder : List Cond := .code yX4_needOwnOrder cX4_needOwnOrder 3 none :: ([.classLink RX4 132 "java/lang/IllegalArgumentException", .initialized "java/lang/IllegalArgumentException", .fieldLink RX4 19 "TradeHall" "orders" "LTradeHall$Orders;", .fieldLink RX4 198 "TradeHall$Orders" "account" "[I", .methodLink RX4 43 yX4_needAccount, .static yX4_needAccount, .initialized RX4, .code yX4_needAccount cX4_needAccount 1 none, .classLink RX4 179 "java/lang/IndexOutOfBoundsException", .initialized "java/lang/IndexOutOfBoundsException", .methodLink RX4 195 yX4_needOrder, .instanceMethod yX4_needOrder, .selects RX4 yX4_needOrder yX4_needOrder, .code yX4_needOrder cX4_needOrder 2 none, .fieldLink RX4 100 "TradeHall$Orders" "taken" "I"] ++ wsX40 ++ wsX20 ++ (vx_atS RX4 136 "java/lang/IllegalArgumentException" ["java/lang/RuntimeException", "java/lang/Exception"]).filter goodWord ++ (vx_atS RX4 183 "java/lang/IndexOutOfBoundsException" ["java/lang/RuntimeException", "java/lang/Exception"]).filter goodWord)
def wsX4_needThere : List Cond := .code yX4_needThere cX4_needThere 2 none :: ([.classLink RX4 58 "java/lang/IllegalStateException", .initialized "java/lang/IllegalStateException", .fieldLink RX4 19 "TradeHall" "orders" "LTradeHall$Orders;", .methodLink RX4 154 yX2_isThere, .instanceMethod yX2_isThere, .selects RX2 yX2_isThere yX2_isThere, .initialized RX2, .code yX2_isThere cX2_isThere 2 (some .boolean), .fieldLink RX2 36 "TradeHall$Orders" "state" "[I"] ++ wsX40 ++ wsX20 ++ (vx_atS RX4 62 "java/lang/IllegalStateException" ["java/lang/RuntimeException", "java/lang/Exception"]).filter goodWord)
def wsX4_takeAway_r1 : List Cond := [Cond.fieldLink RX4 19 "TradeHall" "orders" "LTradeHall$Orders;", Cond.fieldLink RX4 201 "TradeHall$Orders" "state" "[I", Cond.fieldLink RX4 28 "TradeHall" "books" "LTradeHall$Books;", Cond.methodLink RX4 338 yX0_drop, Cond.instanceMethod yX0_drop, Cond.selects RX0 yX0_drop yX0_drop, Cond.initialized RX0, Cond.code yX0_drop cX0_drop 7 none, Cond.fieldLink RX0 18 "TradeHall$Books" "orders" "LTradeHall$Orders;", Cond.fieldLink RX0 22 "TradeHall$Orders" "symbol" "[I", Cond.fieldLink RX0 27 "TradeHall$Orders" "side" "[I", Cond.fieldLink RX0 15 "TradeHall$Books" "sizes" "[I", Cond.fieldLink RX0 9 "TradeHall$Books" "rows" "[I", Cond.methodLink RX0 30 yX0_bookOf, Cond.static yX0_bookOf, Cond.code yX0_bookOf cX0_bookOf 2 (some .int), Cond.methodLink RX4 297 yX4_close, Cond.instanceMethod yX4_close, Cond.selects RX4 yX4_close yX4_close, Cond.initialized RX4, Cond.code yX4_close cX4_close 3 none, Cond.fieldLink RX4 126 "TradeHall$Orders" "left" "[I", Cond.fieldLink RX4 139 "TradeHall$Orders" "shown" "[I", Cond.fieldLink RX4 97 "TradeHall$Orders" "there" "I"]
def wsX4_takeAway_r2 : List Cond := [Cond.methodLink RX4 109 yX4_hold, Cond.instanceMethod yX4_hold, Cond.selects RX4 yX4_hold yX4_hold, Cond.code yX4_hold cX4_hold 4 none, Cond.fieldLink RX4 198 "TradeHall$Orders" "account" "[I", Cond.fieldLink RX4 214 "TradeHall$Orders" "side" "[I", Cond.fieldLink RX4 10 "TradeHall" "ledger" "LTradeHall$Ledger;", Cond.fieldLink RX4 217 "TradeHall$Ledger" "cashHeld" "[J", Cond.fieldLink RX4 169 "TradeHall$Orders" "price" "[I", Cond.fieldLink RX4 222 "TradeHall$Ledger" "sharesHeld" "[I", Cond.fieldLink RX4 211 "TradeHall$Orders" "symbol" "[I", Cond.methodLink RX4 78 yX1_placeOf, Cond.static yX1_placeOf, Cond.initialized RX1, Cond.code yX1_placeOf cX1_placeOf 2 (some .int)]
def wsX4_takeAway : List Cond := .code yX4_takeAway cX4_takeAway 2 none :: ((wsX4_takeAway_r1 ++ wsX4_takeAway_r2) ++ wsX40 ++ wsX20 ++ wsX00 ++ wsX10)
def wsX4_cancel_r1 : List Cond := [Cond.fieldLink RX4 19 "TradeHall" "orders" "LTradeHall$Orders;", Cond.fieldLink RX4 126 "TradeHall$Orders" "left" "[I", Cond.methodLink RX4 120 yX4_needOwnOrder, Cond.instanceMethod yX4_needOwnOrder, Cond.selects RX4 yX4_needOwnOrder yX4_needOwnOrder, Cond.initialized RX4, Cond.code yX4_needOwnOrder cX4_needOwnOrder 3 none, Cond.classLink RX4 132 "java/lang/IllegalArgumentException", Cond.initialized "java/lang/IllegalArgumentException", Cond.fieldLink RX4 198 "TradeHall$Orders" "account" "[I", Cond.methodLink RX4 43 yX4_needAccount, Cond.static yX4_needAccount, Cond.code yX4_needAccount cX4_needAccount 1 none, Cond.classLink RX4 179 "java/lang/IndexOutOfBoundsException", Cond.initialized "java/lang/IndexOutOfBoundsException", Cond.methodLink RX4 195 yX4_needOrder, Cond.instanceMethod yX4_needOrder, Cond.selects RX4 yX4_needOrder yX4_needOrder, Cond.code yX4_needOrder cX4_needOrder 2 none, Cond.fieldLink RX4 100 "TradeHall$Orders" "taken" "I", Cond.methodLink RX4 123 yX4_needThere, Cond.instanceMethod yX4_needThere, Cond.selects RX4 yX4_needThere yX4_needThere, Cond.code yX4_needThere cX4_needThere 2 none]
def wsX4_cancel_r2 : List Cond := [Cond.classLink RX4 58 "java/lang/IllegalStateException", Cond.initialized "java/lang/IllegalStateException", Cond.methodLink RX4 154 yX2_isThere, Cond.instanceMethod yX2_isThere, Cond.selects RX2 yX2_isThere yX2_isThere, Cond.initialized RX2, Cond.code yX2_isThere cX2_isThere 2 (some .boolean), Cond.fieldLink RX2 36 "TradeHall$Orders" "state" "[I", Cond.methodLink RX4 129 yX4_takeAway, Cond.instanceMethod yX4_takeAway, Cond.selects RX4 yX4_takeAway yX4_takeAway, Cond.code yX4_takeAway cX4_takeAway 2 none, Cond.fieldLink RX4 201 "TradeHall$Orders" "state" "[I", Cond.fieldLink RX4 28 "TradeHall" "books" "LTradeHall$Books;", Cond.methodLink RX4 338 yX0_drop, Cond.instanceMethod yX0_drop, Cond.selects RX0 yX0_drop yX0_drop, Cond.initialized RX0, Cond.code yX0_drop cX0_drop 7 none, Cond.fieldLink RX0 18 "TradeHall$Books" "orders" "LTradeHall$Orders;", Cond.fieldLink RX0 22 "TradeHall$Orders" "symbol" "[I", Cond.fieldLink RX0 27 "TradeHall$Orders" "side" "[I", Cond.fieldLink RX0 15 "TradeHall$Books" "sizes" "[I", Cond.fieldLink RX0 9 "TradeHall$Books" "rows" "[I"]
def wsX4_cancel_r3 : List Cond := [Cond.methodLink RX0 30 yX0_bookOf, Cond.static yX0_bookOf, Cond.code yX0_bookOf cX0_bookOf 2 (some .int), Cond.methodLink RX4 297 yX4_close, Cond.instanceMethod yX4_close, Cond.selects RX4 yX4_close yX4_close, Cond.code yX4_close cX4_close 3 none, Cond.fieldLink RX4 139 "TradeHall$Orders" "shown" "[I", Cond.fieldLink RX4 97 "TradeHall$Orders" "there" "I", Cond.methodLink RX4 109 yX4_hold, Cond.instanceMethod yX4_hold, Cond.selects RX4 yX4_hold yX4_hold, Cond.code yX4_hold cX4_hold 4 none, Cond.fieldLink RX4 214 "TradeHall$Orders" "side" "[I", Cond.fieldLink RX4 10 "TradeHall" "ledger" "LTradeHall$Ledger;", Cond.fieldLink RX4 217 "TradeHall$Ledger" "cashHeld" "[J", Cond.fieldLink RX4 169 "TradeHall$Orders" "price" "[I", Cond.fieldLink RX4 222 "TradeHall$Ledger" "sharesHeld" "[I", Cond.fieldLink RX4 211 "TradeHall$Orders" "symbol" "[I", Cond.methodLink RX4 78 yX1_placeOf, Cond.static yX1_placeOf, Cond.initialized RX1, Cond.code yX1_placeOf cX1_placeOf 2 (some .int)]
def wsX4_cancel : List Cond := .code yX4_cancel cX4_cancel 4 (some .int) :: ((wsX4_cancel_r1 ++ (wsX4_cancel_r2 ++ wsX4_cancel_r3)) ++ wsX40 ++ wsX20 ++ wsX00 ++ wsX10 ++ (vx_atS RX4 136 "java/lang/IllegalArgumentException" ["java/lang/RuntimeException", "java/lang/Exception"]).filter goodWord ++ (vx_atS RX4 183 "java/lang/IndexOutOfBoundsException" ["java/lang/RuntimeException", "java/lang/Exception"]).filter goodWord ++ (vx_atS RX4 62 "java/lang/IllegalStateException" ["java/lang/RuntimeException", "java/lang/Exception"]).filter goodWord)
def wsX4_reduce_r1 : List Cond := [Cond.classLink RX4 132 "java/lang/IllegalArgumentException", Cond.initialized "java/lang/IllegalArgumentException", Cond.classLink RX4 58 "java/lang/IllegalStateException", Cond.initialized "java/lang/IllegalStateException", Cond.fieldLink RX4 19 "TradeHall" "orders" "LTradeHall$Orders;", Cond.fieldLink RX4 126 "TradeHall$Orders" "left" "[I", Cond.fieldLink RX4 139 "TradeHall$Orders" "shown" "[I", Cond.methodLink RX4 142 Lib.Math.min.name, Cond.static Lib.Math.min.name, Cond.initialized "java/lang/Math", Cond.code Lib.Math.min.name Lib.Math.min.code 2 (some .int), Cond.methodLink RX4 120 yX4_needOwnOrder, Cond.instanceMethod yX4_needOwnOrder, Cond.selects RX4 yX4_needOwnOrder yX4_needOwnOrder, Cond.initialized RX4, Cond.code yX4_needOwnOrder cX4_needOwnOrder 3 none, Cond.fieldLink RX4 198 "TradeHall$Orders" "account" "[I", Cond.methodLink RX4 43 yX4_needAccount, Cond.static yX4_needAccount, Cond.code yX4_needAccount cX4_needAccount 1 none, Cond.classLink RX4 179 "java/lang/IndexOutOfBoundsException", Cond.initialized "java/lang/IndexOutOfBoundsException", Cond.methodLink RX4 195 yX4_needOrder, Cond.instanceMethod yX4_needOrder]
def wsX4_reduce_r2 : List Cond := [Cond.selects RX4 yX4_needOrder yX4_needOrder, Cond.code yX4_needOrder cX4_needOrder 2 none, Cond.fieldLink RX4 100 "TradeHall$Orders" "taken" "I", Cond.methodLink RX4 123 yX4_needThere, Cond.instanceMethod yX4_needThere, Cond.selects RX4 yX4_needThere yX4_needThere, Cond.code yX4_needThere cX4_needThere 2 none, Cond.methodLink RX4 154 yX2_isThere, Cond.instanceMethod yX2_isThere, Cond.selects RX2 yX2_isThere yX2_isThere, Cond.initialized RX2, Cond.code yX2_isThere cX2_isThere 2 (some .boolean), Cond.fieldLink RX2 36 "TradeHall$Orders" "state" "[I", Cond.methodLink RX4 109 yX4_hold, Cond.instanceMethod yX4_hold, Cond.selects RX4 yX4_hold yX4_hold, Cond.code yX4_hold cX4_hold 4 none, Cond.fieldLink RX4 214 "TradeHall$Orders" "side" "[I", Cond.fieldLink RX4 10 "TradeHall" "ledger" "LTradeHall$Ledger;", Cond.fieldLink RX4 217 "TradeHall$Ledger" "cashHeld" "[J", Cond.fieldLink RX4 169 "TradeHall$Orders" "price" "[I", Cond.fieldLink RX4 222 "TradeHall$Ledger" "sharesHeld" "[I", Cond.fieldLink RX4 211 "TradeHall$Orders" "symbol" "[I", Cond.methodLink RX4 78 yX1_placeOf]
def wsX4_reduce_r3 : List Cond := [Cond.static yX1_placeOf, Cond.initialized RX1, Cond.code yX1_placeOf cX1_placeOf 2 (some .int)]
def wsX4_reduce : List Cond := .code yX4_reduce cX4_reduce 4 (some .int) :: ((wsX4_reduce_r1 ++ (wsX4_reduce_r2 ++ wsX4_reduce_r3)) ++ wsX40 ++ wsX20 ++ wsX10 ++ (vx_atS RX4 136 "java/lang/IllegalArgumentException" ["java/lang/RuntimeException", "java/lang/Exception"]).filter goodWord ++ (vx_atS RX4 62 "java/lang/IllegalStateException" ["java/lang/RuntimeException", "java/lang/Exception"]).filter goodWord ++ (vx_atS RX4 183 "java/lang/IndexOutOfBoundsException" ["java/lang/RuntimeException", "java/lang/Exception"]).filter goodWord)
def wsX4_until_r1 : List Cond := [Cond.classLink RX4 132 "java/lang/IllegalArgumentException", Cond.initialized "java/lang/IllegalArgumentException", Cond.classLink RX4 58 "java/lang/IllegalStateException", Cond.initialized "java/lang/IllegalStateException", Cond.fieldLink RX4 39 "TradeHall" "now" "I", Cond.fieldLink RX4 19 "TradeHall" "orders" "LTradeHall$Orders;", Cond.fieldLink RX4 151 "TradeHall$Orders" "ends" "[I", Cond.methodLink RX4 120 yX4_needOwnOrder, Cond.instanceMethod yX4_needOwnOrder, Cond.selects RX4 yX4_needOwnOrder yX4_needOwnOrder, Cond.initialized RX4, Cond.code yX4_needOwnOrder cX4_needOwnOrder 3 none, Cond.fieldLink RX4 198 "TradeHall$Orders" "account" "[I", Cond.methodLink RX4 43 yX4_needAccount, Cond.static yX4_needAccount, Cond.code yX4_needAccount cX4_needAccount 1 none, Cond.classLink RX4 179 "java/lang/IndexOutOfBoundsException", Cond.initialized "java/lang/IndexOutOfBoundsException", Cond.methodLink RX4 195 yX4_needOrder, Cond.instanceMethod yX4_needOrder, Cond.selects RX4 yX4_needOrder yX4_needOrder, Cond.code yX4_needOrder cX4_needOrder 2 none, Cond.fieldLink RX4 100 "TradeHall$Orders" "taken" "I", Cond.methodLink RX4 123 yX4_needThere]
def wsX4_until_r2 : List Cond := [Cond.instanceMethod yX4_needThere, Cond.selects RX4 yX4_needThere yX4_needThere, Cond.code yX4_needThere cX4_needThere 2 none, Cond.methodLink RX4 154 yX2_isThere, Cond.instanceMethod yX2_isThere, Cond.selects RX2 yX2_isThere yX2_isThere, Cond.initialized RX2, Cond.code yX2_isThere cX2_isThere 2 (some .boolean), Cond.fieldLink RX2 36 "TradeHall$Orders" "state" "[I"]
def wsX4_until : List Cond := .code yX4_until cX4_until 4 none :: ((wsX4_until_r1 ++ wsX4_until_r2) ++ wsX40 ++ wsX20 ++ (vx_atS RX4 136 "java/lang/IllegalArgumentException" ["java/lang/RuntimeException", "java/lang/Exception"]).filter goodWord ++ (vx_atS RX4 62 "java/lang/IllegalStateException" ["java/lang/RuntimeException", "java/lang/Exception"]).filter goodWord ++ (vx_atS RX4 183 "java/lang/IndexOutOfBoundsException" ["java/lang/RuntimeException", "java/lang/Exception"]).filter goodWord)
def wsX4_pass_r1 : List Cond := [Cond.constant RX4 77 (1000000), Cond.fieldLink RX4 39 "TradeHall" "now" "I", Cond.fieldLink RX4 19 "TradeHall" "orders" "LTradeHall$Orders;", Cond.fieldLink RX4 100 "TradeHall$Orders" "taken" "I", Cond.fieldLink RX4 151 "TradeHall$Orders" "ends" "[I", Cond.methodLink RX4 48 yX4_needWithin, Cond.static yX4_needWithin, Cond.initialized RX4, Cond.code yX4_needWithin cX4_needWithin 3 none, Cond.classLink RX4 132 "java/lang/IllegalArgumentException", Cond.initialized "java/lang/IllegalArgumentException", Cond.methodLink RX4 154 yX2_isThere, Cond.instanceMethod yX2_isThere, Cond.selects RX2 yX2_isThere yX2_isThere, Cond.initialized RX2, Cond.code yX2_isThere cX2_isThere 2 (some .boolean), Cond.fieldLink RX2 36 "TradeHall$Orders" "state" "[I", Cond.methodLink RX4 129 yX4_takeAway, Cond.instanceMethod yX4_takeAway, Cond.selects RX4 yX4_takeAway yX4_takeAway, Cond.code yX4_takeAway cX4_takeAway 2 none, Cond.fieldLink RX4 201 "TradeHall$Orders" "state" "[I", Cond.fieldLink RX4 28 "TradeHall" "books" "LTradeHall$Books;", Cond.methodLink RX4 338 yX0_drop]
def wsX4_pass_r2 : List Cond := [Cond.instanceMethod yX0_drop, Cond.selects RX0 yX0_drop yX0_drop, Cond.initialized RX0, Cond.code yX0_drop cX0_drop 7 none, Cond.fieldLink RX0 18 "TradeHall$Books" "orders" "LTradeHall$Orders;", Cond.fieldLink RX0 22 "TradeHall$Orders" "symbol" "[I", Cond.fieldLink RX0 27 "TradeHall$Orders" "side" "[I", Cond.fieldLink RX0 15 "TradeHall$Books" "sizes" "[I", Cond.fieldLink RX0 9 "TradeHall$Books" "rows" "[I", Cond.methodLink RX0 30 yX0_bookOf, Cond.static yX0_bookOf, Cond.code yX0_bookOf cX0_bookOf 2 (some .int), Cond.methodLink RX4 297 yX4_close, Cond.instanceMethod yX4_close, Cond.selects RX4 yX4_close yX4_close, Cond.code yX4_close cX4_close 3 none, Cond.fieldLink RX4 126 "TradeHall$Orders" "left" "[I", Cond.fieldLink RX4 139 "TradeHall$Orders" "shown" "[I", Cond.fieldLink RX4 97 "TradeHall$Orders" "there" "I", Cond.methodLink RX4 109 yX4_hold, Cond.instanceMethod yX4_hold, Cond.selects RX4 yX4_hold yX4_hold, Cond.code yX4_hold cX4_hold 4 none, Cond.fieldLink RX4 198 "TradeHall$Orders" "account" "[I"]
def wsX4_pass_r3 : List Cond := [Cond.fieldLink RX4 214 "TradeHall$Orders" "side" "[I", Cond.fieldLink RX4 10 "TradeHall" "ledger" "LTradeHall$Ledger;", Cond.fieldLink RX4 217 "TradeHall$Ledger" "cashHeld" "[J", Cond.fieldLink RX4 169 "TradeHall$Orders" "price" "[I", Cond.fieldLink RX4 222 "TradeHall$Ledger" "sharesHeld" "[I", Cond.fieldLink RX4 211 "TradeHall$Orders" "symbol" "[I", Cond.methodLink RX4 78 yX1_placeOf, Cond.static yX1_placeOf, Cond.initialized RX1, Cond.code yX1_placeOf cX1_placeOf 2 (some .int)]
def wsX4_pass : List Cond := .code yX4_pass cX4_pass 4 (some .int) :: ((wsX4_pass_r1 ++ (wsX4_pass_r2 ++ wsX4_pass_r3)) ++ wsX40 ++ wsX20 ++ wsX00 ++ wsX10 ++ (vx_atS RX4 136 "java/lang/IllegalArgumentException" ["java/lang/RuntimeException", "java/lang/Exception"]).filter goodWord)
def wsX4_best_r1 : List Cond := [Cond.classLink RX4 164 "java/util/NoSuchElementException", Cond.initialized "java/util/NoSuchElementException", Cond.fieldLink RX4 28 "TradeHall" "books" "LTradeHall$Books;", Cond.fieldLink RX4 19 "TradeHall" "orders" "LTradeHall$Orders;", Cond.fieldLink RX4 169 "TradeHall$Orders" "price" "[I", Cond.methodLink RX4 74 yX4_needSymbol, Cond.static yX4_needSymbol, Cond.initialized RX4, Cond.code yX4_needSymbol cX4_needSymbol 1 none, Cond.classLink RX4 179 "java/lang/IndexOutOfBoundsException", Cond.initialized "java/lang/IndexOutOfBoundsException", Cond.methodLink RX4 88 yX4_needSide, Cond.static yX4_needSide, Cond.code yX4_needSide cX4_needSide 1 none, Cond.classLink RX4 132 "java/lang/IllegalArgumentException", Cond.initialized "java/lang/IllegalArgumentException", Cond.methodLink RX4 158 yX0_bookOf, Cond.static yX0_bookOf, Cond.initialized RX0, Cond.code yX0_bookOf cX0_bookOf 2 (some .int), Cond.methodLink RX4 161 yX0_orderAt, Cond.instanceMethod yX0_orderAt, Cond.selects RX0 yX0_orderAt yX0_orderAt, Cond.code yX0_orderAt cX0_orderAt 3 (some .int)]
def wsX4_best_r2 : List Cond := [Cond.fieldLink RX0 15 "TradeHall$Books" "sizes" "[I", Cond.fieldLink RX0 9 "TradeHall$Books" "rows" "[I"]
def wsX4_best : List Cond := .code yX4_best cX4_best 4 (some .int) :: ((wsX4_best_r1 ++ wsX4_best_r2) ++ wsX40 ++ wsX20 ++ wsX00 ++ (vx_atS RX4 168 "java/util/NoSuchElementException" ["java/lang/RuntimeException", "java/lang/Exception"]).filter goodWord ++ (vx_atS RX4 183 "java/lang/IndexOutOfBoundsException" ["java/lang/RuntimeException", "java/lang/Exception"]).filter goodWord ++ (vx_atS RX4 136 "java/lang/IllegalArgumentException" ["java/lang/RuntimeException", "java/lang/Exception"]).filter goodWord)
def wsX4_depth_r1 : List Cond := [Cond.fieldLink RX4 28 "TradeHall" "books" "LTradeHall$Books;", Cond.methodLink RX4 74 yX4_needSymbol, Cond.static yX4_needSymbol, Cond.initialized RX4, Cond.code yX4_needSymbol cX4_needSymbol 1 none, Cond.classLink RX4 179 "java/lang/IndexOutOfBoundsException", Cond.initialized "java/lang/IndexOutOfBoundsException", Cond.methodLink RX4 88 yX4_needSide, Cond.static yX4_needSide, Cond.code yX4_needSide cX4_needSide 1 none, Cond.classLink RX4 132 "java/lang/IllegalArgumentException", Cond.initialized "java/lang/IllegalArgumentException", Cond.methodLink RX4 48 yX4_needWithin, Cond.static yX4_needWithin, Cond.code yX4_needWithin cX4_needWithin 3 none, Cond.methodLink RX4 158 yX0_bookOf, Cond.static yX0_bookOf, Cond.initialized RX0, Cond.code yX0_bookOf cX0_bookOf 2 (some .int), Cond.methodLink RX4 172 yX0_countPrices, Cond.instanceMethod yX0_countPrices, Cond.selects RX0 yX0_countPrices yX0_countPrices, Cond.code yX0_countPrices cX0_countPrices 6 (some .int), Cond.fieldLink RX0 15 "TradeHall$Books" "sizes" "[I"]
def wsX4_depth_r2 : List Cond := [Cond.fieldLink RX0 18 "TradeHall$Books" "orders" "LTradeHall$Orders;", Cond.fieldLink RX0 34 "TradeHall$Orders" "price" "[I", Cond.fieldLink RX0 9 "TradeHall$Books" "rows" "[I", Cond.methodLink RX4 175 yX0_sumShown, Cond.instanceMethod yX0_sumShown, Cond.selects RX0 yX0_sumShown yX0_sumShown, Cond.code yX0_sumShown cX0_sumShown 7 (some .int), Cond.fieldLink RX0 40 "TradeHall$Orders" "shown" "[I"]
def wsX4_depth : List Cond := .code yX4_depth cX4_depth 5 (some .int) :: ((wsX4_depth_r1 ++ wsX4_depth_r2) ++ wsX40 ++ wsX00 ++ wsX20 ++ (vx_atS RX4 183 "java/lang/IndexOutOfBoundsException" ["java/lang/RuntimeException", "java/lang/Exception"]).filter goodWord ++ (vx_atS RX4 136 "java/lang/IllegalArgumentException" ["java/lang/RuntimeException", "java/lang/Exception"]).filter goodWord)
def wsX4_level_r1 : List Cond := [Cond.classLink RX4 179 "java/lang/IndexOutOfBoundsException", Cond.initialized "java/lang/IndexOutOfBoundsException", Cond.classLink RX4 132 "java/lang/IllegalArgumentException", Cond.initialized "java/lang/IllegalArgumentException", Cond.fieldLink RX4 28 "TradeHall" "books" "LTradeHall$Books;", Cond.methodLink RX4 74 yX4_needSymbol, Cond.static yX4_needSymbol, Cond.initialized RX4, Cond.code yX4_needSymbol cX4_needSymbol 1 none, Cond.methodLink RX4 88 yX4_needSide, Cond.static yX4_needSide, Cond.code yX4_needSide cX4_needSide 1 none, Cond.methodLink RX4 158 yX0_bookOf, Cond.static yX0_bookOf, Cond.initialized RX0, Cond.code yX0_bookOf cX0_bookOf 2 (some .int), Cond.methodLink RX4 184 yX0_priceOfLevel, Cond.instanceMethod yX0_priceOfLevel, Cond.selects RX0 yX0_priceOfLevel yX0_priceOfLevel, Cond.code yX0_priceOfLevel cX0_priceOfLevel 7 (some .int), Cond.fieldLink RX0 15 "TradeHall$Books" "sizes" "[I", Cond.fieldLink RX0 18 "TradeHall$Books" "orders" "LTradeHall$Orders;", Cond.fieldLink RX0 34 "TradeHall$Orders" "price" "[I", Cond.fieldLink RX0 9 "TradeHall$Books" "rows" "[I"]
def wsX4_level_r2 : List Cond := [Cond.methodLink RX4 187 yX0_countOrders, Cond.instanceMethod yX0_countOrders, Cond.selects RX0 yX0_countOrders yX0_countOrders, Cond.code yX0_countOrders cX0_countOrders 5 (some .int), Cond.methodLink RX4 190 yX0_sumLeft, Cond.instanceMethod yX0_sumLeft, Cond.selects RX0 yX0_sumLeft yX0_sumLeft, Cond.code yX0_sumLeft cX0_sumLeft 6 (some .int), Cond.fieldLink RX0 37 "TradeHall$Orders" "left" "[I"]
def wsX4_level : List Cond := .code yX4_level cX4_level 7 (some .int) :: ((wsX4_level_r1 ++ wsX4_level_r2) ++ wsX40 ++ wsX00 ++ wsX20 ++ (vx_atS RX4 183 "java/lang/IndexOutOfBoundsException" ["java/lang/RuntimeException", "java/lang/Exception"]).filter goodWord ++ (vx_atS RX4 136 "java/lang/IllegalArgumentException" ["java/lang/RuntimeException", "java/lang/Exception"]).filter goodWord)
def wsX4_about : List Cond := .code yX4_about cX4_about 3 (some .int) :: ([.classLink RX4 132 "java/lang/IllegalArgumentException", .initialized "java/lang/IllegalArgumentException", .fieldLink RX4 19 "TradeHall" "orders" "LTradeHall$Orders;", .fieldLink RX4 198 "TradeHall$Orders" "account" "[I", .fieldLink RX4 126 "TradeHall$Orders" "left" "[I", .fieldLink RX4 139 "TradeHall$Orders" "shown" "[I", .fieldLink RX4 201 "TradeHall$Orders" "state" "[I", .fieldLink RX4 151 "TradeHall$Orders" "ends" "[I", .fieldLink RX4 204 "TradeHall$Orders" "traded" "[I", .methodLink RX4 195 yX4_needOrder, .instanceMethod yX4_needOrder, .selects RX4 yX4_needOrder yX4_needOrder, .initialized RX4, .code yX4_needOrder cX4_needOrder 2 none, .classLink RX4 179 "java/lang/IndexOutOfBoundsException", .initialized "java/lang/IndexOutOfBoundsException", .fieldLink RX4 100 "TradeHall$Orders" "taken" "I"] ++ wsX40 ++ wsX20 ++ (vx_atS RX4 136 "java/lang/IllegalArgumentException" ["java/lang/RuntimeException", "java/lang/Exception"]).filter goodWord ++ (vx_atS RX4 183 "java/lang/IndexOutOfBoundsException" ["java/lang/RuntimeException", "java/lang/Exception"]).filter goodWord)
def wsX4_ahead_r1 : List Cond := [Cond.classLink RX4 164 "java/util/NoSuchElementException", Cond.initialized "java/util/NoSuchElementException", Cond.fieldLink RX4 19 "TradeHall" "orders" "LTradeHall$Orders;", Cond.fieldLink RX4 201 "TradeHall$Orders" "state" "[I", Cond.fieldLink RX4 211 "TradeHall$Orders" "symbol" "[I", Cond.fieldLink RX4 214 "TradeHall$Orders" "side" "[I", Cond.fieldLink RX4 28 "TradeHall" "books" "LTradeHall$Books;", Cond.fieldLink RX4 169 "TradeHall$Orders" "price" "[I", Cond.methodLink RX4 195 yX4_needOrder, Cond.instanceMethod yX4_needOrder, Cond.selects RX4 yX4_needOrder yX4_needOrder, Cond.initialized RX4, Cond.code yX4_needOrder cX4_needOrder 2 none, Cond.classLink RX4 179 "java/lang/IndexOutOfBoundsException", Cond.initialized "java/lang/IndexOutOfBoundsException", Cond.fieldLink RX4 100 "TradeHall$Orders" "taken" "I", Cond.methodLink RX4 158 yX0_bookOf, Cond.static yX0_bookOf, Cond.initialized RX0, Cond.code yX0_bookOf cX0_bookOf 2 (some .int), Cond.methodLink RX4 175 yX0_sumShown, Cond.instanceMethod yX0_sumShown, Cond.selects RX0 yX0_sumShown yX0_sumShown, Cond.code yX0_sumShown cX0_sumShown 7 (some .int)]
def wsX4_ahead_r2 : List Cond := [Cond.fieldLink RX0 15 "TradeHall$Books" "sizes" "[I", Cond.fieldLink RX0 9 "TradeHall$Books" "rows" "[I", Cond.fieldLink RX0 18 "TradeHall$Books" "orders" "LTradeHall$Orders;", Cond.fieldLink RX0 34 "TradeHall$Orders" "price" "[I", Cond.fieldLink RX0 40 "TradeHall$Orders" "shown" "[I"]
def wsX4_ahead : List Cond := .code yX4_ahead cX4_ahead 3 (some .int) :: ((wsX4_ahead_r1 ++ wsX4_ahead_r2) ++ wsX40 ++ wsX20 ++ wsX00 ++ (vx_atS RX4 168 "java/util/NoSuchElementException" ["java/lang/RuntimeException", "java/lang/Exception"]).filter goodWord ++ (vx_atS RX4 183 "java/lang/IndexOutOfBoundsException" ["java/lang/RuntimeException", "java/lang/Exception"]).filter goodWord)
def wsX4_cash : List Cond := .code yX4_cash cX4_cash 3 (some .long) :: ([.classLink RX4 132 "java/lang/IllegalArgumentException", .initialized "java/lang/IllegalArgumentException", .fieldLink RX4 10 "TradeHall" "ledger" "LTradeHall$Ledger;", .fieldLink RX4 52 "TradeHall$Ledger" "cashOf" "[J", .fieldLink RX4 217 "TradeHall$Ledger" "cashHeld" "[J", .methodLink RX4 43 yX4_needAccount, .static yX4_needAccount, .initialized RX4, .code yX4_needAccount cX4_needAccount 1 none, .classLink RX4 179 "java/lang/IndexOutOfBoundsException", .initialized "java/lang/IndexOutOfBoundsException"] ++ wsX40 ++ wsX10 ++ (vx_atS RX4 136 "java/lang/IllegalArgumentException" ["java/lang/RuntimeException", "java/lang/Exception"]).filter goodWord ++ (vx_atS RX4 183 "java/lang/IndexOutOfBoundsException" ["java/lang/RuntimeException", "java/lang/Exception"]).filter goodWord)
def wsX4_shares : List Cond := .code yX4_shares cX4_shares 5 (some .int) :: ([.classLink RX4 132 "java/lang/IllegalArgumentException", .initialized "java/lang/IllegalArgumentException", .fieldLink RX4 10 "TradeHall" "ledger" "LTradeHall$Ledger;", .fieldLink RX4 82 "TradeHall$Ledger" "sharesOf" "[I", .fieldLink RX4 222 "TradeHall$Ledger" "sharesHeld" "[I", .fieldLink RX4 225 "TradeHall$Ledger" "bought" "[I", .fieldLink RX4 228 "TradeHall$Ledger" "sold" "[I", .methodLink RX4 43 yX4_needAccount, .static yX4_needAccount, .initialized RX4, .code yX4_needAccount cX4_needAccount 1 none, .classLink RX4 179 "java/lang/IndexOutOfBoundsException", .initialized "java/lang/IndexOutOfBoundsException", .methodLink RX4 74 yX4_needSymbol, .static yX4_needSymbol, .code yX4_needSymbol cX4_needSymbol 1 none, .methodLink RX4 78 yX1_placeOf, .static yX1_placeOf, .initialized RX1, .code yX1_placeOf cX1_placeOf 2 (some .int)] ++ wsX40 ++ wsX10 ++ (vx_atS RX4 136 "java/lang/IllegalArgumentException" ["java/lang/RuntimeException", "java/lang/Exception"]).filter goodWord ++ (vx_atS RX4 183 "java/lang/IndexOutOfBoundsException" ["java/lang/RuntimeException", "java/lang/Exception"]).filter goodWord)
def wsX4_count : List Cond := .code yX4_count cX4_count 2 (some .int) :: ([.classLink RX4 132 "java/lang/IllegalArgumentException", .initialized "java/lang/IllegalArgumentException", .fieldLink RX4 35 "TradeHall" "tape" "LTradeHall$Tape;", .fieldLink RX4 233 "TradeHall$Tape" "trades" "I", .fieldLink RX4 19 "TradeHall" "orders" "LTradeHall$Orders;", .fieldLink RX4 100 "TradeHall$Orders" "taken" "I", .fieldLink RX4 97 "TradeHall$Orders" "there" "I", .fieldLink RX4 10 "TradeHall" "ledger" "LTradeHall$Ledger;", .fieldLink RX4 236 "TradeHall$Ledger" "knownCount" "I", .fieldLink RX4 39 "TradeHall" "now" "I"] ++ wsX40 ++ wsX30 ++ wsX20 ++ wsX10 ++ (vx_atS RX4 136 "java/lang/IllegalArgumentException" ["java/lang/RuntimeException", "java/lang/Exception"]).filter goodWord)
def wsX4_trade : List Cond := .code yX4_trade cX4_trade 3 (some .int) :: ([.classLink RX4 179 "java/lang/IndexOutOfBoundsException", .initialized "java/lang/IndexOutOfBoundsException", .classLink RX4 132 "java/lang/IllegalArgumentException", .initialized "java/lang/IllegalArgumentException", .fieldLink RX4 35 "TradeHall" "tape" "LTradeHall$Tape;", .fieldLink RX4 233 "TradeHall$Tape" "trades" "I", .fieldLink RX4 243 "TradeHall$Tape" "came" "[I", .fieldLink RX4 246 "TradeHall$Tape" "rested" "[I", .fieldLink RX4 249 "TradeHall$Tape" "price" "[I", .fieldLink RX4 250 "TradeHall$Tape" "amount" "[I"] ++ wsX40 ++ wsX30 ++ (vx_atS RX4 183 "java/lang/IndexOutOfBoundsException" ["java/lang/RuntimeException", "java/lang/Exception"]).filter goodWord ++ (vx_atS RX4 136 "java/lang/IllegalArgumentException" ["java/lang/RuntimeException", "java/lang/Exception"]).filter goodWord)
def wsX4_symbol : List Cond := .code yX4_symbol cX4_symbol 3 (some .int) :: ([.classLink RX4 132 "java/lang/IllegalArgumentException", .initialized "java/lang/IllegalArgumentException", .fieldLink RX4 35 "TradeHall" "tape" "LTradeHall$Tape;", .fieldLink RX4 255 "TradeHall$Tape" "last" "[I", .fieldLink RX4 258 "TradeHall$Tape" "greatest" "[I", .fieldLink RX4 261 "TradeHall$Tape" "least" "[I", .fieldLink RX4 264 "TradeHall$Tape" "volume" "[I", .methodLink RX4 74 yX4_needSymbol, .static yX4_needSymbol, .initialized RX4, .code yX4_needSymbol cX4_needSymbol 1 none, .classLink RX4 179 "java/lang/IndexOutOfBoundsException", .initialized "java/lang/IndexOutOfBoundsException"] ++ wsX40 ++ wsX30 ++ (vx_atS RX4 136 "java/lang/IllegalArgumentException" ["java/lang/RuntimeException", "java/lang/Exception"]).filter goodWord ++ (vx_atS RX4 183 "java/lang/IndexOutOfBoundsException" ["java/lang/RuntimeException", "java/lang/Exception"]).filter goodWord)
def wsX4_busiest : List Cond := .code yX4_busiest cX4_busiest 4 (some .int) :: ([.classLink RX4 179 "java/lang/IndexOutOfBoundsException", .initialized "java/lang/IndexOutOfBoundsException", .fieldLink RX4 10 "TradeHall" "ledger" "LTradeHall$Ledger;", .methodLink RX4 74 yX4_needSymbol, .static yX4_needSymbol, .initialized RX4, .code yX4_needSymbol cX4_needSymbol 1 none, .methodLink RX4 269 yX1_turnover, .instanceMethod yX1_turnover, .selects RX1 yX1_turnover yX1_turnover, .initialized RX1, .code yX1_turnover cX1_turnover 4 (some .int), .fieldLink RX1 25 "TradeHall$Ledger" "bought" "[I", .fieldLink RX1 28 "TradeHall$Ledger" "sold" "[I", .methodLink RX1 43 yX1_placeOf, .static yX1_placeOf, .code yX1_placeOf cX1_placeOf 2 (some .int), .methodLink RX4 272 yX1_countBusier, .instanceMethod yX1_countBusier, .selects RX1 yX1_countBusier yX1_countBusier, .code yX1_countBusier cX1_countBusier 7 (some .int), .methodLink RX1 47 yX1_turnover] ++ wsX40 ++ wsX10 ++ (vx_atS RX4 183 "java/lang/IndexOutOfBoundsException" ["java/lang/RuntimeException", "java/lang/Exception"]).filter goodWord)
def wsX5_init_r1 : List Cond := [Cond.methodLink RX5 1 objectInit, Cond.instanceMethod objectInit, Cond.code objectInit ⟨#[0xb1]⟩ 1 none, Cond.arrayClass .long, Cond.fieldLink RX5 7 "TradeHallModel" "cash" "[J", Cond.fieldLink RX5 13 "TradeHallModel" "held" "[J", Cond.arrayClass .int, Cond.fieldLink RX5 16 "TradeHallModel" "shares" "[I", Cond.fieldLink RX5 20 "TradeHallModel" "heldShares" "[I", Cond.fieldLink RX5 23 "TradeHallModel" "bought" "[I", Cond.fieldLink RX5 26 "TradeHallModel" "sold" "[I", Cond.arrayClass .boolean, Cond.fieldLink RX5 29 "TradeHallModel" "had" "[Z", Cond.fieldLink RX5 33 "TradeHallModel" "accounts" "[I", Cond.fieldLink RX5 36 "TradeHallModel" "symbols" "[I", Cond.fieldLink RX5 39 "TradeHallModel" "sides" "[I", Cond.fieldLink RX5 42 "TradeHallModel" "kinds" "[I", Cond.fieldLink RX5 45 "TradeHallModel" "prices" "[I", Cond.fieldLink RX5 48 "TradeHallModel" "left" "[I", Cond.fieldLink RX5 51 "TradeHallModel" "shown" "[I", Cond.fieldLink RX5 54 "TradeHallModel" "extras" "[I", Cond.fieldLink RX5 57 "TradeHallModel" "states" "[I", Cond.fieldLink RX5 60 "TradeHallModel" "ends" "[I", Cond.fieldLink RX5 63 "TradeHallModel" "done" "[I"]
def wsX5_init_r2 : List Cond := [Cond.fieldLink RX5 66 "TradeHallModel" "turns" "[I", Cond.fieldLink RX5 69 "TradeHallModel" "tryLeft" "[I", Cond.fieldLink RX5 72 "TradeHallModel" "tryShown" "[I", Cond.fieldLink RX5 75 "TradeHallModel" "tryTurns" "[I", Cond.fieldLink RX5 78 "TradeHallModel" "tradeCells" "[I", Cond.fieldLink RX5 81 "TradeHallModel" "lasts" "[I", Cond.fieldLink RX5 84 "TradeHallModel" "greatest" "[I", Cond.fieldLink RX5 87 "TradeHallModel" "least" "[I", Cond.fieldLink RX5 90 "TradeHallModel" "volumes" "[I"]
def wsX5_init : List Cond := .code yX5_init cX5_init 1 none :: ((wsX5_init_r1 ++ wsX5_init_r2) ++ wsX50)
def wsX5_thrown : List Cond := .code yX5_thrown cX5_thrown 1 (some .int) :: ([.fieldLink RX5 93 "TradeHallModel" "thrown" "I"] ++ wsX50)
def wsX5_isIn : List Cond := .code yX5_isIn cX5_isIn 3 (some .boolean) :: ([])
def wsX5_isAccount : List Cond := .code yX5_isAccount cX5_isAccount 1 (some .boolean) :: ([.methodLink RX5 97 yX5_isIn, .static yX5_isIn, .initialized RX5, .code yX5_isIn cX5_isIn 3 (some .boolean)])
def wsX5_isSymbol : List Cond := .code yX5_isSymbol cX5_isSymbol 1 (some .boolean) :: ([.methodLink RX5 97 yX5_isIn, .static yX5_isIn, .initialized RX5, .code yX5_isIn cX5_isIn 3 (some .boolean)])
def wsX5_deposit : List Cond := .code yX5_deposit cX5_deposit 3 (some .long) :: ([.constant RX5 105 (1000000000), .fieldLink RX5 7 "TradeHallModel" "cash" "[J", .constantLong RX5 106 (1000000000000000), .fieldLink RX5 93 "TradeHallModel" "thrown" "I", .fieldLink RX5 29 "TradeHallModel" "had" "[Z", .methodLink RX5 101 yX5_isAccount, .static yX5_isAccount, .initialized RX5, .code yX5_isAccount cX5_isAccount 1 (some .boolean), .methodLink RX5 97 yX5_isIn, .static yX5_isIn, .code yX5_isIn cX5_isIn 3 (some .boolean)] ++ wsX50)
def wsX5_withdraw : List Cond := .code yX5_withdraw cX5_withdraw 3 (some .long) :: ([.constant RX5 105 (1000000000), .fieldLink RX5 7 "TradeHallModel" "cash" "[J", .fieldLink RX5 13 "TradeHallModel" "held" "[J", .fieldLink RX5 93 "TradeHallModel" "thrown" "I", .methodLink RX5 101 yX5_isAccount, .static yX5_isAccount, .initialized RX5, .code yX5_isAccount cX5_isAccount 1 (some .boolean), .methodLink RX5 97 yX5_isIn, .static yX5_isIn, .code yX5_isIn cX5_isIn 3 (some .boolean)] ++ wsX50)
def wsX5_cell : List Cond := .code yX5_cell cX5_cell 2 (some .int) :: ([])
def wsX5_grant : List Cond := .code yX5_grant cX5_grant 5 (some .int) :: ([.constant RX5 111 (1000000), .fieldLink RX5 16 "TradeHallModel" "shares" "[I", .constant RX5 105 (1000000000), .fieldLink RX5 93 "TradeHallModel" "thrown" "I", .fieldLink RX5 29 "TradeHallModel" "had" "[Z", .methodLink RX5 101 yX5_isAccount, .static yX5_isAccount, .initialized RX5, .code yX5_isAccount cX5_isAccount 1 (some .boolean), .methodLink RX5 97 yX5_isIn, .static yX5_isIn, .code yX5_isIn cX5_isIn 3 (some .boolean), .methodLink RX5 108 yX5_isSymbol, .static yX5_isSymbol, .code yX5_isSymbol cX5_isSymbol 1 (some .boolean), .methodLink RX5 112 yX5_cell, .static yX5_cell, .code yX5_cell cX5_cell 2 (some .int)] ++ wsX50)
def wsX5_isThere : List Cond := .code yX5_isThere cX5_isThere 2 (some .boolean) :: ([.fieldLink RX5 57 "TradeHallModel" "states" "[I"] ++ wsX50)
def wsX5_there : List Cond := .code yX5_there cX5_there 3 (some .int) :: ([.fieldLink RX5 116 "TradeHallModel" "orders" "I", .methodLink RX5 119 yX5_isThere, .instanceMethod yX5_isThere, .selects RX5 yX5_isThere yX5_isThere, .initialized RX5, .code yX5_isThere cX5_isThere 2 (some .boolean), .fieldLink RX5 57 "TradeHallModel" "states" "[I"] ++ wsX50)
def wsX5_rests : List Cond := .code yX5_rests cX5_rests 4 (some .boolean) :: ([.fieldLink RX5 57 "TradeHallModel" "states" "[I", .fieldLink RX5 36 "TradeHallModel" "symbols" "[I", .fieldLink RX5 39 "TradeHallModel" "sides" "[I"] ++ wsX50)
def wsX5_isBetter : List Cond := .code yX5_isBetter cX5_isBetter 3 (some .boolean) :: ([])
def wsX5_first : List Cond := .code yX5_first cX5_first 5 (some .int) :: ([.fieldLink RX5 116 "TradeHallModel" "orders" "I", .fieldLink RX5 45 "TradeHallModel" "prices" "[I", .fieldLink RX5 66 "TradeHallModel" "turns" "[I", .methodLink RX5 122 yX5_rests, .instanceMethod yX5_rests, .selects RX5 yX5_rests yX5_rests, .initialized RX5, .code yX5_rests cX5_rests 4 (some .boolean), .fieldLink RX5 57 "TradeHallModel" "states" "[I", .fieldLink RX5 36 "TradeHallModel" "symbols" "[I", .fieldLink RX5 39 "TradeHallModel" "sides" "[I", .methodLink RX5 125 yX5_isBetter, .static yX5_isBetter, .code yX5_isBetter cX5_isBetter 3 (some .boolean)] ++ wsX50)
def wsX5_allows : List Cond := .code yX5_allows cX5_allows 3 (some .boolean) :: ([.fieldLink RX5 39 "TradeHallModel" "sides" "[I", .fieldLink RX5 45 "TradeHallModel" "prices" "[I"] ++ wsX50)
def wsX5_free : List Cond := .code yX5_free cX5_free 4 none :: ([.fieldLink RX5 33 "TradeHallModel" "accounts" "[I", .fieldLink RX5 39 "TradeHallModel" "sides" "[I", .fieldLink RX5 13 "TradeHallModel" "held" "[J", .fieldLink RX5 45 "TradeHallModel" "prices" "[I", .fieldLink RX5 20 "TradeHallModel" "heldShares" "[I", .fieldLink RX5 36 "TradeHallModel" "symbols" "[I", .methodLink RX5 112 yX5_cell, .static yX5_cell, .initialized RX5, .code yX5_cell cX5_cell 2 (some .int)] ++ wsX50)
def wsX5_cancelled : List Cond := .code yX5_cancelled cX5_cancelled 2 none :: ([.fieldLink RX5 48 "TradeHallModel" "left" "[I", .fieldLink RX5 51 "TradeHallModel" "shown" "[I", .fieldLink RX5 57 "TradeHallModel" "states" "[I", .methodLink RX5 128 yX5_free, .instanceMethod yX5_free, .selects RX5 yX5_free yX5_free, .initialized RX5, .code yX5_free cX5_free 4 none, .fieldLink RX5 33 "TradeHallModel" "accounts" "[I", .fieldLink RX5 39 "TradeHallModel" "sides" "[I", .fieldLink RX5 13 "TradeHallModel" "held" "[J", .fieldLink RX5 45 "TradeHallModel" "prices" "[I", .fieldLink RX5 20 "TradeHallModel" "heldShares" "[I", .fieldLink RX5 36 "TradeHallModel" "symbols" "[I", .methodLink RX5 112 yX5_cell, .static yX5_cell, .code yX5_cell cX5_cell 2 (some .int)] ++ wsX50)
def wsX5_exchange : List Cond := .code yX5_exchange cX5_exchange 8 none :: ([.fieldLink RX5 36 "TradeHallModel" "symbols" "[I", .fieldLink RX5 45 "TradeHallModel" "prices" "[I", .fieldLink RX5 39 "TradeHallModel" "sides" "[I", .fieldLink RX5 33 "TradeHallModel" "accounts" "[I", .fieldLink RX5 7 "TradeHallModel" "cash" "[J", .fieldLink RX5 16 "TradeHallModel" "shares" "[I", .fieldLink RX5 23 "TradeHallModel" "bought" "[I", .fieldLink RX5 26 "TradeHallModel" "sold" "[I", .fieldLink RX5 132 "TradeHallModel" "trades" "I", .fieldLink RX5 78 "TradeHallModel" "tradeCells" "[I", .fieldLink RX5 81 "TradeHallModel" "lasts" "[I", .fieldLink RX5 84 "TradeHallModel" "greatest" "[I", .fieldLink RX5 87 "TradeHallModel" "least" "[I", .fieldLink RX5 90 "TradeHallModel" "volumes" "[I", .methodLink RX5 128 yX5_free, .instanceMethod yX5_free, .selects RX5 yX5_free yX5_free, .initialized RX5, .code yX5_free cX5_free 4 none, .fieldLink RX5 13 "TradeHallModel" "held" "[J", .fieldLink RX5 20 "TradeHallModel" "heldShares" "[I", .methodLink RX5 112 yX5_cell, .static yX5_cell, .code yX5_cell cX5_cell 2 (some .int)] ++ wsX50)
def wsX5_match_r1 : List Cond := [Cond.fieldLink RX5 36 "TradeHallModel" "symbols" "[I", Cond.fieldLink RX5 39 "TradeHallModel" "sides" "[I", Cond.fieldLink RX5 48 "TradeHallModel" "left" "[I", Cond.fieldLink RX5 33 "TradeHallModel" "accounts" "[I", Cond.fieldLink RX5 51 "TradeHallModel" "shown" "[I", Cond.fieldLink RX5 63 "TradeHallModel" "done" "[I", Cond.fieldLink RX5 57 "TradeHallModel" "states" "[I", Cond.fieldLink RX5 54 "TradeHallModel" "extras" "[I", Cond.fieldLink RX5 66 "TradeHallModel" "turns" "[I", Cond.fieldLink RX5 146 "TradeHallModel" "nextTurn" "I", Cond.methodLink RX5 135 yX5_first, Cond.instanceMethod yX5_first, Cond.selects RX5 yX5_first yX5_first, Cond.initialized RX5, Cond.code yX5_first cX5_first 5 (some .int), Cond.fieldLink RX5 116 "TradeHallModel" "orders" "I", Cond.fieldLink RX5 45 "TradeHallModel" "prices" "[I", Cond.methodLink RX5 122 yX5_rests, Cond.instanceMethod yX5_rests, Cond.selects RX5 yX5_rests yX5_rests, Cond.code yX5_rests cX5_rests 4 (some .boolean), Cond.methodLink RX5 125 yX5_isBetter, Cond.static yX5_isBetter, Cond.code yX5_isBetter cX5_isBetter 3 (some .boolean)]
def wsX5_match_r2 : List Cond := [Cond.methodLink RX5 138 yX5_allows, Cond.instanceMethod yX5_allows, Cond.selects RX5 yX5_allows yX5_allows, Cond.code yX5_allows cX5_allows 3 (some .boolean), Cond.methodLink RX5 142 yX5_exchange, Cond.instanceMethod yX5_exchange, Cond.selects RX5 yX5_exchange yX5_exchange, Cond.code yX5_exchange cX5_exchange 8 none, Cond.fieldLink RX5 7 "TradeHallModel" "cash" "[J", Cond.fieldLink RX5 16 "TradeHallModel" "shares" "[I", Cond.fieldLink RX5 23 "TradeHallModel" "bought" "[I", Cond.fieldLink RX5 26 "TradeHallModel" "sold" "[I", Cond.fieldLink RX5 132 "TradeHallModel" "trades" "I", Cond.fieldLink RX5 78 "TradeHallModel" "tradeCells" "[I", Cond.fieldLink RX5 81 "TradeHallModel" "lasts" "[I", Cond.fieldLink RX5 84 "TradeHallModel" "greatest" "[I", Cond.fieldLink RX5 87 "TradeHallModel" "least" "[I", Cond.fieldLink RX5 90 "TradeHallModel" "volumes" "[I", Cond.methodLink RX5 128 yX5_free, Cond.instanceMethod yX5_free, Cond.selects RX5 yX5_free yX5_free, Cond.code yX5_free cX5_free 4 none, Cond.fieldLink RX5 13 "TradeHallModel" "held" "[J", Cond.fieldLink RX5 20 "TradeHallModel" "heldShares" "[I"]
def wsX5_match_r3 : List Cond := [Cond.methodLink RX5 112 yX5_cell, Cond.static yX5_cell, Cond.code yX5_cell cX5_cell 2 (some .int)]
def wsX5_match : List Cond := .code yX5_match cX5_match 5 (some .boolean) :: ((wsX5_match_r1 ++ (wsX5_match_r2 ++ wsX5_match_r3)) ++ wsX50)
def wsX5_wouldTrade_r1 : List Cond := [Cond.fieldLink RX5 116 "TradeHallModel" "orders" "I", Cond.fieldLink RX5 69 "TradeHallModel" "tryLeft" "[I", Cond.fieldLink RX5 48 "TradeHallModel" "left" "[I", Cond.fieldLink RX5 72 "TradeHallModel" "tryShown" "[I", Cond.fieldLink RX5 51 "TradeHallModel" "shown" "[I", Cond.fieldLink RX5 75 "TradeHallModel" "tryTurns" "[I", Cond.fieldLink RX5 66 "TradeHallModel" "turns" "[I", Cond.fieldLink RX5 146 "TradeHallModel" "nextTurn" "I", Cond.fieldLink RX5 36 "TradeHallModel" "symbols" "[I", Cond.fieldLink RX5 39 "TradeHallModel" "sides" "[I", Cond.fieldLink RX5 45 "TradeHallModel" "prices" "[I", Cond.fieldLink RX5 33 "TradeHallModel" "accounts" "[I", Cond.fieldLink RX5 54 "TradeHallModel" "extras" "[I", Cond.methodLink RX5 122 yX5_rests, Cond.instanceMethod yX5_rests, Cond.selects RX5 yX5_rests yX5_rests, Cond.initialized RX5, Cond.code yX5_rests cX5_rests 4 (some .boolean), Cond.fieldLink RX5 57 "TradeHallModel" "states" "[I", Cond.methodLink RX5 125 yX5_isBetter, Cond.static yX5_isBetter, Cond.code yX5_isBetter cX5_isBetter 3 (some .boolean), Cond.methodLink RX5 138 yX5_allows, Cond.instanceMethod yX5_allows]
def wsX5_wouldTrade_r2 : List Cond := [Cond.selects RX5 yX5_allows yX5_allows, Cond.code yX5_allows cX5_allows 3 (some .boolean)]
def wsX5_wouldTrade : List Cond := .code yX5_wouldTrade cX5_wouldTrade 7 (some .boolean) :: ((wsX5_wouldTrade_r1 ++ wsX5_wouldTrade_r2) ++ wsX50)
def wsX5_rest : List Cond := .code yX5_rest cX5_rest 2 none :: ([.fieldLink RX5 57 "TradeHallModel" "states" "[I", .fieldLink RX5 51 "TradeHallModel" "shown" "[I", .fieldLink RX5 42 "TradeHallModel" "kinds" "[I", .fieldLink RX5 54 "TradeHallModel" "extras" "[I", .fieldLink RX5 48 "TradeHallModel" "left" "[I", .fieldLink RX5 66 "TradeHallModel" "turns" "[I", .fieldLink RX5 146 "TradeHallModel" "nextTurn" "I"] ++ wsX50)
def wsX5_finish_r1 : List Cond := [Cond.fieldLink RX5 48 "TradeHallModel" "left" "[I", Cond.fieldLink RX5 57 "TradeHallModel" "states" "[I", Cond.methodLink RX5 149 yX5_rest, Cond.instanceMethod yX5_rest, Cond.selects RX5 yX5_rest yX5_rest, Cond.initialized RX5, Cond.code yX5_rest cX5_rest 2 none, Cond.fieldLink RX5 51 "TradeHallModel" "shown" "[I", Cond.fieldLink RX5 42 "TradeHallModel" "kinds" "[I", Cond.fieldLink RX5 54 "TradeHallModel" "extras" "[I", Cond.fieldLink RX5 66 "TradeHallModel" "turns" "[I", Cond.fieldLink RX5 146 "TradeHallModel" "nextTurn" "I", Cond.methodLink RX5 153 yX5_cancelled, Cond.instanceMethod yX5_cancelled, Cond.selects RX5 yX5_cancelled yX5_cancelled, Cond.code yX5_cancelled cX5_cancelled 2 none, Cond.methodLink RX5 128 yX5_free, Cond.instanceMethod yX5_free, Cond.selects RX5 yX5_free yX5_free, Cond.code yX5_free cX5_free 4 none, Cond.fieldLink RX5 33 "TradeHallModel" "accounts" "[I", Cond.fieldLink RX5 39 "TradeHallModel" "sides" "[I", Cond.fieldLink RX5 13 "TradeHallModel" "held" "[J", Cond.fieldLink RX5 45 "TradeHallModel" "prices" "[I"]
def wsX5_finish_r2 : List Cond := [Cond.fieldLink RX5 20 "TradeHallModel" "heldShares" "[I", Cond.fieldLink RX5 36 "TradeHallModel" "symbols" "[I", Cond.methodLink RX5 112 yX5_cell, Cond.static yX5_cell, Cond.code yX5_cell cX5_cell 2 (some .int)]
def wsX5_finish : List Cond := .code yX5_finish cX5_finish 3 none :: ((wsX5_finish_r1 ++ wsX5_finish_r2) ++ wsX50)
def wsX5_act_r1 : List Cond := [Cond.fieldLink RX5 42 "TradeHallModel" "kinds" "[I", Cond.fieldLink RX5 36 "TradeHallModel" "symbols" "[I", Cond.fieldLink RX5 39 "TradeHallModel" "sides" "[I", Cond.fieldLink RX5 57 "TradeHallModel" "states" "[I", Cond.methodLink RX5 135 yX5_first, Cond.instanceMethod yX5_first, Cond.selects RX5 yX5_first yX5_first, Cond.initialized RX5, Cond.code yX5_first cX5_first 5 (some .int), Cond.fieldLink RX5 116 "TradeHallModel" "orders" "I", Cond.fieldLink RX5 45 "TradeHallModel" "prices" "[I", Cond.fieldLink RX5 66 "TradeHallModel" "turns" "[I", Cond.methodLink RX5 122 yX5_rests, Cond.instanceMethod yX5_rests, Cond.selects RX5 yX5_rests yX5_rests, Cond.code yX5_rests cX5_rests 4 (some .boolean), Cond.methodLink RX5 125 yX5_isBetter, Cond.static yX5_isBetter, Cond.code yX5_isBetter cX5_isBetter 3 (some .boolean), Cond.methodLink RX5 138 yX5_allows, Cond.instanceMethod yX5_allows, Cond.selects RX5 yX5_allows yX5_allows, Cond.code yX5_allows cX5_allows 3 (some .boolean), Cond.methodLink RX5 156 yX5_finish]
def wsX5_act_r2 : List Cond := [Cond.instanceMethod yX5_finish, Cond.selects RX5 yX5_finish yX5_finish, Cond.code yX5_finish cX5_finish 3 none, Cond.fieldLink RX5 48 "TradeHallModel" "left" "[I", Cond.methodLink RX5 149 yX5_rest, Cond.instanceMethod yX5_rest, Cond.selects RX5 yX5_rest yX5_rest, Cond.code yX5_rest cX5_rest 2 none, Cond.fieldLink RX5 51 "TradeHallModel" "shown" "[I", Cond.fieldLink RX5 54 "TradeHallModel" "extras" "[I", Cond.fieldLink RX5 146 "TradeHallModel" "nextTurn" "I", Cond.methodLink RX5 153 yX5_cancelled, Cond.instanceMethod yX5_cancelled, Cond.selects RX5 yX5_cancelled yX5_cancelled, Cond.code yX5_cancelled cX5_cancelled 2 none, Cond.methodLink RX5 128 yX5_free, Cond.instanceMethod yX5_free, Cond.selects RX5 yX5_free yX5_free, Cond.code yX5_free cX5_free 4 none, Cond.fieldLink RX5 33 "TradeHallModel" "accounts" "[I", Cond.fieldLink RX5 13 "TradeHallModel" "held" "[J", Cond.fieldLink RX5 20 "TradeHallModel" "heldShares" "[I", Cond.methodLink RX5 112 yX5_cell, Cond.static yX5_cell]
def wsX5_act_r3 : List Cond := [Cond.code yX5_cell cX5_cell 2 (some .int), Cond.methodLink RX5 160 yX5_wouldTrade, Cond.instanceMethod yX5_wouldTrade, Cond.selects RX5 yX5_wouldTrade yX5_wouldTrade, Cond.code yX5_wouldTrade cX5_wouldTrade 7 (some .boolean), Cond.fieldLink RX5 69 "TradeHallModel" "tryLeft" "[I", Cond.fieldLink RX5 72 "TradeHallModel" "tryShown" "[I", Cond.fieldLink RX5 75 "TradeHallModel" "tryTurns" "[I", Cond.methodLink RX5 163 yX5_match, Cond.instanceMethod yX5_match, Cond.selects RX5 yX5_match yX5_match, Cond.code yX5_match cX5_match 5 (some .boolean), Cond.fieldLink RX5 63 "TradeHallModel" "done" "[I", Cond.methodLink RX5 142 yX5_exchange, Cond.instanceMethod yX5_exchange, Cond.selects RX5 yX5_exchange yX5_exchange, Cond.code yX5_exchange cX5_exchange 8 none, Cond.fieldLink RX5 7 "TradeHallModel" "cash" "[J", Cond.fieldLink RX5 16 "TradeHallModel" "shares" "[I", Cond.fieldLink RX5 23 "TradeHallModel" "bought" "[I", Cond.fieldLink RX5 26 "TradeHallModel" "sold" "[I", Cond.fieldLink RX5 132 "TradeHallModel" "trades" "I", Cond.fieldLink RX5 78 "TradeHallModel" "tradeCells" "[I", Cond.fieldLink RX5 81 "TradeHallModel" "lasts" "[I"]
def wsX5_act_r4 : List Cond := [Cond.fieldLink RX5 84 "TradeHallModel" "greatest" "[I", Cond.fieldLink RX5 87 "TradeHallModel" "least" "[I", Cond.fieldLink RX5 90 "TradeHallModel" "volumes" "[I"]
def wsX5_act : List Cond := .code yX5_act cX5_act 5 none :: ((wsX5_act_r1 ++ (wsX5_act_r2 ++ (wsX5_act_r3 ++ wsX5_act_r4))) ++ wsX50)
def wsX5_ready : List Cond := .code yX5_ready cX5_ready 4 (some .int) :: ([.fieldLink RX5 116 "TradeHallModel" "orders" "I", .fieldLink RX5 57 "TradeHallModel" "states" "[I", .fieldLink RX5 36 "TradeHallModel" "symbols" "[I", .fieldLink RX5 81 "TradeHallModel" "lasts" "[I", .fieldLink RX5 39 "TradeHallModel" "sides" "[I", .fieldLink RX5 54 "TradeHallModel" "extras" "[I"] ++ wsX50)
def wsX5_order_r1 : List Cond := [Cond.fieldLink RX5 7 "TradeHallModel" "cash" "[J", Cond.fieldLink RX5 13 "TradeHallModel" "held" "[J", Cond.fieldLink RX5 16 "TradeHallModel" "shares" "[I", Cond.fieldLink RX5 20 "TradeHallModel" "heldShares" "[I", Cond.fieldLink RX5 93 "TradeHallModel" "thrown" "I", Cond.fieldLink RX5 116 "TradeHallModel" "orders" "I", Cond.fieldLink RX5 33 "TradeHallModel" "accounts" "[I", Cond.fieldLink RX5 36 "TradeHallModel" "symbols" "[I", Cond.fieldLink RX5 39 "TradeHallModel" "sides" "[I", Cond.fieldLink RX5 42 "TradeHallModel" "kinds" "[I", Cond.fieldLink RX5 45 "TradeHallModel" "prices" "[I", Cond.fieldLink RX5 48 "TradeHallModel" "left" "[I", Cond.fieldLink RX5 54 "TradeHallModel" "extras" "[I", Cond.fieldLink RX5 57 "TradeHallModel" "states" "[I", Cond.methodLink RX5 101 yX5_isAccount, Cond.static yX5_isAccount, Cond.initialized RX5, Cond.code yX5_isAccount cX5_isAccount 1 (some .boolean), Cond.methodLink RX5 97 yX5_isIn, Cond.static yX5_isIn, Cond.code yX5_isIn cX5_isIn 3 (some .boolean), Cond.methodLink RX5 108 yX5_isSymbol, Cond.static yX5_isSymbol, Cond.code yX5_isSymbol cX5_isSymbol 1 (some .boolean)]
def wsX5_order_r2 : List Cond := [Cond.methodLink RX5 166 yX5_there, Cond.instanceMethod yX5_there, Cond.selects RX5 yX5_there yX5_there, Cond.code yX5_there cX5_there 3 (some .int), Cond.methodLink RX5 119 yX5_isThere, Cond.instanceMethod yX5_isThere, Cond.selects RX5 yX5_isThere yX5_isThere, Cond.code yX5_isThere cX5_isThere 2 (some .boolean), Cond.methodLink RX5 112 yX5_cell, Cond.static yX5_cell, Cond.code yX5_cell cX5_cell 2 (some .int), Cond.methodLink RX5 128 yX5_free, Cond.instanceMethod yX5_free, Cond.selects RX5 yX5_free yX5_free, Cond.code yX5_free cX5_free 4 none, Cond.methodLink RX5 170 yX5_act, Cond.instanceMethod yX5_act, Cond.selects RX5 yX5_act yX5_act, Cond.code yX5_act cX5_act 5 none, Cond.methodLink RX5 135 yX5_first, Cond.instanceMethod yX5_first, Cond.selects RX5 yX5_first yX5_first, Cond.code yX5_first cX5_first 5 (some .int), Cond.fieldLink RX5 66 "TradeHallModel" "turns" "[I"]
def wsX5_order_r3 : List Cond := [Cond.methodLink RX5 122 yX5_rests, Cond.instanceMethod yX5_rests, Cond.selects RX5 yX5_rests yX5_rests, Cond.code yX5_rests cX5_rests 4 (some .boolean), Cond.methodLink RX5 125 yX5_isBetter, Cond.static yX5_isBetter, Cond.code yX5_isBetter cX5_isBetter 3 (some .boolean), Cond.methodLink RX5 138 yX5_allows, Cond.instanceMethod yX5_allows, Cond.selects RX5 yX5_allows yX5_allows, Cond.code yX5_allows cX5_allows 3 (some .boolean), Cond.methodLink RX5 156 yX5_finish, Cond.instanceMethod yX5_finish, Cond.selects RX5 yX5_finish yX5_finish, Cond.code yX5_finish cX5_finish 3 none, Cond.methodLink RX5 149 yX5_rest, Cond.instanceMethod yX5_rest, Cond.selects RX5 yX5_rest yX5_rest, Cond.code yX5_rest cX5_rest 2 none, Cond.fieldLink RX5 51 "TradeHallModel" "shown" "[I", Cond.fieldLink RX5 146 "TradeHallModel" "nextTurn" "I", Cond.methodLink RX5 153 yX5_cancelled, Cond.instanceMethod yX5_cancelled, Cond.selects RX5 yX5_cancelled yX5_cancelled]
def wsX5_order_r4 : List Cond := [Cond.code yX5_cancelled cX5_cancelled 2 none, Cond.methodLink RX5 160 yX5_wouldTrade, Cond.instanceMethod yX5_wouldTrade, Cond.selects RX5 yX5_wouldTrade yX5_wouldTrade, Cond.code yX5_wouldTrade cX5_wouldTrade 7 (some .boolean), Cond.fieldLink RX5 69 "TradeHallModel" "tryLeft" "[I", Cond.fieldLink RX5 72 "TradeHallModel" "tryShown" "[I", Cond.fieldLink RX5 75 "TradeHallModel" "tryTurns" "[I", Cond.methodLink RX5 163 yX5_match, Cond.instanceMethod yX5_match, Cond.selects RX5 yX5_match yX5_match, Cond.code yX5_match cX5_match 5 (some .boolean), Cond.fieldLink RX5 63 "TradeHallModel" "done" "[I", Cond.methodLink RX5 142 yX5_exchange, Cond.instanceMethod yX5_exchange, Cond.selects RX5 yX5_exchange yX5_exchange, Cond.code yX5_exchange cX5_exchange 8 none, Cond.fieldLink RX5 23 "TradeHallModel" "bought" "[I", Cond.fieldLink RX5 26 "TradeHallModel" "sold" "[I", Cond.fieldLink RX5 132 "TradeHallModel" "trades" "I", Cond.fieldLink RX5 78 "TradeHallModel" "tradeCells" "[I", Cond.fieldLink RX5 81 "TradeHallModel" "lasts" "[I", Cond.fieldLink RX5 84 "TradeHallModel" "greatest" "[I", Cond.fieldLink RX5 87 "TradeHallModel" "least" "[I"]
def wsX5_order_r5 : List Cond := [Cond.fieldLink RX5 90 "TradeHallModel" "volumes" "[I", Cond.methodLink RX5 173 yX5_ready, Cond.instanceMethod yX5_ready, Cond.selects RX5 yX5_ready yX5_ready, Cond.code yX5_ready cX5_ready 4 (some .int)]
def wsX5_order : List Cond := .code yX5_order cX5_order 13 (some .int) :: ((wsX5_order_r1 ++ (wsX5_order_r2 ++ (wsX5_order_r3 ++ (wsX5_order_r4 ++ wsX5_order_r5)))) ++ wsX50)
def wsX5_refusal : List Cond := .code yX5_refusal cX5_refusal 4 (some .int) :: ([.fieldLink RX5 116 "TradeHallModel" "orders" "I", .fieldLink RX5 33 "TradeHallModel" "accounts" "[I", .methodLink RX5 101 yX5_isAccount, .static yX5_isAccount, .initialized RX5, .code yX5_isAccount cX5_isAccount 1 (some .boolean), .methodLink RX5 97 yX5_isIn, .static yX5_isIn, .code yX5_isIn cX5_isIn 3 (some .boolean), .methodLink RX5 119 yX5_isThere, .instanceMethod yX5_isThere, .selects RX5 yX5_isThere yX5_isThere, .code yX5_isThere cX5_isThere 2 (some .boolean), .fieldLink RX5 57 "TradeHallModel" "states" "[I"] ++ wsX50)
def wsX5_cancel_r1 : List Cond := [Cond.fieldLink RX5 93 "TradeHallModel" "thrown" "I", Cond.fieldLink RX5 48 "TradeHallModel" "left" "[I", Cond.methodLink RX5 177 yX5_refusal, Cond.instanceMethod yX5_refusal, Cond.selects RX5 yX5_refusal yX5_refusal, Cond.initialized RX5, Cond.code yX5_refusal cX5_refusal 4 (some .int), Cond.fieldLink RX5 116 "TradeHallModel" "orders" "I", Cond.fieldLink RX5 33 "TradeHallModel" "accounts" "[I", Cond.methodLink RX5 101 yX5_isAccount, Cond.static yX5_isAccount, Cond.code yX5_isAccount cX5_isAccount 1 (some .boolean), Cond.methodLink RX5 97 yX5_isIn, Cond.static yX5_isIn, Cond.code yX5_isIn cX5_isIn 3 (some .boolean), Cond.methodLink RX5 119 yX5_isThere, Cond.instanceMethod yX5_isThere, Cond.selects RX5 yX5_isThere yX5_isThere, Cond.code yX5_isThere cX5_isThere 2 (some .boolean), Cond.fieldLink RX5 57 "TradeHallModel" "states" "[I", Cond.methodLink RX5 153 yX5_cancelled, Cond.instanceMethod yX5_cancelled, Cond.selects RX5 yX5_cancelled yX5_cancelled, Cond.code yX5_cancelled cX5_cancelled 2 none]
def wsX5_cancel_r2 : List Cond := [Cond.fieldLink RX5 51 "TradeHallModel" "shown" "[I", Cond.methodLink RX5 128 yX5_free, Cond.instanceMethod yX5_free, Cond.selects RX5 yX5_free yX5_free, Cond.code yX5_free cX5_free 4 none, Cond.fieldLink RX5 39 "TradeHallModel" "sides" "[I", Cond.fieldLink RX5 13 "TradeHallModel" "held" "[J", Cond.fieldLink RX5 45 "TradeHallModel" "prices" "[I", Cond.fieldLink RX5 20 "TradeHallModel" "heldShares" "[I", Cond.fieldLink RX5 36 "TradeHallModel" "symbols" "[I", Cond.methodLink RX5 112 yX5_cell, Cond.static yX5_cell, Cond.code yX5_cell cX5_cell 2 (some .int)]
def wsX5_cancel : List Cond := .code yX5_cancel cX5_cancel 4 (some .int) :: ((wsX5_cancel_r1 ++ wsX5_cancel_r2) ++ wsX50)
def wsX5_reduce_r1 : List Cond := [Cond.fieldLink RX5 93 "TradeHallModel" "thrown" "I", Cond.fieldLink RX5 48 "TradeHallModel" "left" "[I", Cond.fieldLink RX5 51 "TradeHallModel" "shown" "[I", Cond.methodLink RX5 177 yX5_refusal, Cond.instanceMethod yX5_refusal, Cond.selects RX5 yX5_refusal yX5_refusal, Cond.initialized RX5, Cond.code yX5_refusal cX5_refusal 4 (some .int), Cond.fieldLink RX5 116 "TradeHallModel" "orders" "I", Cond.fieldLink RX5 33 "TradeHallModel" "accounts" "[I", Cond.methodLink RX5 101 yX5_isAccount, Cond.static yX5_isAccount, Cond.code yX5_isAccount cX5_isAccount 1 (some .boolean), Cond.methodLink RX5 97 yX5_isIn, Cond.static yX5_isIn, Cond.code yX5_isIn cX5_isIn 3 (some .boolean), Cond.methodLink RX5 119 yX5_isThere, Cond.instanceMethod yX5_isThere, Cond.selects RX5 yX5_isThere yX5_isThere, Cond.code yX5_isThere cX5_isThere 2 (some .boolean), Cond.fieldLink RX5 57 "TradeHallModel" "states" "[I", Cond.methodLink RX5 128 yX5_free, Cond.instanceMethod yX5_free, Cond.selects RX5 yX5_free yX5_free]
def wsX5_reduce_r2 : List Cond := [Cond.code yX5_free cX5_free 4 none, Cond.fieldLink RX5 39 "TradeHallModel" "sides" "[I", Cond.fieldLink RX5 13 "TradeHallModel" "held" "[J", Cond.fieldLink RX5 45 "TradeHallModel" "prices" "[I", Cond.fieldLink RX5 20 "TradeHallModel" "heldShares" "[I", Cond.fieldLink RX5 36 "TradeHallModel" "symbols" "[I", Cond.methodLink RX5 112 yX5_cell, Cond.static yX5_cell, Cond.code yX5_cell cX5_cell 2 (some .int)]
def wsX5_reduce : List Cond := .code yX5_reduce cX5_reduce 4 (some .int) :: ((wsX5_reduce_r1 ++ wsX5_reduce_r2) ++ wsX50)
def wsX5_until : List Cond := .code yX5_until cX5_until 4 none :: ([.fieldLink RX5 93 "TradeHallModel" "thrown" "I", .fieldLink RX5 181 "TradeHallModel" "time" "I", .fieldLink RX5 60 "TradeHallModel" "ends" "[I", .methodLink RX5 177 yX5_refusal, .instanceMethod yX5_refusal, .selects RX5 yX5_refusal yX5_refusal, .initialized RX5, .code yX5_refusal cX5_refusal 4 (some .int), .fieldLink RX5 116 "TradeHallModel" "orders" "I", .fieldLink RX5 33 "TradeHallModel" "accounts" "[I", .methodLink RX5 101 yX5_isAccount, .static yX5_isAccount, .code yX5_isAccount cX5_isAccount 1 (some .boolean), .methodLink RX5 97 yX5_isIn, .static yX5_isIn, .code yX5_isIn cX5_isIn 3 (some .boolean), .methodLink RX5 119 yX5_isThere, .instanceMethod yX5_isThere, .selects RX5 yX5_isThere yX5_isThere, .code yX5_isThere cX5_isThere 2 (some .boolean), .fieldLink RX5 57 "TradeHallModel" "states" "[I"] ++ wsX50)
def wsX5_pass_r1 : List Cond := [Cond.constant RX5 111 (1000000), Cond.fieldLink RX5 93 "TradeHallModel" "thrown" "I", Cond.fieldLink RX5 181 "TradeHallModel" "time" "I", Cond.fieldLink RX5 116 "TradeHallModel" "orders" "I", Cond.fieldLink RX5 60 "TradeHallModel" "ends" "[I", Cond.methodLink RX5 97 yX5_isIn, Cond.static yX5_isIn, Cond.initialized RX5, Cond.code yX5_isIn cX5_isIn 3 (some .boolean), Cond.methodLink RX5 119 yX5_isThere, Cond.instanceMethod yX5_isThere, Cond.selects RX5 yX5_isThere yX5_isThere, Cond.code yX5_isThere cX5_isThere 2 (some .boolean), Cond.fieldLink RX5 57 "TradeHallModel" "states" "[I", Cond.methodLink RX5 153 yX5_cancelled, Cond.instanceMethod yX5_cancelled, Cond.selects RX5 yX5_cancelled yX5_cancelled, Cond.code yX5_cancelled cX5_cancelled 2 none, Cond.fieldLink RX5 48 "TradeHallModel" "left" "[I", Cond.fieldLink RX5 51 "TradeHallModel" "shown" "[I", Cond.methodLink RX5 128 yX5_free, Cond.instanceMethod yX5_free, Cond.selects RX5 yX5_free yX5_free, Cond.code yX5_free cX5_free 4 none]
def wsX5_pass_r2 : List Cond := [Cond.fieldLink RX5 33 "TradeHallModel" "accounts" "[I", Cond.fieldLink RX5 39 "TradeHallModel" "sides" "[I", Cond.fieldLink RX5 13 "TradeHallModel" "held" "[J", Cond.fieldLink RX5 45 "TradeHallModel" "prices" "[I", Cond.fieldLink RX5 20 "TradeHallModel" "heldShares" "[I", Cond.fieldLink RX5 36 "TradeHallModel" "symbols" "[I", Cond.methodLink RX5 112 yX5_cell, Cond.static yX5_cell, Cond.code yX5_cell cX5_cell 2 (some .int)]
def wsX5_pass : List Cond := .code yX5_pass cX5_pass 4 (some .int) :: ((wsX5_pass_r1 ++ wsX5_pass_r2) ++ wsX50)
def wsX5_best_r1 : List Cond := [Cond.fieldLink RX5 93 "TradeHallModel" "thrown" "I", Cond.fieldLink RX5 45 "TradeHallModel" "prices" "[I", Cond.methodLink RX5 108 yX5_isSymbol, Cond.static yX5_isSymbol, Cond.initialized RX5, Cond.code yX5_isSymbol cX5_isSymbol 1 (some .boolean), Cond.methodLink RX5 97 yX5_isIn, Cond.static yX5_isIn, Cond.code yX5_isIn cX5_isIn 3 (some .boolean), Cond.methodLink RX5 135 yX5_first, Cond.instanceMethod yX5_first, Cond.selects RX5 yX5_first yX5_first, Cond.code yX5_first cX5_first 5 (some .int), Cond.fieldLink RX5 116 "TradeHallModel" "orders" "I", Cond.fieldLink RX5 66 "TradeHallModel" "turns" "[I", Cond.methodLink RX5 122 yX5_rests, Cond.instanceMethod yX5_rests, Cond.selects RX5 yX5_rests yX5_rests, Cond.code yX5_rests cX5_rests 4 (some .boolean), Cond.fieldLink RX5 57 "TradeHallModel" "states" "[I", Cond.fieldLink RX5 36 "TradeHallModel" "symbols" "[I", Cond.fieldLink RX5 39 "TradeHallModel" "sides" "[I", Cond.methodLink RX5 125 yX5_isBetter, Cond.static yX5_isBetter]
def wsX5_best_r2 : List Cond := [Cond.code yX5_isBetter cX5_isBetter 3 (some .boolean)]
def wsX5_best : List Cond := .code yX5_best cX5_best 4 (some .int) :: ((wsX5_best_r1 ++ wsX5_best_r2) ++ wsX50)
def wsX5_priceAt : List Cond := .code yX5_priceAt cX5_priceAt 9 (some .int) :: ([.fieldLink RX5 116 "TradeHallModel" "orders" "I", .fieldLink RX5 45 "TradeHallModel" "prices" "[I", .methodLink RX5 122 yX5_rests, .instanceMethod yX5_rests, .selects RX5 yX5_rests yX5_rests, .initialized RX5, .code yX5_rests cX5_rests 4 (some .boolean), .fieldLink RX5 57 "TradeHallModel" "states" "[I", .fieldLink RX5 36 "TradeHallModel" "symbols" "[I", .fieldLink RX5 39 "TradeHallModel" "sides" "[I", .methodLink RX5 125 yX5_isBetter, .static yX5_isBetter, .code yX5_isBetter cX5_isBetter 3 (some .boolean)] ++ wsX50)
def wsX5_priceCount : List Cond := .code yX5_priceCount cX5_priceCount 4 (some .int) :: ([.methodLink RX5 184 yX5_priceAt, .instanceMethod yX5_priceAt, .selects RX5 yX5_priceAt yX5_priceAt, .initialized RX5, .code yX5_priceAt cX5_priceAt 9 (some .int), .fieldLink RX5 116 "TradeHallModel" "orders" "I", .fieldLink RX5 45 "TradeHallModel" "prices" "[I", .methodLink RX5 122 yX5_rests, .instanceMethod yX5_rests, .selects RX5 yX5_rests yX5_rests, .code yX5_rests cX5_rests 4 (some .boolean), .fieldLink RX5 57 "TradeHallModel" "states" "[I", .fieldLink RX5 36 "TradeHallModel" "symbols" "[I", .fieldLink RX5 39 "TradeHallModel" "sides" "[I", .methodLink RX5 125 yX5_isBetter, .static yX5_isBetter, .code yX5_isBetter cX5_isBetter 3 (some .boolean)] ++ wsX50)
def wsX5_depth_r1 : List Cond := [Cond.fieldLink RX5 93 "TradeHallModel" "thrown" "I", Cond.fieldLink RX5 116 "TradeHallModel" "orders" "I", Cond.fieldLink RX5 45 "TradeHallModel" "prices" "[I", Cond.fieldLink RX5 51 "TradeHallModel" "shown" "[I", Cond.methodLink RX5 108 yX5_isSymbol, Cond.static yX5_isSymbol, Cond.initialized RX5, Cond.code yX5_isSymbol cX5_isSymbol 1 (some .boolean), Cond.methodLink RX5 97 yX5_isIn, Cond.static yX5_isIn, Cond.code yX5_isIn cX5_isIn 3 (some .boolean), Cond.methodLink RX5 188 yX5_priceCount, Cond.instanceMethod yX5_priceCount, Cond.selects RX5 yX5_priceCount yX5_priceCount, Cond.code yX5_priceCount cX5_priceCount 4 (some .int), Cond.methodLink RX5 184 yX5_priceAt, Cond.instanceMethod yX5_priceAt, Cond.selects RX5 yX5_priceAt yX5_priceAt, Cond.code yX5_priceAt cX5_priceAt 9 (some .int), Cond.methodLink RX5 122 yX5_rests, Cond.instanceMethod yX5_rests, Cond.selects RX5 yX5_rests yX5_rests, Cond.code yX5_rests cX5_rests 4 (some .boolean), Cond.fieldLink RX5 57 "TradeHallModel" "states" "[I"]
def wsX5_depth_r2 : List Cond := [Cond.fieldLink RX5 36 "TradeHallModel" "symbols" "[I", Cond.fieldLink RX5 39 "TradeHallModel" "sides" "[I", Cond.methodLink RX5 125 yX5_isBetter, Cond.static yX5_isBetter, Cond.code yX5_isBetter cX5_isBetter 3 (some .boolean)]
def wsX5_depth : List Cond := .code yX5_depth cX5_depth 6 (some .int) :: ((wsX5_depth_r1 ++ wsX5_depth_r2) ++ wsX50)
def wsX5_level_r1 : List Cond := [Cond.fieldLink RX5 93 "TradeHallModel" "thrown" "I", Cond.fieldLink RX5 116 "TradeHallModel" "orders" "I", Cond.fieldLink RX5 45 "TradeHallModel" "prices" "[I", Cond.fieldLink RX5 48 "TradeHallModel" "left" "[I", Cond.methodLink RX5 97 yX5_isIn, Cond.static yX5_isIn, Cond.initialized RX5, Cond.code yX5_isIn cX5_isIn 3 (some .boolean), Cond.methodLink RX5 108 yX5_isSymbol, Cond.static yX5_isSymbol, Cond.code yX5_isSymbol cX5_isSymbol 1 (some .boolean), Cond.methodLink RX5 184 yX5_priceAt, Cond.instanceMethod yX5_priceAt, Cond.selects RX5 yX5_priceAt yX5_priceAt, Cond.code yX5_priceAt cX5_priceAt 9 (some .int), Cond.methodLink RX5 122 yX5_rests, Cond.instanceMethod yX5_rests, Cond.selects RX5 yX5_rests yX5_rests, Cond.code yX5_rests cX5_rests 4 (some .boolean), Cond.fieldLink RX5 57 "TradeHallModel" "states" "[I", Cond.fieldLink RX5 36 "TradeHallModel" "symbols" "[I", Cond.fieldLink RX5 39 "TradeHallModel" "sides" "[I", Cond.methodLink RX5 125 yX5_isBetter, Cond.static yX5_isBetter]
def wsX5_level_r2 : List Cond := [Cond.code yX5_isBetter cX5_isBetter 3 (some .boolean)]
def wsX5_level : List Cond := .code yX5_level cX5_level 10 (some .int) :: ((wsX5_level_r1 ++ wsX5_level_r2) ++ wsX50)
def wsX5_about : List Cond := .code yX5_about cX5_about 3 (some .int) :: ([.fieldLink RX5 116 "TradeHallModel" "orders" "I", .fieldLink RX5 93 "TradeHallModel" "thrown" "I", .fieldLink RX5 33 "TradeHallModel" "accounts" "[I", .fieldLink RX5 48 "TradeHallModel" "left" "[I", .fieldLink RX5 57 "TradeHallModel" "states" "[I", .fieldLink RX5 51 "TradeHallModel" "shown" "[I", .fieldLink RX5 60 "TradeHallModel" "ends" "[I", .fieldLink RX5 63 "TradeHallModel" "done" "[I", .methodLink RX5 97 yX5_isIn, .static yX5_isIn, .initialized RX5, .code yX5_isIn cX5_isIn 3 (some .boolean)] ++ wsX50)
def wsX5_ahead : List Cond := .code yX5_ahead cX5_ahead 4 (some .int) :: ([.fieldLink RX5 116 "TradeHallModel" "orders" "I", .fieldLink RX5 57 "TradeHallModel" "states" "[I", .fieldLink RX5 93 "TradeHallModel" "thrown" "I", .fieldLink RX5 36 "TradeHallModel" "symbols" "[I", .fieldLink RX5 39 "TradeHallModel" "sides" "[I", .fieldLink RX5 45 "TradeHallModel" "prices" "[I", .fieldLink RX5 66 "TradeHallModel" "turns" "[I", .fieldLink RX5 51 "TradeHallModel" "shown" "[I", .methodLink RX5 97 yX5_isIn, .static yX5_isIn, .initialized RX5, .code yX5_isIn cX5_isIn 3 (some .boolean), .methodLink RX5 122 yX5_rests, .instanceMethod yX5_rests, .selects RX5 yX5_rests yX5_rests, .code yX5_rests cX5_rests 4 (some .boolean)] ++ wsX50)
def wsX5_cash : List Cond := .code yX5_cash cX5_cash 3 (some .long) :: ([.fieldLink RX5 93 "TradeHallModel" "thrown" "I", .fieldLink RX5 7 "TradeHallModel" "cash" "[J", .fieldLink RX5 13 "TradeHallModel" "held" "[J", .methodLink RX5 101 yX5_isAccount, .static yX5_isAccount, .initialized RX5, .code yX5_isAccount cX5_isAccount 1 (some .boolean), .methodLink RX5 97 yX5_isIn, .static yX5_isIn, .code yX5_isIn cX5_isIn 3 (some .boolean)] ++ wsX50)
def wsX5_shares : List Cond := .code yX5_shares cX5_shares 5 (some .int) :: ([.fieldLink RX5 93 "TradeHallModel" "thrown" "I", .fieldLink RX5 16 "TradeHallModel" "shares" "[I", .fieldLink RX5 20 "TradeHallModel" "heldShares" "[I", .fieldLink RX5 23 "TradeHallModel" "bought" "[I", .fieldLink RX5 26 "TradeHallModel" "sold" "[I", .methodLink RX5 101 yX5_isAccount, .static yX5_isAccount, .initialized RX5, .code yX5_isAccount cX5_isAccount 1 (some .boolean), .methodLink RX5 97 yX5_isIn, .static yX5_isIn, .code yX5_isIn cX5_isIn 3 (some .boolean), .methodLink RX5 108 yX5_isSymbol, .static yX5_isSymbol, .code yX5_isSymbol cX5_isSymbol 1 (some .boolean), .methodLink RX5 112 yX5_cell, .static yX5_cell, .code yX5_cell cX5_cell 2 (some .int)] ++ wsX50)
def wsX5_count : List Cond := .code yX5_count cX5_count 4 (some .int) :: ([.fieldLink RX5 93 "TradeHallModel" "thrown" "I", .fieldLink RX5 132 "TradeHallModel" "trades" "I", .fieldLink RX5 116 "TradeHallModel" "orders" "I", .fieldLink RX5 181 "TradeHallModel" "time" "I", .fieldLink RX5 29 "TradeHallModel" "had" "[Z", .methodLink RX5 97 yX5_isIn, .static yX5_isIn, .initialized RX5, .code yX5_isIn cX5_isIn 3 (some .boolean), .methodLink RX5 166 yX5_there, .instanceMethod yX5_there, .selects RX5 yX5_there yX5_there, .code yX5_there cX5_there 3 (some .int), .methodLink RX5 119 yX5_isThere, .instanceMethod yX5_isThere, .selects RX5 yX5_isThere yX5_isThere, .code yX5_isThere cX5_isThere 2 (some .boolean), .fieldLink RX5 57 "TradeHallModel" "states" "[I"] ++ wsX50)
def wsX5_trade : List Cond := .code yX5_trade cX5_trade 3 (some .int) :: ([.fieldLink RX5 132 "TradeHallModel" "trades" "I", .fieldLink RX5 93 "TradeHallModel" "thrown" "I", .fieldLink RX5 78 "TradeHallModel" "tradeCells" "[I", .methodLink RX5 97 yX5_isIn, .static yX5_isIn, .initialized RX5, .code yX5_isIn cX5_isIn 3 (some .boolean)] ++ wsX50)
def wsX5_symbol : List Cond := .code yX5_symbol cX5_symbol 3 (some .int) :: ([.fieldLink RX5 93 "TradeHallModel" "thrown" "I", .fieldLink RX5 81 "TradeHallModel" "lasts" "[I", .fieldLink RX5 84 "TradeHallModel" "greatest" "[I", .fieldLink RX5 87 "TradeHallModel" "least" "[I", .fieldLink RX5 90 "TradeHallModel" "volumes" "[I", .methodLink RX5 108 yX5_isSymbol, .static yX5_isSymbol, .initialized RX5, .code yX5_isSymbol cX5_isSymbol 1 (some .boolean), .methodLink RX5 97 yX5_isIn, .static yX5_isIn, .code yX5_isIn cX5_isIn 3 (some .boolean)] ++ wsX50)
def wsX5_business : List Cond := .code yX5_business cX5_business 3 (some .int) :: ([.fieldLink RX5 23 "TradeHallModel" "bought" "[I", .fieldLink RX5 26 "TradeHallModel" "sold" "[I", .methodLink RX5 112 yX5_cell, .static yX5_cell, .initialized RX5, .code yX5_cell cX5_cell 2 (some .int)] ++ wsX50)
def wsX5_busiest : List Cond := .code yX5_busiest cX5_busiest 6 (some .int) :: ([.fieldLink RX5 93 "TradeHallModel" "thrown" "I", .methodLink RX5 108 yX5_isSymbol, .static yX5_isSymbol, .initialized RX5, .code yX5_isSymbol cX5_isSymbol 1 (some .boolean), .methodLink RX5 97 yX5_isIn, .static yX5_isIn, .code yX5_isIn cX5_isIn 3 (some .boolean), .methodLink RX5 191 yX5_business, .instanceMethod yX5_business, .selects RX5 yX5_business yX5_business, .code yX5_business cX5_business 3 (some .int), .fieldLink RX5 23 "TradeHallModel" "bought" "[I", .fieldLink RX5 26 "TradeHallModel" "sold" "[I", .methodLink RX5 112 yX5_cell, .static yX5_cell, .code yX5_cell cX5_cell 2 (some .int)] ++ wsX50)
def wsJ9_max_7cf53 : List Cond := .code yJ9_max_7cf53 cJ9_max_7cf53 2 (some .int) :: ([])
def wsJ9_min_7cf53 : List Cond := .code yJ9_min_7cf53 cJ9_min_7cf53 2 (some .int) :: ([])
def wsL_deposit_r1 : List Cond := [Cond.classLink RL 13 "java/lang/IndexOutOfBoundsException", Cond.classLink RL 15 "java/lang/IllegalArgumentException", Cond.classLink RL 17 "java/lang/IllegalStateException", Cond.methodLink RL 7 yX4_deposit, Cond.instanceMethod yX4_deposit, Cond.selects RX4 yX4_deposit yX4_deposit, Cond.initialized RX4, Cond.code yX4_deposit cX4_deposit 3 (some .long), Cond.classLink RX4 58 "java/lang/IllegalStateException", Cond.initialized "java/lang/IllegalStateException", Cond.constant RX4 47 (1000000000), Cond.fieldLink RX4 10 "TradeHall" "ledger" "LTradeHall$Ledger;", Cond.fieldLink RX4 52 "TradeHall$Ledger" "cashOf" "[J", Cond.constantLong RX4 56 (1000000000000000), Cond.methodLink RX4 43 yX4_needAccount, Cond.static yX4_needAccount, Cond.code yX4_needAccount cX4_needAccount 1 none, Cond.classLink RX4 179 "java/lang/IndexOutOfBoundsException", Cond.initialized "java/lang/IndexOutOfBoundsException", Cond.methodLink RX4 48 yX4_needWithin, Cond.static yX4_needWithin, Cond.code yX4_needWithin cX4_needWithin 3 none, Cond.classLink RX4 132 "java/lang/IllegalArgumentException", Cond.initialized "java/lang/IllegalArgumentException"]
def wsL_deposit_r2 : List Cond := [Cond.methodLink RX4 65 yX1_know, Cond.instanceMethod yX1_know, Cond.selects RX1 yX1_know yX1_know, Cond.initialized RX1, Cond.code yX1_know cX1_know 2 none, Cond.fieldLink RX1 31 "TradeHall$Ledger" "known" "[Z", Cond.fieldLink RX1 35 "TradeHall$Ledger" "knownCount" "I"]
def wsL_deposit : List Cond := .codeWith yL_deposit cL_deposit 5 (some .int) [(0, 9, 12, 13), (0, 9, 16, 15), (0, 9, 20, 17)] :: ((wsL_deposit_r1 ++ wsL_deposit_r2) ++ wsX40 ++ wsX10 ++ (vx_atS RX4 62 "java/lang/IllegalStateException" ["java/lang/RuntimeException", "java/lang/Exception"]).filter goodWord ++ (vx_atS RX4 183 "java/lang/IndexOutOfBoundsException" ["java/lang/RuntimeException", "java/lang/Exception"]).filter goodWord ++ (vx_atS RX4 136 "java/lang/IllegalArgumentException" ["java/lang/RuntimeException", "java/lang/Exception"]).filter goodWord)
def wsL_withdraw_r1 : List Cond := [Cond.classLink RL 13 "java/lang/IndexOutOfBoundsException", Cond.classLink RL 15 "java/lang/IllegalArgumentException", Cond.classLink RL 17 "java/lang/IllegalStateException", Cond.methodLink RL 19 yX4_withdraw, Cond.instanceMethod yX4_withdraw, Cond.selects RX4 yX4_withdraw yX4_withdraw, Cond.initialized RX4, Cond.code yX4_withdraw cX4_withdraw 3 (some .long), Cond.classLink RX4 58 "java/lang/IllegalStateException", Cond.initialized "java/lang/IllegalStateException", Cond.constant RX4 47 (1000000000), Cond.fieldLink RX4 10 "TradeHall" "ledger" "LTradeHall$Ledger;", Cond.fieldLink RX4 52 "TradeHall$Ledger" "cashOf" "[J", Cond.methodLink RX4 43 yX4_needAccount, Cond.static yX4_needAccount, Cond.code yX4_needAccount cX4_needAccount 1 none, Cond.classLink RX4 179 "java/lang/IndexOutOfBoundsException", Cond.initialized "java/lang/IndexOutOfBoundsException", Cond.methodLink RX4 48 yX4_needWithin, Cond.static yX4_needWithin, Cond.code yX4_needWithin cX4_needWithin 3 none, Cond.classLink RX4 132 "java/lang/IllegalArgumentException", Cond.initialized "java/lang/IllegalArgumentException", Cond.methodLink RX4 68 yX1_freeCash]
def wsL_withdraw_r2 : List Cond := [Cond.instanceMethod yX1_freeCash, Cond.selects RX1 yX1_freeCash yX1_freeCash, Cond.initialized RX1, Cond.code yX1_freeCash cX1_freeCash 2 (some .long), Cond.fieldLink RX1 9 "TradeHall$Ledger" "cashOf" "[J", Cond.fieldLink RX1 15 "TradeHall$Ledger" "cashHeld" "[J"]
def wsL_withdraw : List Cond := .codeWith yL_withdraw cL_withdraw 5 (some .int) [(0, 9, 12, 13), (0, 9, 16, 15), (0, 9, 20, 17)] :: ((wsL_withdraw_r1 ++ wsL_withdraw_r2) ++ wsX40 ++ wsX10 ++ (vx_atS RX4 62 "java/lang/IllegalStateException" ["java/lang/RuntimeException", "java/lang/Exception"]).filter goodWord ++ (vx_atS RX4 183 "java/lang/IndexOutOfBoundsException" ["java/lang/RuntimeException", "java/lang/Exception"]).filter goodWord ++ (vx_atS RX4 136 "java/lang/IllegalArgumentException" ["java/lang/RuntimeException", "java/lang/Exception"]).filter goodWord)
def wsL_grant_r1 : List Cond := [Cond.classLink RL 13 "java/lang/IndexOutOfBoundsException", Cond.classLink RL 15 "java/lang/IllegalArgumentException", Cond.classLink RL 17 "java/lang/IllegalStateException", Cond.methodLink RL 22 yX4_grant, Cond.instanceMethod yX4_grant, Cond.selects RX4 yX4_grant yX4_grant, Cond.initialized RX4, Cond.code yX4_grant cX4_grant 5 (some .int), Cond.classLink RX4 58 "java/lang/IllegalStateException", Cond.initialized "java/lang/IllegalStateException", Cond.constant RX4 77 (1000000), Cond.fieldLink RX4 10 "TradeHall" "ledger" "LTradeHall$Ledger;", Cond.fieldLink RX4 82 "TradeHall$Ledger" "sharesOf" "[I", Cond.constant RX4 47 (1000000000), Cond.methodLink RX4 43 yX4_needAccount, Cond.static yX4_needAccount, Cond.code yX4_needAccount cX4_needAccount 1 none, Cond.classLink RX4 179 "java/lang/IndexOutOfBoundsException", Cond.initialized "java/lang/IndexOutOfBoundsException", Cond.methodLink RX4 74 yX4_needSymbol, Cond.static yX4_needSymbol, Cond.code yX4_needSymbol cX4_needSymbol 1 none, Cond.methodLink RX4 48 yX4_needWithin, Cond.static yX4_needWithin]
def wsL_grant_r2 : List Cond := [Cond.code yX4_needWithin cX4_needWithin 3 none, Cond.classLink RX4 132 "java/lang/IllegalArgumentException", Cond.initialized "java/lang/IllegalArgumentException", Cond.methodLink RX4 78 yX1_placeOf, Cond.static yX1_placeOf, Cond.initialized RX1, Cond.code yX1_placeOf cX1_placeOf 2 (some .int), Cond.methodLink RX4 65 yX1_know, Cond.instanceMethod yX1_know, Cond.selects RX1 yX1_know yX1_know, Cond.code yX1_know cX1_know 2 none, Cond.fieldLink RX1 31 "TradeHall$Ledger" "known" "[Z", Cond.fieldLink RX1 35 "TradeHall$Ledger" "knownCount" "I"]
def wsL_grant : List Cond := .codeWith yL_grant cL_grant 6 (some .int) [(0, 12, 15, 13), (0, 12, 19, 15), (0, 12, 23, 17)] :: ((wsL_grant_r1 ++ wsL_grant_r2) ++ wsX40 ++ wsX10 ++ (vx_atS RX4 62 "java/lang/IllegalStateException" ["java/lang/RuntimeException", "java/lang/Exception"]).filter goodWord ++ (vx_atS RX4 183 "java/lang/IndexOutOfBoundsException" ["java/lang/RuntimeException", "java/lang/Exception"]).filter goodWord ++ (vx_atS RX4 136 "java/lang/IllegalArgumentException" ["java/lang/RuntimeException", "java/lang/Exception"]).filter goodWord)
def wsL_order_r1 : List Cond := [Cond.classLink RL 13 "java/lang/IndexOutOfBoundsException", Cond.classLink RL 15 "java/lang/IllegalArgumentException", Cond.classLink RL 17 "java/lang/IllegalStateException", Cond.methodLink RL 26 yX4_order, Cond.instanceMethod yX4_order, Cond.selects RX4 yX4_order yX4_order, Cond.initialized RX4, Cond.code yX4_order cX4_order 11 (some .int), Cond.classLink RX4 58 "java/lang/IllegalStateException", Cond.initialized "java/lang/IllegalStateException", Cond.fieldLink RX4 10 "TradeHall" "ledger" "LTradeHall$Ledger;", Cond.fieldLink RX4 19 "TradeHall" "orders" "LTradeHall$Orders;", Cond.fieldLink RX4 97 "TradeHall$Orders" "there" "I", Cond.fieldLink RX4 100 "TradeHall$Orders" "taken" "I", Cond.methodLink RX4 43 yX4_needAccount, Cond.static yX4_needAccount, Cond.code yX4_needAccount cX4_needAccount 1 none, Cond.classLink RX4 179 "java/lang/IndexOutOfBoundsException", Cond.initialized "java/lang/IndexOutOfBoundsException", Cond.methodLink RX4 74 yX4_needSymbol, Cond.static yX4_needSymbol, Cond.code yX4_needSymbol cX4_needSymbol 1 none, Cond.methodLink RX4 88 yX4_needSide, Cond.static yX4_needSide]
def wsL_order_r2 : List Cond := [Cond.code yX4_needSide cX4_needSide 1 none, Cond.classLink RX4 132 "java/lang/IllegalArgumentException", Cond.initialized "java/lang/IllegalArgumentException", Cond.methodLink RX4 48 yX4_needWithin, Cond.static yX4_needWithin, Cond.code yX4_needWithin cX4_needWithin 3 none, Cond.methodLink RX4 91 yX1_canHold, Cond.instanceMethod yX1_canHold, Cond.selects RX1 yX1_canHold yX1_canHold, Cond.initialized RX1, Cond.code yX1_canHold cX1_canHold 7 (some .boolean), Cond.fieldLink RX1 18 "TradeHall$Ledger" "sharesOf" "[I", Cond.fieldLink RX1 22 "TradeHall$Ledger" "sharesHeld" "[I", Cond.methodLink RX1 39 yX1_freeCash, Cond.instanceMethod yX1_freeCash, Cond.selects RX1 yX1_freeCash yX1_freeCash, Cond.code yX1_freeCash cX1_freeCash 2 (some .long), Cond.fieldLink RX1 9 "TradeHall$Ledger" "cashOf" "[J", Cond.fieldLink RX1 15 "TradeHall$Ledger" "cashHeld" "[J", Cond.methodLink RX1 43 yX1_placeOf, Cond.static yX1_placeOf, Cond.code yX1_placeOf cX1_placeOf 2 (some .int), Cond.methodLink RX4 105 yX2_take, Cond.instanceMethod yX2_take]
def wsL_order_r3 : List Cond := [Cond.selects RX2 yX2_take yX2_take, Cond.initialized RX2, Cond.code yX2_take cX2_take 9 (some .int), Cond.fieldLink RX2 45 "TradeHall$Orders" "taken" "I", Cond.fieldLink RX2 9 "TradeHall$Orders" "account" "[I", Cond.fieldLink RX2 15 "TradeHall$Orders" "symbol" "[I", Cond.fieldLink RX2 18 "TradeHall$Orders" "side" "[I", Cond.fieldLink RX2 21 "TradeHall$Orders" "kind" "[I", Cond.fieldLink RX2 24 "TradeHall$Orders" "price" "[I", Cond.fieldLink RX2 27 "TradeHall$Orders" "extra" "[I", Cond.fieldLink RX2 30 "TradeHall$Orders" "left" "[I", Cond.fieldLink RX2 36 "TradeHall$Orders" "state" "[I", Cond.fieldLink RX2 49 "TradeHall$Orders" "there" "I", Cond.methodLink RX4 109 yX4_hold, Cond.instanceMethod yX4_hold, Cond.selects RX4 yX4_hold yX4_hold, Cond.code yX4_hold cX4_hold 4 none, Cond.fieldLink RX4 198 "TradeHall$Orders" "account" "[I", Cond.fieldLink RX4 214 "TradeHall$Orders" "side" "[I", Cond.fieldLink RX4 217 "TradeHall$Ledger" "cashHeld" "[J", Cond.fieldLink RX4 169 "TradeHall$Orders" "price" "[I", Cond.fieldLink RX4 222 "TradeHall$Ledger" "sharesHeld" "[I", Cond.fieldLink RX4 211 "TradeHall$Orders" "symbol" "[I", Cond.methodLink RX4 78 yX1_placeOf]
def wsL_order_r4 : List Cond := [Cond.methodLink RX4 113 yX4_actByKind, Cond.instanceMethod yX4_actByKind, Cond.selects RX4 yX4_actByKind yX4_actByKind, Cond.code yX4_actByKind cX4_actByKind 4 none, Cond.fieldLink RX4 291 "TradeHall$Orders" "kind" "[I", Cond.fieldLink RX4 126 "TradeHall$Orders" "left" "[I", Cond.methodLink RX4 294 yX4_meetsOther, Cond.instanceMethod yX4_meetsOther, Cond.selects RX4 yX4_meetsOther yX4_meetsOther, Cond.code yX4_meetsOther cX4_meetsOther 3 (some .boolean), Cond.fieldLink RX4 28 "TradeHall" "books" "LTradeHall$Books;", Cond.methodLink RX4 313 yX0_facing, Cond.instanceMethod yX0_facing, Cond.selects RX0 yX0_facing yX0_facing, Cond.initialized RX0, Cond.code yX0_facing cX0_facing 2 (some .int), Cond.fieldLink RX0 18 "TradeHall$Books" "orders" "LTradeHall$Orders;", Cond.fieldLink RX0 22 "TradeHall$Orders" "symbol" "[I", Cond.fieldLink RX0 27 "TradeHall$Orders" "side" "[I", Cond.methodLink RX0 30 yX0_bookOf, Cond.static yX0_bookOf, Cond.code yX0_bookOf cX0_bookOf 2 (some .int), Cond.methodLink RX4 161 yX0_orderAt, Cond.instanceMethod yX0_orderAt]
def wsL_order_r5 : List Cond := [Cond.selects RX0 yX0_orderAt yX0_orderAt, Cond.code yX0_orderAt cX0_orderAt 3 (some .int), Cond.fieldLink RX0 15 "TradeHall$Books" "sizes" "[I", Cond.fieldLink RX0 9 "TradeHall$Books" "rows" "[I", Cond.methodLink RX4 316 yX2_pricesAllow, Cond.instanceMethod yX2_pricesAllow, Cond.selects RX2 yX2_pricesAllow yX2_pricesAllow, Cond.code yX2_pricesAllow cX2_pricesAllow 3 (some .boolean), Cond.methodLink RX4 297 yX4_close, Cond.instanceMethod yX4_close, Cond.selects RX4 yX4_close yX4_close, Cond.code yX4_close cX4_close 3 none, Cond.fieldLink RX4 139 "TradeHall$Orders" "shown" "[I", Cond.fieldLink RX4 201 "TradeHall$Orders" "state" "[I", Cond.methodLink RX4 300 yX4_rest, Cond.instanceMethod yX4_rest, Cond.selects RX4 yX4_rest yX4_rest, Cond.code yX4_rest cX4_rest 3 none, Cond.fieldLink RX4 341 "TradeHall$Orders" "extra" "[I", Cond.methodLink RX4 142 Lib.Math.min.name, Cond.static Lib.Math.min.name, Cond.initialized "java/lang/Math", Cond.code Lib.Math.min.name Lib.Math.min.code 2 (some .int), Cond.methodLink RX4 344 yX0_putLast]
def wsL_order_r6 : List Cond := [Cond.instanceMethod yX0_putLast, Cond.selects RX0 yX0_putLast yX0_putLast, Cond.code yX0_putLast cX0_putLast 7 none, Cond.fieldLink RX0 34 "TradeHall$Orders" "price" "[I", Cond.methodLink RX4 303 yX4_wouldTradeWholly, Cond.instanceMethod yX4_wouldTradeWholly, Cond.selects RX4 yX4_wouldTradeWholly yX4_wouldTradeWholly, Cond.code yX4_wouldTradeWholly cX4_wouldTradeWholly 9 (some .boolean), Cond.fieldLink RX4 319 "TradeHall$Books" "sizes" "[I", Cond.methodLink RX4 306 yX4_tradeUntilStopped, Cond.instanceMethod yX4_tradeUntilStopped, Cond.selects RX4 yX4_tradeUntilStopped yX4_tradeUntilStopped, Cond.code yX4_tradeUntilStopped cX4_tradeUntilStopped 6 (some .boolean), Cond.methodLink RX4 322 yX4_makeTrade, Cond.instanceMethod yX4_makeTrade, Cond.selects RX4 yX4_makeTrade yX4_makeTrade, Cond.code yX4_makeTrade cX4_makeTrade 9 none, Cond.fieldLink RX4 35 "TradeHall" "tape" "LTradeHall$Tape;", Cond.methodLink RX4 328 yX1_handOver, Cond.instanceMethod yX1_handOver, Cond.selects RX1 yX1_handOver yX1_handOver, Cond.code yX1_handOver cX1_handOver 10 none, Cond.fieldLink RX1 25 "TradeHall$Ledger" "bought" "[I", Cond.fieldLink RX1 28 "TradeHall$Ledger" "sold" "[I"]
def wsL_order_r7 : List Cond := [Cond.methodLink RX4 332 yX2_fill, Cond.instanceMethod yX2_fill, Cond.selects RX2 yX2_fill yX2_fill, Cond.code yX2_fill cX2_fill 3 none, Cond.fieldLink RX2 42 "TradeHall$Orders" "traded" "[I", Cond.methodLink RX4 335 yX3_note, Cond.instanceMethod yX3_note, Cond.selects RX3 yX3_note yX3_note, Cond.initialized RX3, Cond.code yX3_note cX3_note 6 none, Cond.fieldLink RX3 36 "TradeHall$Tape" "trades" "I", Cond.fieldLink RX3 9 "TradeHall$Tape" "came" "[I", Cond.fieldLink RX3 15 "TradeHall$Tape" "rested" "[I", Cond.fieldLink RX3 18 "TradeHall$Tape" "price" "[I", Cond.fieldLink RX3 21 "TradeHall$Tape" "amount" "[I", Cond.fieldLink RX3 30 "TradeHall$Tape" "least" "[I", Cond.fieldLink RX3 24 "TradeHall$Tape" "last" "[I", Cond.methodLink RX3 40 Lib.Math.min.name, Cond.fieldLink RX3 27 "TradeHall$Tape" "greatest" "[I", Cond.methodLink RX3 46 Lib.Math.max.name, Cond.static Lib.Math.max.name, Cond.code Lib.Math.max.name Lib.Math.max.code 2 (some .int), Cond.fieldLink RX3 33 "TradeHall$Tape" "volume" "[I", Cond.methodLink RX4 325 yX4_showLess]
def wsL_order_r8 : List Cond := [Cond.instanceMethod yX4_showLess, Cond.selects RX4 yX4_showLess yX4_showLess, Cond.code yX4_showLess cX4_showLess 3 none, Cond.methodLink RX4 338 yX0_drop, Cond.instanceMethod yX0_drop, Cond.selects RX0 yX0_drop yX0_drop, Cond.code yX0_drop cX0_drop 7 none, Cond.methodLink RX4 116 yX4_wakeStop, Cond.instanceMethod yX4_wakeStop, Cond.selects RX4 yX4_wakeStop yX4_wakeStop, Cond.code yX4_wakeStop cX4_wakeStop 4 (some .int), Cond.fieldLink RX4 255 "TradeHall$Tape" "last" "[I", Cond.methodLink RX4 309 yX2_isWokenBy, Cond.instanceMethod yX2_isWokenBy, Cond.selects RX2 yX2_isWokenBy yX2_isWokenBy, Cond.code yX2_isWokenBy cX2_isWokenBy 3 (some .boolean)]
def wsL_order : List Cond := .codeWith yL_order cL_order 10 (some .int) [(0, 20, 23, 13), (0, 20, 27, 15), (0, 20, 31, 17)] :: ((wsL_order_r1 ++ (wsL_order_r2 ++ (wsL_order_r3 ++ (wsL_order_r4 ++ (wsL_order_r5 ++ (wsL_order_r6 ++ (wsL_order_r7 ++ wsL_order_r8))))))) ++ wsX40 ++ wsX20 ++ wsX10 ++ wsX00 ++ wsX30 ++ (vx_atS RX4 62 "java/lang/IllegalStateException" ["java/lang/RuntimeException", "java/lang/Exception"]).filter goodWord ++ (vx_atS RX4 183 "java/lang/IndexOutOfBoundsException" ["java/lang/RuntimeException", "java/lang/Exception"]).filter goodWord ++ (vx_atS RX4 136 "java/lang/IllegalArgumentException" ["java/lang/RuntimeException", "java/lang/Exception"]).filter goodWord)
def wsL_cancel_r1 : List Cond := [Cond.classLink RL 13 "java/lang/IndexOutOfBoundsException", Cond.classLink RL 15 "java/lang/IllegalArgumentException", Cond.classLink RL 17 "java/lang/IllegalStateException", Cond.methodLink RL 30 yX4_cancel, Cond.instanceMethod yX4_cancel, Cond.selects RX4 yX4_cancel yX4_cancel, Cond.initialized RX4, Cond.code yX4_cancel cX4_cancel 4 (some .int), Cond.fieldLink RX4 19 "TradeHall" "orders" "LTradeHall$Orders;", Cond.fieldLink RX4 126 "TradeHall$Orders" "left" "[I", Cond.methodLink RX4 120 yX4_needOwnOrder, Cond.instanceMethod yX4_needOwnOrder, Cond.selects RX4 yX4_needOwnOrder yX4_needOwnOrder, Cond.code yX4_needOwnOrder cX4_needOwnOrder 3 none, Cond.classLink RX4 132 "java/lang/IllegalArgumentException", Cond.initialized "java/lang/IllegalArgumentException", Cond.fieldLink RX4 198 "TradeHall$Orders" "account" "[I", Cond.methodLink RX4 43 yX4_needAccount, Cond.static yX4_needAccount, Cond.code yX4_needAccount cX4_needAccount 1 none, Cond.classLink RX4 179 "java/lang/IndexOutOfBoundsException", Cond.initialized "java/lang/IndexOutOfBoundsException", Cond.methodLink RX4 195 yX4_needOrder, Cond.instanceMethod yX4_needOrder]
def wsL_cancel_r2 : List Cond := [Cond.selects RX4 yX4_needOrder yX4_needOrder, Cond.code yX4_needOrder cX4_needOrder 2 none, Cond.fieldLink RX4 100 "TradeHall$Orders" "taken" "I", Cond.methodLink RX4 123 yX4_needThere, Cond.instanceMethod yX4_needThere, Cond.selects RX4 yX4_needThere yX4_needThere, Cond.code yX4_needThere cX4_needThere 2 none, Cond.classLink RX4 58 "java/lang/IllegalStateException", Cond.initialized "java/lang/IllegalStateException", Cond.methodLink RX4 154 yX2_isThere, Cond.instanceMethod yX2_isThere, Cond.selects RX2 yX2_isThere yX2_isThere, Cond.initialized RX2, Cond.code yX2_isThere cX2_isThere 2 (some .boolean), Cond.fieldLink RX2 36 "TradeHall$Orders" "state" "[I", Cond.methodLink RX4 129 yX4_takeAway, Cond.instanceMethod yX4_takeAway, Cond.selects RX4 yX4_takeAway yX4_takeAway, Cond.code yX4_takeAway cX4_takeAway 2 none, Cond.fieldLink RX4 201 "TradeHall$Orders" "state" "[I", Cond.fieldLink RX4 28 "TradeHall" "books" "LTradeHall$Books;", Cond.methodLink RX4 338 yX0_drop, Cond.instanceMethod yX0_drop, Cond.selects RX0 yX0_drop yX0_drop]
def wsL_cancel_r3 : List Cond := [Cond.initialized RX0, Cond.code yX0_drop cX0_drop 7 none, Cond.fieldLink RX0 18 "TradeHall$Books" "orders" "LTradeHall$Orders;", Cond.fieldLink RX0 22 "TradeHall$Orders" "symbol" "[I", Cond.fieldLink RX0 27 "TradeHall$Orders" "side" "[I", Cond.fieldLink RX0 15 "TradeHall$Books" "sizes" "[I", Cond.fieldLink RX0 9 "TradeHall$Books" "rows" "[I", Cond.methodLink RX0 30 yX0_bookOf, Cond.static yX0_bookOf, Cond.code yX0_bookOf cX0_bookOf 2 (some .int), Cond.methodLink RX4 297 yX4_close, Cond.instanceMethod yX4_close, Cond.selects RX4 yX4_close yX4_close, Cond.code yX4_close cX4_close 3 none, Cond.fieldLink RX4 139 "TradeHall$Orders" "shown" "[I", Cond.fieldLink RX4 97 "TradeHall$Orders" "there" "I", Cond.methodLink RX4 109 yX4_hold, Cond.instanceMethod yX4_hold, Cond.selects RX4 yX4_hold yX4_hold, Cond.code yX4_hold cX4_hold 4 none, Cond.fieldLink RX4 214 "TradeHall$Orders" "side" "[I", Cond.fieldLink RX4 10 "TradeHall" "ledger" "LTradeHall$Ledger;", Cond.fieldLink RX4 217 "TradeHall$Ledger" "cashHeld" "[J", Cond.fieldLink RX4 169 "TradeHall$Orders" "price" "[I"]
def wsL_cancel_r4 : List Cond := [Cond.fieldLink RX4 222 "TradeHall$Ledger" "sharesHeld" "[I", Cond.fieldLink RX4 211 "TradeHall$Orders" "symbol" "[I", Cond.methodLink RX4 78 yX1_placeOf, Cond.static yX1_placeOf, Cond.initialized RX1, Cond.code yX1_placeOf cX1_placeOf 2 (some .int)]
def wsL_cancel : List Cond := .codeWith yL_cancel cL_cancel 5 (some .int) [(0, 10, 13, 13), (0, 10, 17, 15), (0, 10, 21, 17)] :: ((wsL_cancel_r1 ++ (wsL_cancel_r2 ++ (wsL_cancel_r3 ++ wsL_cancel_r4))) ++ wsX40 ++ wsX20 ++ wsX00 ++ wsX10 ++ (vx_atS RX4 136 "java/lang/IllegalArgumentException" ["java/lang/RuntimeException", "java/lang/Exception"]).filter goodWord ++ (vx_atS RX4 183 "java/lang/IndexOutOfBoundsException" ["java/lang/RuntimeException", "java/lang/Exception"]).filter goodWord ++ (vx_atS RX4 62 "java/lang/IllegalStateException" ["java/lang/RuntimeException", "java/lang/Exception"]).filter goodWord)
def wsL_reduce_r1 : List Cond := [Cond.classLink RL 13 "java/lang/IndexOutOfBoundsException", Cond.classLink RL 15 "java/lang/IllegalArgumentException", Cond.classLink RL 17 "java/lang/IllegalStateException", Cond.methodLink RL 34 yX4_reduce, Cond.instanceMethod yX4_reduce, Cond.selects RX4 yX4_reduce yX4_reduce, Cond.initialized RX4, Cond.code yX4_reduce cX4_reduce 4 (some .int), Cond.classLink RX4 132 "java/lang/IllegalArgumentException", Cond.initialized "java/lang/IllegalArgumentException", Cond.classLink RX4 58 "java/lang/IllegalStateException", Cond.initialized "java/lang/IllegalStateException", Cond.fieldLink RX4 19 "TradeHall" "orders" "LTradeHall$Orders;", Cond.fieldLink RX4 126 "TradeHall$Orders" "left" "[I", Cond.fieldLink RX4 139 "TradeHall$Orders" "shown" "[I", Cond.methodLink RX4 142 Lib.Math.min.name, Cond.static Lib.Math.min.name, Cond.initialized "java/lang/Math", Cond.code Lib.Math.min.name Lib.Math.min.code 2 (some .int), Cond.methodLink RX4 120 yX4_needOwnOrder, Cond.instanceMethod yX4_needOwnOrder, Cond.selects RX4 yX4_needOwnOrder yX4_needOwnOrder, Cond.code yX4_needOwnOrder cX4_needOwnOrder 3 none, Cond.fieldLink RX4 198 "TradeHall$Orders" "account" "[I"]
def wsL_reduce_r2 : List Cond := [Cond.methodLink RX4 43 yX4_needAccount, Cond.static yX4_needAccount, Cond.code yX4_needAccount cX4_needAccount 1 none, Cond.classLink RX4 179 "java/lang/IndexOutOfBoundsException", Cond.initialized "java/lang/IndexOutOfBoundsException", Cond.methodLink RX4 195 yX4_needOrder, Cond.instanceMethod yX4_needOrder, Cond.selects RX4 yX4_needOrder yX4_needOrder, Cond.code yX4_needOrder cX4_needOrder 2 none, Cond.fieldLink RX4 100 "TradeHall$Orders" "taken" "I", Cond.methodLink RX4 123 yX4_needThere, Cond.instanceMethod yX4_needThere, Cond.selects RX4 yX4_needThere yX4_needThere, Cond.code yX4_needThere cX4_needThere 2 none, Cond.methodLink RX4 154 yX2_isThere, Cond.instanceMethod yX2_isThere, Cond.selects RX2 yX2_isThere yX2_isThere, Cond.initialized RX2, Cond.code yX2_isThere cX2_isThere 2 (some .boolean), Cond.fieldLink RX2 36 "TradeHall$Orders" "state" "[I", Cond.methodLink RX4 109 yX4_hold, Cond.instanceMethod yX4_hold, Cond.selects RX4 yX4_hold yX4_hold, Cond.code yX4_hold cX4_hold 4 none]
def wsL_reduce_r3 : List Cond := [Cond.fieldLink RX4 214 "TradeHall$Orders" "side" "[I", Cond.fieldLink RX4 10 "TradeHall" "ledger" "LTradeHall$Ledger;", Cond.fieldLink RX4 217 "TradeHall$Ledger" "cashHeld" "[J", Cond.fieldLink RX4 169 "TradeHall$Orders" "price" "[I", Cond.fieldLink RX4 222 "TradeHall$Ledger" "sharesHeld" "[I", Cond.fieldLink RX4 211 "TradeHall$Orders" "symbol" "[I", Cond.methodLink RX4 78 yX1_placeOf, Cond.static yX1_placeOf, Cond.initialized RX1, Cond.code yX1_placeOf cX1_placeOf 2 (some .int)]
def wsL_reduce : List Cond := .codeWith yL_reduce cL_reduce 6 (some .int) [(0, 12, 15, 13), (0, 12, 19, 15), (0, 12, 23, 17)] :: ((wsL_reduce_r1 ++ (wsL_reduce_r2 ++ wsL_reduce_r3)) ++ wsX40 ++ wsX20 ++ wsX10 ++ (vx_atS RX4 136 "java/lang/IllegalArgumentException" ["java/lang/RuntimeException", "java/lang/Exception"]).filter goodWord ++ (vx_atS RX4 62 "java/lang/IllegalStateException" ["java/lang/RuntimeException", "java/lang/Exception"]).filter goodWord ++ (vx_atS RX4 183 "java/lang/IndexOutOfBoundsException" ["java/lang/RuntimeException", "java/lang/Exception"]).filter goodWord)
def wsL_until_r1 : List Cond := [Cond.classLink RL 13 "java/lang/IndexOutOfBoundsException", Cond.classLink RL 15 "java/lang/IllegalArgumentException", Cond.classLink RL 17 "java/lang/IllegalStateException", Cond.methodLink RL 37 yX4_until, Cond.instanceMethod yX4_until, Cond.selects RX4 yX4_until yX4_until, Cond.initialized RX4, Cond.code yX4_until cX4_until 4 none, Cond.classLink RX4 132 "java/lang/IllegalArgumentException", Cond.initialized "java/lang/IllegalArgumentException", Cond.classLink RX4 58 "java/lang/IllegalStateException", Cond.initialized "java/lang/IllegalStateException", Cond.fieldLink RX4 39 "TradeHall" "now" "I", Cond.fieldLink RX4 19 "TradeHall" "orders" "LTradeHall$Orders;", Cond.fieldLink RX4 151 "TradeHall$Orders" "ends" "[I", Cond.methodLink RX4 120 yX4_needOwnOrder, Cond.instanceMethod yX4_needOwnOrder, Cond.selects RX4 yX4_needOwnOrder yX4_needOwnOrder, Cond.code yX4_needOwnOrder cX4_needOwnOrder 3 none, Cond.fieldLink RX4 198 "TradeHall$Orders" "account" "[I", Cond.methodLink RX4 43 yX4_needAccount, Cond.static yX4_needAccount, Cond.code yX4_needAccount cX4_needAccount 1 none, Cond.classLink RX4 179 "java/lang/IndexOutOfBoundsException"]
def wsL_until_r2 : List Cond := [Cond.initialized "java/lang/IndexOutOfBoundsException", Cond.methodLink RX4 195 yX4_needOrder, Cond.instanceMethod yX4_needOrder, Cond.selects RX4 yX4_needOrder yX4_needOrder, Cond.code yX4_needOrder cX4_needOrder 2 none, Cond.fieldLink RX4 100 "TradeHall$Orders" "taken" "I", Cond.methodLink RX4 123 yX4_needThere, Cond.instanceMethod yX4_needThere, Cond.selects RX4 yX4_needThere yX4_needThere, Cond.code yX4_needThere cX4_needThere 2 none, Cond.methodLink RX4 154 yX2_isThere, Cond.instanceMethod yX2_isThere, Cond.selects RX2 yX2_isThere yX2_isThere, Cond.initialized RX2, Cond.code yX2_isThere cX2_isThere 2 (some .boolean), Cond.fieldLink RX2 36 "TradeHall$Orders" "state" "[I"]
def wsL_until : List Cond := .codeWith yL_until cL_until 5 (some .int) [(0, 7, 10, 13), (0, 7, 14, 15), (0, 7, 18, 17)] :: ((wsL_until_r1 ++ wsL_until_r2) ++ wsX40 ++ wsX20 ++ (vx_atS RX4 136 "java/lang/IllegalArgumentException" ["java/lang/RuntimeException", "java/lang/Exception"]).filter goodWord ++ (vx_atS RX4 62 "java/lang/IllegalStateException" ["java/lang/RuntimeException", "java/lang/Exception"]).filter goodWord ++ (vx_atS RX4 183 "java/lang/IndexOutOfBoundsException" ["java/lang/RuntimeException", "java/lang/Exception"]).filter goodWord)
def wsL_pass_r1 : List Cond := [Cond.classLink RL 15 "java/lang/IllegalArgumentException", Cond.methodLink RL 41 yX4_pass, Cond.instanceMethod yX4_pass, Cond.selects RX4 yX4_pass yX4_pass, Cond.initialized RX4, Cond.code yX4_pass cX4_pass 4 (some .int), Cond.constant RX4 77 (1000000), Cond.fieldLink RX4 39 "TradeHall" "now" "I", Cond.fieldLink RX4 19 "TradeHall" "orders" "LTradeHall$Orders;", Cond.fieldLink RX4 100 "TradeHall$Orders" "taken" "I", Cond.fieldLink RX4 151 "TradeHall$Orders" "ends" "[I", Cond.methodLink RX4 48 yX4_needWithin, Cond.static yX4_needWithin, Cond.code yX4_needWithin cX4_needWithin 3 none, Cond.classLink RX4 132 "java/lang/IllegalArgumentException", Cond.initialized "java/lang/IllegalArgumentException", Cond.methodLink RX4 154 yX2_isThere, Cond.instanceMethod yX2_isThere, Cond.selects RX2 yX2_isThere yX2_isThere, Cond.initialized RX2, Cond.code yX2_isThere cX2_isThere 2 (some .boolean), Cond.fieldLink RX2 36 "TradeHall$Orders" "state" "[I", Cond.methodLink RX4 129 yX4_takeAway, Cond.instanceMethod yX4_takeAway]
def wsL_pass_r2 : List Cond := [Cond.selects RX4 yX4_takeAway yX4_takeAway, Cond.code yX4_takeAway cX4_takeAway 2 none, Cond.fieldLink RX4 201 "TradeHall$Orders" "state" "[I", Cond.fieldLink RX4 28 "TradeHall" "books" "LTradeHall$Books;", Cond.methodLink RX4 338 yX0_drop, Cond.instanceMethod yX0_drop, Cond.selects RX0 yX0_drop yX0_drop, Cond.initialized RX0, Cond.code yX0_drop cX0_drop 7 none, Cond.fieldLink RX0 18 "TradeHall$Books" "orders" "LTradeHall$Orders;", Cond.fieldLink RX0 22 "TradeHall$Orders" "symbol" "[I", Cond.fieldLink RX0 27 "TradeHall$Orders" "side" "[I", Cond.fieldLink RX0 15 "TradeHall$Books" "sizes" "[I", Cond.fieldLink RX0 9 "TradeHall$Books" "rows" "[I", Cond.methodLink RX0 30 yX0_bookOf, Cond.static yX0_bookOf, Cond.code yX0_bookOf cX0_bookOf 2 (some .int), Cond.methodLink RX4 297 yX4_close, Cond.instanceMethod yX4_close, Cond.selects RX4 yX4_close yX4_close, Cond.code yX4_close cX4_close 3 none, Cond.fieldLink RX4 126 "TradeHall$Orders" "left" "[I", Cond.fieldLink RX4 139 "TradeHall$Orders" "shown" "[I", Cond.fieldLink RX4 97 "TradeHall$Orders" "there" "I"]
def wsL_pass_r3 : List Cond := [Cond.methodLink RX4 109 yX4_hold, Cond.instanceMethod yX4_hold, Cond.selects RX4 yX4_hold yX4_hold, Cond.code yX4_hold cX4_hold 4 none, Cond.fieldLink RX4 198 "TradeHall$Orders" "account" "[I", Cond.fieldLink RX4 214 "TradeHall$Orders" "side" "[I", Cond.fieldLink RX4 10 "TradeHall" "ledger" "LTradeHall$Ledger;", Cond.fieldLink RX4 217 "TradeHall$Ledger" "cashHeld" "[J", Cond.fieldLink RX4 169 "TradeHall$Orders" "price" "[I", Cond.fieldLink RX4 222 "TradeHall$Ledger" "sharesHeld" "[I", Cond.fieldLink RX4 211 "TradeHall$Orders" "symbol" "[I", Cond.methodLink RX4 78 yX1_placeOf, Cond.static yX1_placeOf, Cond.initialized RX1, Cond.code yX1_placeOf cX1_placeOf 2 (some .int)]
def wsL_pass : List Cond := .codeWith yL_pass cL_pass 4 (some .int) [(0, 9, 12, 15)] :: ((wsL_pass_r1 ++ (wsL_pass_r2 ++ wsL_pass_r3)) ++ wsX40 ++ wsX20 ++ wsX00 ++ wsX10 ++ (vx_atS RX4 136 "java/lang/IllegalArgumentException" ["java/lang/RuntimeException", "java/lang/Exception"]).filter goodWord)
def wsL_best_r1 : List Cond := [Cond.classLink RL 13 "java/lang/IndexOutOfBoundsException", Cond.classLink RL 15 "java/lang/IllegalArgumentException", Cond.classLink RL 48 "java/util/NoSuchElementException", Cond.methodLink RL 45 yX4_best, Cond.instanceMethod yX4_best, Cond.selects RX4 yX4_best yX4_best, Cond.initialized RX4, Cond.code yX4_best cX4_best 4 (some .int), Cond.classLink RX4 164 "java/util/NoSuchElementException", Cond.initialized "java/util/NoSuchElementException", Cond.fieldLink RX4 28 "TradeHall" "books" "LTradeHall$Books;", Cond.fieldLink RX4 19 "TradeHall" "orders" "LTradeHall$Orders;", Cond.fieldLink RX4 169 "TradeHall$Orders" "price" "[I", Cond.methodLink RX4 74 yX4_needSymbol, Cond.static yX4_needSymbol, Cond.code yX4_needSymbol cX4_needSymbol 1 none, Cond.classLink RX4 179 "java/lang/IndexOutOfBoundsException", Cond.initialized "java/lang/IndexOutOfBoundsException", Cond.methodLink RX4 88 yX4_needSide, Cond.static yX4_needSide, Cond.code yX4_needSide cX4_needSide 1 none, Cond.classLink RX4 132 "java/lang/IllegalArgumentException", Cond.initialized "java/lang/IllegalArgumentException", Cond.methodLink RX4 158 yX0_bookOf]
def wsL_best_r2 : List Cond := [Cond.static yX0_bookOf, Cond.initialized RX0, Cond.code yX0_bookOf cX0_bookOf 2 (some .int), Cond.methodLink RX4 161 yX0_orderAt, Cond.instanceMethod yX0_orderAt, Cond.selects RX0 yX0_orderAt yX0_orderAt, Cond.code yX0_orderAt cX0_orderAt 3 (some .int), Cond.fieldLink RX0 15 "TradeHall$Books" "sizes" "[I", Cond.fieldLink RX0 9 "TradeHall$Books" "rows" "[I"]
def wsL_best : List Cond := .codeWith yL_best cL_best 5 (some .int) [(0, 10, 13, 13), (0, 10, 17, 15), (0, 10, 21, 48)] :: ((wsL_best_r1 ++ wsL_best_r2) ++ wsX40 ++ wsX20 ++ wsX00 ++ (vx_atS RX4 168 "java/util/NoSuchElementException" ["java/lang/RuntimeException", "java/lang/Exception"]).filter goodWord ++ (vx_atS RX4 183 "java/lang/IndexOutOfBoundsException" ["java/lang/RuntimeException", "java/lang/Exception"]).filter goodWord ++ (vx_atS RX4 136 "java/lang/IllegalArgumentException" ["java/lang/RuntimeException", "java/lang/Exception"]).filter goodWord)
def wsL_depth_r1 : List Cond := [Cond.classLink RL 13 "java/lang/IndexOutOfBoundsException", Cond.classLink RL 15 "java/lang/IllegalArgumentException", Cond.methodLink RL 50 yX4_depth, Cond.instanceMethod yX4_depth, Cond.selects RX4 yX4_depth yX4_depth, Cond.initialized RX4, Cond.code yX4_depth cX4_depth 5 (some .int), Cond.fieldLink RX4 28 "TradeHall" "books" "LTradeHall$Books;", Cond.methodLink RX4 74 yX4_needSymbol, Cond.static yX4_needSymbol, Cond.code yX4_needSymbol cX4_needSymbol 1 none, Cond.classLink RX4 179 "java/lang/IndexOutOfBoundsException", Cond.initialized "java/lang/IndexOutOfBoundsException", Cond.methodLink RX4 88 yX4_needSide, Cond.static yX4_needSide, Cond.code yX4_needSide cX4_needSide 1 none, Cond.classLink RX4 132 "java/lang/IllegalArgumentException", Cond.initialized "java/lang/IllegalArgumentException", Cond.methodLink RX4 48 yX4_needWithin, Cond.static yX4_needWithin, Cond.code yX4_needWithin cX4_needWithin 3 none, Cond.methodLink RX4 158 yX0_bookOf, Cond.static yX0_bookOf, Cond.initialized RX0]
def wsL_depth_r2 : List Cond := [Cond.code yX0_bookOf cX0_bookOf 2 (some .int), Cond.methodLink RX4 172 yX0_countPrices, Cond.instanceMethod yX0_countPrices, Cond.selects RX0 yX0_countPrices yX0_countPrices, Cond.code yX0_countPrices cX0_countPrices 6 (some .int), Cond.fieldLink RX0 15 "TradeHall$Books" "sizes" "[I", Cond.fieldLink RX0 18 "TradeHall$Books" "orders" "LTradeHall$Orders;", Cond.fieldLink RX0 34 "TradeHall$Orders" "price" "[I", Cond.fieldLink RX0 9 "TradeHall$Books" "rows" "[I", Cond.methodLink RX4 175 yX0_sumShown, Cond.instanceMethod yX0_sumShown, Cond.selects RX0 yX0_sumShown yX0_sumShown, Cond.code yX0_sumShown cX0_sumShown 7 (some .int), Cond.fieldLink RX0 40 "TradeHall$Orders" "shown" "[I"]
def wsL_depth : List Cond := .codeWith yL_depth cL_depth 6 (some .int) [(0, 12, 15, 13), (0, 12, 19, 15)] :: ((wsL_depth_r1 ++ wsL_depth_r2) ++ wsX40 ++ wsX00 ++ wsX20 ++ (vx_atS RX4 183 "java/lang/IndexOutOfBoundsException" ["java/lang/RuntimeException", "java/lang/Exception"]).filter goodWord ++ (vx_atS RX4 136 "java/lang/IllegalArgumentException" ["java/lang/RuntimeException", "java/lang/Exception"]).filter goodWord)
def wsL_level_r1 : List Cond := [Cond.classLink RL 13 "java/lang/IndexOutOfBoundsException", Cond.classLink RL 15 "java/lang/IllegalArgumentException", Cond.methodLink RL 53 yX4_level, Cond.instanceMethod yX4_level, Cond.selects RX4 yX4_level yX4_level, Cond.initialized RX4, Cond.code yX4_level cX4_level 7 (some .int), Cond.classLink RX4 179 "java/lang/IndexOutOfBoundsException", Cond.initialized "java/lang/IndexOutOfBoundsException", Cond.classLink RX4 132 "java/lang/IllegalArgumentException", Cond.initialized "java/lang/IllegalArgumentException", Cond.fieldLink RX4 28 "TradeHall" "books" "LTradeHall$Books;", Cond.methodLink RX4 74 yX4_needSymbol, Cond.static yX4_needSymbol, Cond.code yX4_needSymbol cX4_needSymbol 1 none, Cond.methodLink RX4 88 yX4_needSide, Cond.static yX4_needSide, Cond.code yX4_needSide cX4_needSide 1 none, Cond.methodLink RX4 158 yX0_bookOf, Cond.static yX0_bookOf, Cond.initialized RX0, Cond.code yX0_bookOf cX0_bookOf 2 (some .int), Cond.methodLink RX4 184 yX0_priceOfLevel, Cond.instanceMethod yX0_priceOfLevel]
def wsL_level_r2 : List Cond := [Cond.selects RX0 yX0_priceOfLevel yX0_priceOfLevel, Cond.code yX0_priceOfLevel cX0_priceOfLevel 7 (some .int), Cond.fieldLink RX0 15 "TradeHall$Books" "sizes" "[I", Cond.fieldLink RX0 18 "TradeHall$Books" "orders" "LTradeHall$Orders;", Cond.fieldLink RX0 34 "TradeHall$Orders" "price" "[I", Cond.fieldLink RX0 9 "TradeHall$Books" "rows" "[I", Cond.methodLink RX4 187 yX0_countOrders, Cond.instanceMethod yX0_countOrders, Cond.selects RX0 yX0_countOrders yX0_countOrders, Cond.code yX0_countOrders cX0_countOrders 5 (some .int), Cond.methodLink RX4 190 yX0_sumLeft, Cond.instanceMethod yX0_sumLeft, Cond.selects RX0 yX0_sumLeft yX0_sumLeft, Cond.code yX0_sumLeft cX0_sumLeft 6 (some .int), Cond.fieldLink RX0 37 "TradeHall$Orders" "left" "[I"]
def wsL_level : List Cond := .codeWith yL_level cL_level 7 (some .int) [(0, 14, 17, 13), (0, 14, 21, 15)] :: ((wsL_level_r1 ++ wsL_level_r2) ++ wsX40 ++ wsX00 ++ wsX20 ++ (vx_atS RX4 183 "java/lang/IndexOutOfBoundsException" ["java/lang/RuntimeException", "java/lang/Exception"]).filter goodWord ++ (vx_atS RX4 136 "java/lang/IllegalArgumentException" ["java/lang/RuntimeException", "java/lang/Exception"]).filter goodWord)
def wsL_about : List Cond := .codeWith yL_about cL_about 5 (some .int) [(0, 10, 13, 13), (0, 10, 17, 15)] :: ([.classLink RL 13 "java/lang/IndexOutOfBoundsException", .classLink RL 15 "java/lang/IllegalArgumentException", .methodLink RL 57 yX4_about, .instanceMethod yX4_about, .selects RX4 yX4_about yX4_about, .initialized RX4, .code yX4_about cX4_about 3 (some .int), .classLink RX4 132 "java/lang/IllegalArgumentException", .initialized "java/lang/IllegalArgumentException", .fieldLink RX4 19 "TradeHall" "orders" "LTradeHall$Orders;", .fieldLink RX4 198 "TradeHall$Orders" "account" "[I", .fieldLink RX4 126 "TradeHall$Orders" "left" "[I", .fieldLink RX4 139 "TradeHall$Orders" "shown" "[I", .fieldLink RX4 201 "TradeHall$Orders" "state" "[I", .fieldLink RX4 151 "TradeHall$Orders" "ends" "[I", .fieldLink RX4 204 "TradeHall$Orders" "traded" "[I", .methodLink RX4 195 yX4_needOrder, .instanceMethod yX4_needOrder, .selects RX4 yX4_needOrder yX4_needOrder, .code yX4_needOrder cX4_needOrder 2 none, .classLink RX4 179 "java/lang/IndexOutOfBoundsException", .initialized "java/lang/IndexOutOfBoundsException", .fieldLink RX4 100 "TradeHall$Orders" "taken" "I"] ++ wsX40 ++ wsX20 ++ (vx_atS RX4 136 "java/lang/IllegalArgumentException" ["java/lang/RuntimeException", "java/lang/Exception"]).filter goodWord ++ (vx_atS RX4 183 "java/lang/IndexOutOfBoundsException" ["java/lang/RuntimeException", "java/lang/Exception"]).filter goodWord)
def wsL_ahead_r1 : List Cond := [Cond.classLink RL 13 "java/lang/IndexOutOfBoundsException", Cond.classLink RL 48 "java/util/NoSuchElementException", Cond.methodLink RL 60 yX4_ahead, Cond.instanceMethod yX4_ahead, Cond.selects RX4 yX4_ahead yX4_ahead, Cond.initialized RX4, Cond.code yX4_ahead cX4_ahead 3 (some .int), Cond.classLink RX4 164 "java/util/NoSuchElementException", Cond.initialized "java/util/NoSuchElementException", Cond.fieldLink RX4 19 "TradeHall" "orders" "LTradeHall$Orders;", Cond.fieldLink RX4 201 "TradeHall$Orders" "state" "[I", Cond.fieldLink RX4 211 "TradeHall$Orders" "symbol" "[I", Cond.fieldLink RX4 214 "TradeHall$Orders" "side" "[I", Cond.fieldLink RX4 28 "TradeHall" "books" "LTradeHall$Books;", Cond.fieldLink RX4 169 "TradeHall$Orders" "price" "[I", Cond.methodLink RX4 195 yX4_needOrder, Cond.instanceMethod yX4_needOrder, Cond.selects RX4 yX4_needOrder yX4_needOrder, Cond.code yX4_needOrder cX4_needOrder 2 none, Cond.classLink RX4 179 "java/lang/IndexOutOfBoundsException", Cond.initialized "java/lang/IndexOutOfBoundsException", Cond.fieldLink RX4 100 "TradeHall$Orders" "taken" "I", Cond.methodLink RX4 158 yX0_bookOf, Cond.static yX0_bookOf]
def wsL_ahead_r2 : List Cond := [Cond.initialized RX0, Cond.code yX0_bookOf cX0_bookOf 2 (some .int), Cond.methodLink RX4 175 yX0_sumShown, Cond.instanceMethod yX0_sumShown, Cond.selects RX0 yX0_sumShown yX0_sumShown, Cond.code yX0_sumShown cX0_sumShown 7 (some .int), Cond.fieldLink RX0 15 "TradeHall$Books" "sizes" "[I", Cond.fieldLink RX0 9 "TradeHall$Books" "rows" "[I", Cond.fieldLink RX0 18 "TradeHall$Books" "orders" "LTradeHall$Orders;", Cond.fieldLink RX0 34 "TradeHall$Orders" "price" "[I", Cond.fieldLink RX0 40 "TradeHall$Orders" "shown" "[I"]
def wsL_ahead : List Cond := .codeWith yL_ahead cL_ahead 4 (some .int) [(0, 9, 12, 13), (0, 9, 15, 48)] :: ((wsL_ahead_r1 ++ wsL_ahead_r2) ++ wsX40 ++ wsX20 ++ wsX00 ++ (vx_atS RX4 168 "java/util/NoSuchElementException" ["java/lang/RuntimeException", "java/lang/Exception"]).filter goodWord ++ (vx_atS RX4 183 "java/lang/IndexOutOfBoundsException" ["java/lang/RuntimeException", "java/lang/Exception"]).filter goodWord)
def wsL_cash : List Cond := .codeWith yL_cash cL_cash 5 (some .int) [(0, 9, 12, 13), (0, 9, 16, 15)] :: ([.classLink RL 13 "java/lang/IndexOutOfBoundsException", .classLink RL 15 "java/lang/IllegalArgumentException", .methodLink RL 63 yX4_cash, .instanceMethod yX4_cash, .selects RX4 yX4_cash yX4_cash, .initialized RX4, .code yX4_cash cX4_cash 3 (some .long), .classLink RX4 132 "java/lang/IllegalArgumentException", .initialized "java/lang/IllegalArgumentException", .fieldLink RX4 10 "TradeHall" "ledger" "LTradeHall$Ledger;", .fieldLink RX4 52 "TradeHall$Ledger" "cashOf" "[J", .fieldLink RX4 217 "TradeHall$Ledger" "cashHeld" "[J", .methodLink RX4 43 yX4_needAccount, .static yX4_needAccount, .code yX4_needAccount cX4_needAccount 1 none, .classLink RX4 179 "java/lang/IndexOutOfBoundsException", .initialized "java/lang/IndexOutOfBoundsException"] ++ wsX40 ++ wsX10 ++ (vx_atS RX4 136 "java/lang/IllegalArgumentException" ["java/lang/RuntimeException", "java/lang/Exception"]).filter goodWord ++ (vx_atS RX4 183 "java/lang/IndexOutOfBoundsException" ["java/lang/RuntimeException", "java/lang/Exception"]).filter goodWord)
def wsL_shares_r1 : List Cond := [Cond.classLink RL 13 "java/lang/IndexOutOfBoundsException", Cond.classLink RL 15 "java/lang/IllegalArgumentException", Cond.methodLink RL 66 yX4_shares, Cond.instanceMethod yX4_shares, Cond.selects RX4 yX4_shares yX4_shares, Cond.initialized RX4, Cond.code yX4_shares cX4_shares 5 (some .int), Cond.classLink RX4 132 "java/lang/IllegalArgumentException", Cond.initialized "java/lang/IllegalArgumentException", Cond.fieldLink RX4 10 "TradeHall" "ledger" "LTradeHall$Ledger;", Cond.fieldLink RX4 82 "TradeHall$Ledger" "sharesOf" "[I", Cond.fieldLink RX4 222 "TradeHall$Ledger" "sharesHeld" "[I", Cond.fieldLink RX4 225 "TradeHall$Ledger" "bought" "[I", Cond.fieldLink RX4 228 "TradeHall$Ledger" "sold" "[I", Cond.methodLink RX4 43 yX4_needAccount, Cond.static yX4_needAccount, Cond.code yX4_needAccount cX4_needAccount 1 none, Cond.classLink RX4 179 "java/lang/IndexOutOfBoundsException", Cond.initialized "java/lang/IndexOutOfBoundsException", Cond.methodLink RX4 74 yX4_needSymbol, Cond.static yX4_needSymbol, Cond.code yX4_needSymbol cX4_needSymbol 1 none, Cond.methodLink RX4 78 yX1_placeOf, Cond.static yX1_placeOf]
def wsL_shares_r2 : List Cond := [Cond.initialized RX1, Cond.code yX1_placeOf cX1_placeOf 2 (some .int)]
def wsL_shares : List Cond := .codeWith yL_shares cL_shares 6 (some .int) [(0, 12, 15, 13), (0, 12, 19, 15)] :: ((wsL_shares_r1 ++ wsL_shares_r2) ++ wsX40 ++ wsX10 ++ (vx_atS RX4 136 "java/lang/IllegalArgumentException" ["java/lang/RuntimeException", "java/lang/Exception"]).filter goodWord ++ (vx_atS RX4 183 "java/lang/IndexOutOfBoundsException" ["java/lang/RuntimeException", "java/lang/Exception"]).filter goodWord)
def wsL_count : List Cond := .codeWith yL_count cL_count 4 (some .int) [(0, 9, 12, 15)] :: ([.classLink RL 15 "java/lang/IllegalArgumentException", .methodLink RL 69 yX4_count, .instanceMethod yX4_count, .selects RX4 yX4_count yX4_count, .initialized RX4, .code yX4_count cX4_count 2 (some .int), .classLink RX4 132 "java/lang/IllegalArgumentException", .initialized "java/lang/IllegalArgumentException", .fieldLink RX4 35 "TradeHall" "tape" "LTradeHall$Tape;", .fieldLink RX4 233 "TradeHall$Tape" "trades" "I", .fieldLink RX4 19 "TradeHall" "orders" "LTradeHall$Orders;", .fieldLink RX4 100 "TradeHall$Orders" "taken" "I", .fieldLink RX4 97 "TradeHall$Orders" "there" "I", .fieldLink RX4 10 "TradeHall" "ledger" "LTradeHall$Ledger;", .fieldLink RX4 236 "TradeHall$Ledger" "knownCount" "I", .fieldLink RX4 39 "TradeHall" "now" "I"] ++ wsX40 ++ wsX30 ++ wsX20 ++ wsX10 ++ (vx_atS RX4 136 "java/lang/IllegalArgumentException" ["java/lang/RuntimeException", "java/lang/Exception"]).filter goodWord)
def wsL_trade : List Cond := .codeWith yL_trade cL_trade 5 (some .int) [(0, 10, 13, 13), (0, 10, 17, 15)] :: ([.classLink RL 13 "java/lang/IndexOutOfBoundsException", .classLink RL 15 "java/lang/IllegalArgumentException", .methodLink RL 72 yX4_trade, .instanceMethod yX4_trade, .selects RX4 yX4_trade yX4_trade, .initialized RX4, .code yX4_trade cX4_trade 3 (some .int), .classLink RX4 179 "java/lang/IndexOutOfBoundsException", .initialized "java/lang/IndexOutOfBoundsException", .classLink RX4 132 "java/lang/IllegalArgumentException", .initialized "java/lang/IllegalArgumentException", .fieldLink RX4 35 "TradeHall" "tape" "LTradeHall$Tape;", .fieldLink RX4 233 "TradeHall$Tape" "trades" "I", .fieldLink RX4 243 "TradeHall$Tape" "came" "[I", .fieldLink RX4 246 "TradeHall$Tape" "rested" "[I", .fieldLink RX4 249 "TradeHall$Tape" "price" "[I", .fieldLink RX4 250 "TradeHall$Tape" "amount" "[I"] ++ wsX40 ++ wsX30 ++ (vx_atS RX4 183 "java/lang/IndexOutOfBoundsException" ["java/lang/RuntimeException", "java/lang/Exception"]).filter goodWord ++ (vx_atS RX4 136 "java/lang/IllegalArgumentException" ["java/lang/RuntimeException", "java/lang/Exception"]).filter goodWord)
def wsL_symbol : List Cond := .codeWith yL_symbol cL_symbol 5 (some .int) [(0, 10, 13, 13), (0, 10, 17, 15)] :: ([.classLink RL 13 "java/lang/IndexOutOfBoundsException", .classLink RL 15 "java/lang/IllegalArgumentException", .methodLink RL 75 yX4_symbol, .instanceMethod yX4_symbol, .selects RX4 yX4_symbol yX4_symbol, .initialized RX4, .code yX4_symbol cX4_symbol 3 (some .int), .classLink RX4 132 "java/lang/IllegalArgumentException", .initialized "java/lang/IllegalArgumentException", .fieldLink RX4 35 "TradeHall" "tape" "LTradeHall$Tape;", .fieldLink RX4 255 "TradeHall$Tape" "last" "[I", .fieldLink RX4 258 "TradeHall$Tape" "greatest" "[I", .fieldLink RX4 261 "TradeHall$Tape" "least" "[I", .fieldLink RX4 264 "TradeHall$Tape" "volume" "[I", .methodLink RX4 74 yX4_needSymbol, .static yX4_needSymbol, .code yX4_needSymbol cX4_needSymbol 1 none, .classLink RX4 179 "java/lang/IndexOutOfBoundsException", .initialized "java/lang/IndexOutOfBoundsException"] ++ wsX40 ++ wsX30 ++ (vx_atS RX4 136 "java/lang/IllegalArgumentException" ["java/lang/RuntimeException", "java/lang/Exception"]).filter goodWord ++ (vx_atS RX4 183 "java/lang/IndexOutOfBoundsException" ["java/lang/RuntimeException", "java/lang/Exception"]).filter goodWord)
def wsL_busiest_r1 : List Cond := [Cond.classLink RL 13 "java/lang/IndexOutOfBoundsException", Cond.methodLink RL 78 yX4_busiest, Cond.instanceMethod yX4_busiest, Cond.selects RX4 yX4_busiest yX4_busiest, Cond.initialized RX4, Cond.code yX4_busiest cX4_busiest 4 (some .int), Cond.classLink RX4 179 "java/lang/IndexOutOfBoundsException", Cond.initialized "java/lang/IndexOutOfBoundsException", Cond.fieldLink RX4 10 "TradeHall" "ledger" "LTradeHall$Ledger;", Cond.methodLink RX4 74 yX4_needSymbol, Cond.static yX4_needSymbol, Cond.code yX4_needSymbol cX4_needSymbol 1 none, Cond.methodLink RX4 269 yX1_turnover, Cond.instanceMethod yX1_turnover, Cond.selects RX1 yX1_turnover yX1_turnover, Cond.initialized RX1, Cond.code yX1_turnover cX1_turnover 4 (some .int), Cond.fieldLink RX1 25 "TradeHall$Ledger" "bought" "[I", Cond.fieldLink RX1 28 "TradeHall$Ledger" "sold" "[I", Cond.methodLink RX1 43 yX1_placeOf, Cond.static yX1_placeOf, Cond.code yX1_placeOf cX1_placeOf 2 (some .int), Cond.methodLink RX4 272 yX1_countBusier, Cond.instanceMethod yX1_countBusier]
def wsL_busiest_r2 : List Cond := [Cond.selects RX1 yX1_countBusier yX1_countBusier, Cond.code yX1_countBusier cX1_countBusier 7 (some .int), Cond.methodLink RX1 47 yX1_turnover]
def wsL_busiest : List Cond := .codeWith yL_busiest cL_busiest 5 (some .int) [(0, 10, 13, 13)] :: ((wsL_busiest_r1 ++ wsL_busiest_r2) ++ wsX40 ++ wsX10 ++ (vx_atS RX4 183 "java/lang/IndexOutOfBoundsException" ["java/lang/RuntimeException", "java/lang/Exception"]).filter goodWord)
def wsL_law0_r1 : List Cond := [Cond.classLink RL 8 RX4, Cond.instantiable RX4 5, Cond.initialized RX4, Cond.classLink RL 82 RX5, Cond.instantiable RX5 32, Cond.initialized RX5, Cond.arrayClass .long, Cond.methodLink RL 81 yX4_init, Cond.instanceMethod yX4_init, Cond.code yX4_init cX4_init 1 none, Cond.methodLink RX4 1 objectInit, Cond.instanceMethod objectInit, Cond.code objectInit ⟨#[0xb1]⟩ 1 none, Cond.classLink RX4 7 RX1, Cond.instantiable RX1 8, Cond.initialized RX1, Cond.fieldLink RX4 10 "TradeHall" "ledger" "LTradeHall$Ledger;", Cond.classLink RX4 16 RX2, Cond.instantiable RX2 13, Cond.initialized RX2, Cond.fieldLink RX4 19 "TradeHall" "orders" "LTradeHall$Orders;", Cond.classLink RX4 23 RX0, Cond.instantiable RX0 3, Cond.initialized RX0]
def wsL_law0_r2 : List Cond := [Cond.fieldLink RX4 28 "TradeHall" "books" "LTradeHall$Books;", Cond.classLink RX4 32 RX3, Cond.instantiable RX3 9, Cond.initialized RX3, Cond.fieldLink RX4 35 "TradeHall" "tape" "LTradeHall$Tape;", Cond.fieldLink RX4 39 "TradeHall" "now" "I", Cond.instanceMethod yX1_init, Cond.code yX1_init cX1_init 1 none, Cond.methodLink RX1 3 objectInit, Cond.fieldLink RX1 9 "TradeHall$Ledger" "cashOf" "[J", Cond.fieldLink RX1 15 "TradeHall$Ledger" "cashHeld" "[J", Cond.arrayClass .int, Cond.fieldLink RX1 18 "TradeHall$Ledger" "sharesOf" "[I", Cond.fieldLink RX1 22 "TradeHall$Ledger" "sharesHeld" "[I", Cond.fieldLink RX1 25 "TradeHall$Ledger" "bought" "[I", Cond.fieldLink RX1 28 "TradeHall$Ledger" "sold" "[I", Cond.arrayClass .boolean, Cond.fieldLink RX1 31 "TradeHall$Ledger" "known" "[Z", Cond.fieldLink RX1 35 "TradeHall$Ledger" "knownCount" "I", Cond.instanceMethod yX2_init, Cond.code yX2_init cX2_init 1 none, Cond.methodLink RX2 3 objectInit, Cond.fieldLink RX2 9 "TradeHall$Orders" "account" "[I", Cond.fieldLink RX2 15 "TradeHall$Orders" "symbol" "[I"]
def wsL_law0_r3 : List Cond := [Cond.fieldLink RX2 18 "TradeHall$Orders" "side" "[I", Cond.fieldLink RX2 21 "TradeHall$Orders" "kind" "[I", Cond.fieldLink RX2 24 "TradeHall$Orders" "price" "[I", Cond.fieldLink RX2 27 "TradeHall$Orders" "extra" "[I", Cond.fieldLink RX2 30 "TradeHall$Orders" "left" "[I", Cond.fieldLink RX2 33 "TradeHall$Orders" "shown" "[I", Cond.fieldLink RX2 36 "TradeHall$Orders" "state" "[I", Cond.fieldLink RX2 39 "TradeHall$Orders" "ends" "[I", Cond.fieldLink RX2 42 "TradeHall$Orders" "traded" "[I", Cond.fieldLink RX2 45 "TradeHall$Orders" "taken" "I", Cond.fieldLink RX2 49 "TradeHall$Orders" "there" "I", Cond.methodLink RX4 25 yX0_init, Cond.instanceMethod yX0_init, Cond.code yX0_init cX0_init 2 none, Cond.methodLink RX0 3 objectInit, Cond.fieldLink RX0 9 "TradeHall$Books" "rows" "[I", Cond.fieldLink RX0 15 "TradeHall$Books" "sizes" "[I", Cond.fieldLink RX0 18 "TradeHall$Books" "orders" "LTradeHall$Orders;", Cond.instanceMethod yX3_init, Cond.code yX3_init cX3_init 1 none, Cond.methodLink RX3 3 objectInit, Cond.fieldLink RX3 9 "TradeHall$Tape" "came" "[I", Cond.fieldLink RX3 15 "TradeHall$Tape" "rested" "[I", Cond.fieldLink RX3 18 "TradeHall$Tape" "price" "[I"]
def wsL_law0_r4 : List Cond := [Cond.fieldLink RX3 21 "TradeHall$Tape" "amount" "[I", Cond.fieldLink RX3 24 "TradeHall$Tape" "last" "[I", Cond.fieldLink RX3 27 "TradeHall$Tape" "greatest" "[I", Cond.fieldLink RX3 30 "TradeHall$Tape" "least" "[I", Cond.fieldLink RX3 33 "TradeHall$Tape" "volume" "[I", Cond.fieldLink RX3 36 "TradeHall$Tape" "trades" "I", Cond.methodLink RL 84 yX5_init, Cond.instanceMethod yX5_init, Cond.code yX5_init cX5_init 1 none, Cond.methodLink RX5 1 objectInit, Cond.fieldLink RX5 7 "TradeHallModel" "cash" "[J", Cond.fieldLink RX5 13 "TradeHallModel" "held" "[J", Cond.fieldLink RX5 16 "TradeHallModel" "shares" "[I", Cond.fieldLink RX5 20 "TradeHallModel" "heldShares" "[I", Cond.fieldLink RX5 23 "TradeHallModel" "bought" "[I", Cond.fieldLink RX5 26 "TradeHallModel" "sold" "[I", Cond.fieldLink RX5 29 "TradeHallModel" "had" "[Z", Cond.fieldLink RX5 33 "TradeHallModel" "accounts" "[I", Cond.fieldLink RX5 36 "TradeHallModel" "symbols" "[I", Cond.fieldLink RX5 39 "TradeHallModel" "sides" "[I", Cond.fieldLink RX5 42 "TradeHallModel" "kinds" "[I", Cond.fieldLink RX5 45 "TradeHallModel" "prices" "[I", Cond.fieldLink RX5 48 "TradeHallModel" "left" "[I", Cond.fieldLink RX5 51 "TradeHallModel" "shown" "[I"]
def wsL_law0_r5 : List Cond := [Cond.fieldLink RX5 54 "TradeHallModel" "extras" "[I", Cond.fieldLink RX5 57 "TradeHallModel" "states" "[I", Cond.fieldLink RX5 60 "TradeHallModel" "ends" "[I", Cond.fieldLink RX5 63 "TradeHallModel" "done" "[I", Cond.fieldLink RX5 66 "TradeHallModel" "turns" "[I", Cond.fieldLink RX5 69 "TradeHallModel" "tryLeft" "[I", Cond.fieldLink RX5 72 "TradeHallModel" "tryShown" "[I", Cond.fieldLink RX5 75 "TradeHallModel" "tryTurns" "[I", Cond.fieldLink RX5 78 "TradeHallModel" "tradeCells" "[I", Cond.fieldLink RX5 81 "TradeHallModel" "lasts" "[I", Cond.fieldLink RX5 84 "TradeHallModel" "greatest" "[I", Cond.fieldLink RX5 87 "TradeHallModel" "least" "[I", Cond.fieldLink RX5 90 "TradeHallModel" "volumes" "[I", Cond.methodLink RL 85 yL_deposit, Cond.static yL_deposit, Cond.initialized RL, Cond.codeWith yL_deposit cL_deposit 5 (some .int) [(0, 9, 12, 13), (0, 9, 16, 15), (0, 9, 20, 17)], Cond.classLink RL 13 "java/lang/IndexOutOfBoundsException", Cond.classLink RL 15 "java/lang/IllegalArgumentException", Cond.classLink RL 17 "java/lang/IllegalStateException", Cond.methodLink RL 7 yX4_deposit, Cond.instanceMethod yX4_deposit, Cond.selects RX4 yX4_deposit yX4_deposit, Cond.code yX4_deposit cX4_deposit 3 (some .long)]
def wsL_law0_r6 : List Cond := [Cond.classLink RX4 58 "java/lang/IllegalStateException", Cond.initialized "java/lang/IllegalStateException", Cond.constant RX4 47 (1000000000), Cond.fieldLink RX4 52 "TradeHall$Ledger" "cashOf" "[J", Cond.constantLong RX4 56 (1000000000000000), Cond.methodLink RX4 43 yX4_needAccount, Cond.static yX4_needAccount, Cond.code yX4_needAccount cX4_needAccount 1 none, Cond.classLink RX4 179 "java/lang/IndexOutOfBoundsException", Cond.initialized "java/lang/IndexOutOfBoundsException", Cond.methodLink RX4 48 yX4_needWithin, Cond.static yX4_needWithin, Cond.code yX4_needWithin cX4_needWithin 3 none, Cond.classLink RX4 132 "java/lang/IllegalArgumentException", Cond.initialized "java/lang/IllegalArgumentException", Cond.methodLink RX4 65 yX1_know, Cond.instanceMethod yX1_know, Cond.selects RX1 yX1_know yX1_know, Cond.code yX1_know cX1_know 2 none, Cond.methodLink RL 90 yX5_deposit, Cond.instanceMethod yX5_deposit, Cond.selects RX5 yX5_deposit yX5_deposit, Cond.code yX5_deposit cX5_deposit 3 (some .long), Cond.constant RX5 105 (1000000000)]
def wsL_law0_r7 : List Cond := [Cond.constantLong RX5 106 (1000000000000000), Cond.fieldLink RX5 93 "TradeHallModel" "thrown" "I", Cond.methodLink RX5 101 yX5_isAccount, Cond.static yX5_isAccount, Cond.code yX5_isAccount cX5_isAccount 1 (some .boolean), Cond.methodLink RX5 97 yX5_isIn, Cond.static yX5_isIn, Cond.code yX5_isIn cX5_isIn 3 (some .boolean), Cond.methodLink RL 91 yX5_thrown, Cond.instanceMethod yX5_thrown, Cond.selects RX5 yX5_thrown yX5_thrown, Cond.code yX5_thrown cX5_thrown 1 (some .int), Cond.methodLink RL 95 yL_withdraw, Cond.static yL_withdraw, Cond.codeWith yL_withdraw cL_withdraw 5 (some .int) [(0, 9, 12, 13), (0, 9, 16, 15), (0, 9, 20, 17)], Cond.methodLink RL 19 yX4_withdraw, Cond.instanceMethod yX4_withdraw, Cond.selects RX4 yX4_withdraw yX4_withdraw, Cond.code yX4_withdraw cX4_withdraw 3 (some .long), Cond.methodLink RX4 68 yX1_freeCash, Cond.instanceMethod yX1_freeCash, Cond.selects RX1 yX1_freeCash yX1_freeCash, Cond.code yX1_freeCash cX1_freeCash 2 (some .long), Cond.methodLink RL 97 yX5_withdraw]
def wsL_law0_r8 : List Cond := [Cond.instanceMethod yX5_withdraw, Cond.selects RX5 yX5_withdraw yX5_withdraw, Cond.code yX5_withdraw cX5_withdraw 3 (some .long), Cond.methodLink RL 98 yL_grant, Cond.static yL_grant, Cond.codeWith yL_grant cL_grant 6 (some .int) [(0, 12, 15, 13), (0, 12, 19, 15), (0, 12, 23, 17)], Cond.methodLink RL 22 yX4_grant, Cond.instanceMethod yX4_grant, Cond.selects RX4 yX4_grant yX4_grant, Cond.code yX4_grant cX4_grant 5 (some .int), Cond.constant RX4 77 (1000000), Cond.fieldLink RX4 82 "TradeHall$Ledger" "sharesOf" "[I", Cond.methodLink RX4 74 yX4_needSymbol, Cond.static yX4_needSymbol, Cond.code yX4_needSymbol cX4_needSymbol 1 none, Cond.methodLink RX4 78 yX1_placeOf, Cond.static yX1_placeOf, Cond.code yX1_placeOf cX1_placeOf 2 (some .int), Cond.methodLink RL 101 yX5_grant, Cond.instanceMethod yX5_grant, Cond.selects RX5 yX5_grant yX5_grant, Cond.code yX5_grant cX5_grant 5 (some .int), Cond.constant RX5 111 (1000000), Cond.methodLink RX5 108 yX5_isSymbol]
def wsL_law0_r9 : List Cond := [Cond.static yX5_isSymbol, Cond.code yX5_isSymbol cX5_isSymbol 1 (some .boolean), Cond.methodLink RX5 112 yX5_cell, Cond.static yX5_cell, Cond.code yX5_cell cX5_cell 2 (some .int), Cond.methodLink RL 102 yL_order, Cond.static yL_order, Cond.codeWith yL_order cL_order 10 (some .int) [(0, 20, 23, 13), (0, 20, 27, 15), (0, 20, 31, 17)], Cond.methodLink RL 26 yX4_order, Cond.instanceMethod yX4_order, Cond.selects RX4 yX4_order yX4_order, Cond.code yX4_order cX4_order 11 (some .int), Cond.fieldLink RX4 97 "TradeHall$Orders" "there" "I", Cond.fieldLink RX4 100 "TradeHall$Orders" "taken" "I", Cond.methodLink RX4 88 yX4_needSide, Cond.static yX4_needSide, Cond.code yX4_needSide cX4_needSide 1 none, Cond.methodLink RX4 91 yX1_canHold, Cond.instanceMethod yX1_canHold, Cond.selects RX1 yX1_canHold yX1_canHold, Cond.code yX1_canHold cX1_canHold 7 (some .boolean), Cond.methodLink RX1 39 yX1_freeCash, Cond.methodLink RX1 43 yX1_placeOf, Cond.methodLink RX4 105 yX2_take]
def wsL_law0_r10 : List Cond := [Cond.instanceMethod yX2_take, Cond.selects RX2 yX2_take yX2_take, Cond.code yX2_take cX2_take 9 (some .int), Cond.methodLink RX4 109 yX4_hold, Cond.instanceMethod yX4_hold, Cond.selects RX4 yX4_hold yX4_hold, Cond.code yX4_hold cX4_hold 4 none, Cond.fieldLink RX4 198 "TradeHall$Orders" "account" "[I", Cond.fieldLink RX4 214 "TradeHall$Orders" "side" "[I", Cond.fieldLink RX4 217 "TradeHall$Ledger" "cashHeld" "[J", Cond.fieldLink RX4 169 "TradeHall$Orders" "price" "[I", Cond.fieldLink RX4 222 "TradeHall$Ledger" "sharesHeld" "[I", Cond.fieldLink RX4 211 "TradeHall$Orders" "symbol" "[I", Cond.methodLink RX4 113 yX4_actByKind, Cond.instanceMethod yX4_actByKind, Cond.selects RX4 yX4_actByKind yX4_actByKind, Cond.code yX4_actByKind cX4_actByKind 4 none, Cond.fieldLink RX4 291 "TradeHall$Orders" "kind" "[I", Cond.fieldLink RX4 126 "TradeHall$Orders" "left" "[I", Cond.methodLink RX4 294 yX4_meetsOther, Cond.instanceMethod yX4_meetsOther, Cond.selects RX4 yX4_meetsOther yX4_meetsOther, Cond.code yX4_meetsOther cX4_meetsOther 3 (some .boolean), Cond.methodLink RX4 313 yX0_facing]
def wsL_law0_r11 : List Cond := [Cond.instanceMethod yX0_facing, Cond.selects RX0 yX0_facing yX0_facing, Cond.code yX0_facing cX0_facing 2 (some .int), Cond.fieldLink RX0 22 "TradeHall$Orders" "symbol" "[I", Cond.fieldLink RX0 27 "TradeHall$Orders" "side" "[I", Cond.methodLink RX0 30 yX0_bookOf, Cond.static yX0_bookOf, Cond.code yX0_bookOf cX0_bookOf 2 (some .int), Cond.methodLink RX4 161 yX0_orderAt, Cond.instanceMethod yX0_orderAt, Cond.selects RX0 yX0_orderAt yX0_orderAt, Cond.code yX0_orderAt cX0_orderAt 3 (some .int), Cond.methodLink RX4 316 yX2_pricesAllow, Cond.instanceMethod yX2_pricesAllow, Cond.selects RX2 yX2_pricesAllow yX2_pricesAllow, Cond.code yX2_pricesAllow cX2_pricesAllow 3 (some .boolean), Cond.methodLink RX4 297 yX4_close, Cond.instanceMethod yX4_close, Cond.selects RX4 yX4_close yX4_close, Cond.code yX4_close cX4_close 3 none, Cond.fieldLink RX4 139 "TradeHall$Orders" "shown" "[I", Cond.fieldLink RX4 201 "TradeHall$Orders" "state" "[I", Cond.methodLink RX4 300 yX4_rest, Cond.instanceMethod yX4_rest]
def wsL_law0_r12 : List Cond := [Cond.selects RX4 yX4_rest yX4_rest, Cond.code yX4_rest cX4_rest 3 none, Cond.fieldLink RX4 341 "TradeHall$Orders" "extra" "[I", Cond.methodLink RX4 142 Lib.Math.min.name, Cond.static Lib.Math.min.name, Cond.initialized "java/lang/Math", Cond.code Lib.Math.min.name Lib.Math.min.code 2 (some .int), Cond.methodLink RX4 344 yX0_putLast, Cond.instanceMethod yX0_putLast, Cond.selects RX0 yX0_putLast yX0_putLast, Cond.code yX0_putLast cX0_putLast 7 none, Cond.fieldLink RX0 34 "TradeHall$Orders" "price" "[I", Cond.methodLink RX4 303 yX4_wouldTradeWholly, Cond.instanceMethod yX4_wouldTradeWholly, Cond.selects RX4 yX4_wouldTradeWholly yX4_wouldTradeWholly, Cond.code yX4_wouldTradeWholly cX4_wouldTradeWholly 9 (some .boolean), Cond.fieldLink RX4 319 "TradeHall$Books" "sizes" "[I", Cond.methodLink RX4 306 yX4_tradeUntilStopped, Cond.instanceMethod yX4_tradeUntilStopped, Cond.selects RX4 yX4_tradeUntilStopped yX4_tradeUntilStopped, Cond.code yX4_tradeUntilStopped cX4_tradeUntilStopped 6 (some .boolean), Cond.methodLink RX4 322 yX4_makeTrade, Cond.instanceMethod yX4_makeTrade, Cond.selects RX4 yX4_makeTrade yX4_makeTrade]
def wsL_law0_r13 : List Cond := [Cond.code yX4_makeTrade cX4_makeTrade 9 none, Cond.methodLink RX4 328 yX1_handOver, Cond.instanceMethod yX1_handOver, Cond.selects RX1 yX1_handOver yX1_handOver, Cond.code yX1_handOver cX1_handOver 10 none, Cond.methodLink RX4 332 yX2_fill, Cond.instanceMethod yX2_fill, Cond.selects RX2 yX2_fill yX2_fill, Cond.code yX2_fill cX2_fill 3 none, Cond.methodLink RX4 335 yX3_note, Cond.instanceMethod yX3_note, Cond.selects RX3 yX3_note yX3_note, Cond.code yX3_note cX3_note 6 none, Cond.methodLink RX3 40 Lib.Math.min.name, Cond.methodLink RX3 46 Lib.Math.max.name, Cond.static Lib.Math.max.name, Cond.code Lib.Math.max.name Lib.Math.max.code 2 (some .int), Cond.methodLink RX4 325 yX4_showLess, Cond.instanceMethod yX4_showLess, Cond.selects RX4 yX4_showLess yX4_showLess, Cond.code yX4_showLess cX4_showLess 3 none, Cond.methodLink RX4 338 yX0_drop, Cond.instanceMethod yX0_drop, Cond.selects RX0 yX0_drop yX0_drop]
def wsL_law0_r14 : List Cond := [Cond.code yX0_drop cX0_drop 7 none, Cond.methodLink RX4 116 yX4_wakeStop, Cond.instanceMethod yX4_wakeStop, Cond.selects RX4 yX4_wakeStop yX4_wakeStop, Cond.code yX4_wakeStop cX4_wakeStop 4 (some .int), Cond.fieldLink RX4 255 "TradeHall$Tape" "last" "[I", Cond.methodLink RX4 309 yX2_isWokenBy, Cond.instanceMethod yX2_isWokenBy, Cond.selects RX2 yX2_isWokenBy yX2_isWokenBy, Cond.code yX2_isWokenBy cX2_isWokenBy 3 (some .boolean), Cond.methodLink RL 105 yX5_order, Cond.instanceMethod yX5_order, Cond.selects RX5 yX5_order yX5_order, Cond.code yX5_order cX5_order 13 (some .int), Cond.fieldLink RX5 116 "TradeHallModel" "orders" "I", Cond.methodLink RX5 166 yX5_there, Cond.instanceMethod yX5_there, Cond.selects RX5 yX5_there yX5_there, Cond.code yX5_there cX5_there 3 (some .int), Cond.methodLink RX5 119 yX5_isThere, Cond.instanceMethod yX5_isThere, Cond.selects RX5 yX5_isThere yX5_isThere, Cond.code yX5_isThere cX5_isThere 2 (some .boolean), Cond.methodLink RX5 128 yX5_free]
def wsL_law0_r15 : List Cond := [Cond.instanceMethod yX5_free, Cond.selects RX5 yX5_free yX5_free, Cond.code yX5_free cX5_free 4 none, Cond.methodLink RX5 170 yX5_act, Cond.instanceMethod yX5_act, Cond.selects RX5 yX5_act yX5_act, Cond.code yX5_act cX5_act 5 none, Cond.methodLink RX5 135 yX5_first, Cond.instanceMethod yX5_first, Cond.selects RX5 yX5_first yX5_first, Cond.code yX5_first cX5_first 5 (some .int), Cond.methodLink RX5 122 yX5_rests, Cond.instanceMethod yX5_rests, Cond.selects RX5 yX5_rests yX5_rests, Cond.code yX5_rests cX5_rests 4 (some .boolean), Cond.methodLink RX5 125 yX5_isBetter, Cond.static yX5_isBetter, Cond.code yX5_isBetter cX5_isBetter 3 (some .boolean), Cond.methodLink RX5 138 yX5_allows, Cond.instanceMethod yX5_allows, Cond.selects RX5 yX5_allows yX5_allows, Cond.code yX5_allows cX5_allows 3 (some .boolean), Cond.methodLink RX5 156 yX5_finish, Cond.instanceMethod yX5_finish]
def wsL_law0_r16 : List Cond := [Cond.selects RX5 yX5_finish yX5_finish, Cond.code yX5_finish cX5_finish 3 none, Cond.methodLink RX5 149 yX5_rest, Cond.instanceMethod yX5_rest, Cond.selects RX5 yX5_rest yX5_rest, Cond.code yX5_rest cX5_rest 2 none, Cond.fieldLink RX5 146 "TradeHallModel" "nextTurn" "I", Cond.methodLink RX5 153 yX5_cancelled, Cond.instanceMethod yX5_cancelled, Cond.selects RX5 yX5_cancelled yX5_cancelled, Cond.code yX5_cancelled cX5_cancelled 2 none, Cond.methodLink RX5 160 yX5_wouldTrade, Cond.instanceMethod yX5_wouldTrade, Cond.selects RX5 yX5_wouldTrade yX5_wouldTrade, Cond.code yX5_wouldTrade cX5_wouldTrade 7 (some .boolean), Cond.methodLink RX5 163 yX5_match, Cond.instanceMethod yX5_match, Cond.selects RX5 yX5_match yX5_match, Cond.code yX5_match cX5_match 5 (some .boolean), Cond.methodLink RX5 142 yX5_exchange, Cond.instanceMethod yX5_exchange, Cond.selects RX5 yX5_exchange yX5_exchange, Cond.code yX5_exchange cX5_exchange 8 none, Cond.fieldLink RX5 132 "TradeHallModel" "trades" "I"]
def wsL_law0_r17 : List Cond := [Cond.methodLink RX5 173 yX5_ready, Cond.instanceMethod yX5_ready, Cond.selects RX5 yX5_ready yX5_ready, Cond.code yX5_ready cX5_ready 4 (some .int), Cond.methodLink RL 106 yL_cancel, Cond.static yL_cancel, Cond.codeWith yL_cancel cL_cancel 5 (some .int) [(0, 10, 13, 13), (0, 10, 17, 15), (0, 10, 21, 17)], Cond.methodLink RL 30 yX4_cancel, Cond.instanceMethod yX4_cancel, Cond.selects RX4 yX4_cancel yX4_cancel, Cond.code yX4_cancel cX4_cancel 4 (some .int), Cond.methodLink RX4 120 yX4_needOwnOrder, Cond.instanceMethod yX4_needOwnOrder, Cond.selects RX4 yX4_needOwnOrder yX4_needOwnOrder, Cond.code yX4_needOwnOrder cX4_needOwnOrder 3 none, Cond.methodLink RX4 195 yX4_needOrder, Cond.instanceMethod yX4_needOrder, Cond.selects RX4 yX4_needOrder yX4_needOrder, Cond.code yX4_needOrder cX4_needOrder 2 none, Cond.methodLink RX4 123 yX4_needThere, Cond.instanceMethod yX4_needThere, Cond.selects RX4 yX4_needThere yX4_needThere, Cond.code yX4_needThere cX4_needThere 2 none, Cond.methodLink RX4 154 yX2_isThere]
def wsL_law0_r18 : List Cond := [Cond.instanceMethod yX2_isThere, Cond.selects RX2 yX2_isThere yX2_isThere, Cond.code yX2_isThere cX2_isThere 2 (some .boolean), Cond.methodLink RX4 129 yX4_takeAway, Cond.instanceMethod yX4_takeAway, Cond.selects RX4 yX4_takeAway yX4_takeAway, Cond.code yX4_takeAway cX4_takeAway 2 none, Cond.methodLink RL 108 yX5_cancel, Cond.instanceMethod yX5_cancel, Cond.selects RX5 yX5_cancel yX5_cancel, Cond.code yX5_cancel cX5_cancel 4 (some .int), Cond.methodLink RX5 177 yX5_refusal, Cond.instanceMethod yX5_refusal, Cond.selects RX5 yX5_refusal yX5_refusal, Cond.code yX5_refusal cX5_refusal 4 (some .int), Cond.methodLink RL 109 yL_reduce, Cond.static yL_reduce, Cond.codeWith yL_reduce cL_reduce 6 (some .int) [(0, 12, 15, 13), (0, 12, 19, 15), (0, 12, 23, 17)], Cond.methodLink RL 34 yX4_reduce, Cond.instanceMethod yX4_reduce, Cond.selects RX4 yX4_reduce yX4_reduce, Cond.code yX4_reduce cX4_reduce 4 (some .int), Cond.methodLink RL 111 yX5_reduce, Cond.instanceMethod yX5_reduce]
def wsL_law0_r19 : List Cond := [Cond.selects RX5 yX5_reduce yX5_reduce, Cond.code yX5_reduce cX5_reduce 4 (some .int), Cond.methodLink RL 112 yL_until, Cond.static yL_until, Cond.codeWith yL_until cL_until 5 (some .int) [(0, 7, 10, 13), (0, 7, 14, 15), (0, 7, 18, 17)], Cond.methodLink RL 37 yX4_until, Cond.instanceMethod yX4_until, Cond.selects RX4 yX4_until yX4_until, Cond.code yX4_until cX4_until 4 none, Cond.fieldLink RX4 151 "TradeHall$Orders" "ends" "[I", Cond.methodLink RL 115 yX5_until, Cond.instanceMethod yX5_until, Cond.selects RX5 yX5_until yX5_until, Cond.code yX5_until cX5_until 4 none, Cond.fieldLink RX5 181 "TradeHallModel" "time" "I", Cond.methodLink RL 116 yL_pass, Cond.static yL_pass, Cond.codeWith yL_pass cL_pass 4 (some .int) [(0, 9, 12, 15)], Cond.methodLink RL 41 yX4_pass, Cond.instanceMethod yX4_pass, Cond.selects RX4 yX4_pass yX4_pass, Cond.code yX4_pass cX4_pass 4 (some .int), Cond.methodLink RL 119 yX5_pass, Cond.instanceMethod yX5_pass]
def wsL_law0_r20 : List Cond := [Cond.selects RX5 yX5_pass yX5_pass, Cond.code yX5_pass cX5_pass 4 (some .int), Cond.methodLink RL 120 yL_best, Cond.static yL_best, Cond.codeWith yL_best cL_best 5 (some .int) [(0, 10, 13, 13), (0, 10, 17, 15), (0, 10, 21, 48)], Cond.classLink RL 48 "java/util/NoSuchElementException", Cond.methodLink RL 45 yX4_best, Cond.instanceMethod yX4_best, Cond.selects RX4 yX4_best yX4_best, Cond.code yX4_best cX4_best 4 (some .int), Cond.classLink RX4 164 "java/util/NoSuchElementException", Cond.initialized "java/util/NoSuchElementException", Cond.methodLink RX4 158 yX0_bookOf, Cond.methodLink RL 122 yX5_best, Cond.instanceMethod yX5_best, Cond.selects RX5 yX5_best yX5_best, Cond.code yX5_best cX5_best 4 (some .int), Cond.methodLink RL 123 yL_depth, Cond.static yL_depth, Cond.codeWith yL_depth cL_depth 6 (some .int) [(0, 12, 15, 13), (0, 12, 19, 15)], Cond.methodLink RL 50 yX4_depth, Cond.instanceMethod yX4_depth, Cond.selects RX4 yX4_depth yX4_depth, Cond.code yX4_depth cX4_depth 5 (some .int)]
def wsL_law0_r21 : List Cond := [Cond.methodLink RX4 172 yX0_countPrices, Cond.instanceMethod yX0_countPrices, Cond.selects RX0 yX0_countPrices yX0_countPrices, Cond.code yX0_countPrices cX0_countPrices 6 (some .int), Cond.methodLink RX4 175 yX0_sumShown, Cond.instanceMethod yX0_sumShown, Cond.selects RX0 yX0_sumShown yX0_sumShown, Cond.code yX0_sumShown cX0_sumShown 7 (some .int), Cond.fieldLink RX0 40 "TradeHall$Orders" "shown" "[I", Cond.methodLink RL 125 yX5_depth, Cond.instanceMethod yX5_depth, Cond.selects RX5 yX5_depth yX5_depth, Cond.code yX5_depth cX5_depth 6 (some .int), Cond.methodLink RX5 188 yX5_priceCount, Cond.instanceMethod yX5_priceCount, Cond.selects RX5 yX5_priceCount yX5_priceCount, Cond.code yX5_priceCount cX5_priceCount 4 (some .int), Cond.methodLink RX5 184 yX5_priceAt, Cond.instanceMethod yX5_priceAt, Cond.selects RX5 yX5_priceAt yX5_priceAt, Cond.code yX5_priceAt cX5_priceAt 9 (some .int), Cond.methodLink RL 126 yL_level, Cond.static yL_level, Cond.codeWith yL_level cL_level 7 (some .int) [(0, 14, 17, 13), (0, 14, 21, 15)]]
def wsL_law0_r22 : List Cond := [Cond.methodLink RL 53 yX4_level, Cond.instanceMethod yX4_level, Cond.selects RX4 yX4_level yX4_level, Cond.code yX4_level cX4_level 7 (some .int), Cond.methodLink RX4 184 yX0_priceOfLevel, Cond.instanceMethod yX0_priceOfLevel, Cond.selects RX0 yX0_priceOfLevel yX0_priceOfLevel, Cond.code yX0_priceOfLevel cX0_priceOfLevel 7 (some .int), Cond.methodLink RX4 187 yX0_countOrders, Cond.instanceMethod yX0_countOrders, Cond.selects RX0 yX0_countOrders yX0_countOrders, Cond.code yX0_countOrders cX0_countOrders 5 (some .int), Cond.methodLink RX4 190 yX0_sumLeft, Cond.instanceMethod yX0_sumLeft, Cond.selects RX0 yX0_sumLeft yX0_sumLeft, Cond.code yX0_sumLeft cX0_sumLeft 6 (some .int), Cond.fieldLink RX0 37 "TradeHall$Orders" "left" "[I", Cond.methodLink RL 129 yX5_level, Cond.instanceMethod yX5_level, Cond.selects RX5 yX5_level yX5_level, Cond.code yX5_level cX5_level 10 (some .int), Cond.methodLink RL 130 yL_about, Cond.static yL_about, Cond.codeWith yL_about cL_about 5 (some .int) [(0, 10, 13, 13), (0, 10, 17, 15)]]
def wsL_law0_r23 : List Cond := [Cond.methodLink RL 57 yX4_about, Cond.instanceMethod yX4_about, Cond.selects RX4 yX4_about yX4_about, Cond.code yX4_about cX4_about 3 (some .int), Cond.fieldLink RX4 204 "TradeHall$Orders" "traded" "[I", Cond.methodLink RL 132 yX5_about, Cond.instanceMethod yX5_about, Cond.selects RX5 yX5_about yX5_about, Cond.code yX5_about cX5_about 3 (some .int), Cond.methodLink RL 133 yL_ahead, Cond.static yL_ahead, Cond.codeWith yL_ahead cL_ahead 4 (some .int) [(0, 9, 12, 13), (0, 9, 15, 48)], Cond.methodLink RL 60 yX4_ahead, Cond.instanceMethod yX4_ahead, Cond.selects RX4 yX4_ahead yX4_ahead, Cond.code yX4_ahead cX4_ahead 3 (some .int), Cond.methodLink RL 135 yX5_ahead, Cond.instanceMethod yX5_ahead, Cond.selects RX5 yX5_ahead yX5_ahead, Cond.code yX5_ahead cX5_ahead 4 (some .int), Cond.methodLink RL 136 yL_cash, Cond.static yL_cash, Cond.codeWith yL_cash cL_cash 5 (some .int) [(0, 9, 12, 13), (0, 9, 16, 15)], Cond.methodLink RL 63 yX4_cash]
def wsL_law0_r24 : List Cond := [Cond.instanceMethod yX4_cash, Cond.selects RX4 yX4_cash yX4_cash, Cond.code yX4_cash cX4_cash 3 (some .long), Cond.methodLink RL 138 yX5_cash, Cond.instanceMethod yX5_cash, Cond.selects RX5 yX5_cash yX5_cash, Cond.code yX5_cash cX5_cash 3 (some .long), Cond.methodLink RL 139 yL_shares, Cond.static yL_shares, Cond.codeWith yL_shares cL_shares 6 (some .int) [(0, 12, 15, 13), (0, 12, 19, 15)], Cond.methodLink RL 66 yX4_shares, Cond.instanceMethod yX4_shares, Cond.selects RX4 yX4_shares yX4_shares, Cond.code yX4_shares cX4_shares 5 (some .int), Cond.fieldLink RX4 225 "TradeHall$Ledger" "bought" "[I", Cond.fieldLink RX4 228 "TradeHall$Ledger" "sold" "[I", Cond.methodLink RL 141 yX5_shares, Cond.instanceMethod yX5_shares, Cond.selects RX5 yX5_shares yX5_shares, Cond.code yX5_shares cX5_shares 5 (some .int), Cond.methodLink RL 142 yL_count, Cond.static yL_count, Cond.codeWith yL_count cL_count 4 (some .int) [(0, 9, 12, 15)], Cond.methodLink RL 69 yX4_count]
def wsL_law0_r25 : List Cond := [Cond.instanceMethod yX4_count, Cond.selects RX4 yX4_count yX4_count, Cond.code yX4_count cX4_count 2 (some .int), Cond.fieldLink RX4 233 "TradeHall$Tape" "trades" "I", Cond.fieldLink RX4 236 "TradeHall$Ledger" "knownCount" "I", Cond.methodLink RL 144 yX5_count, Cond.instanceMethod yX5_count, Cond.selects RX5 yX5_count yX5_count, Cond.code yX5_count cX5_count 4 (some .int), Cond.methodLink RL 145 yL_trade, Cond.static yL_trade, Cond.codeWith yL_trade cL_trade 5 (some .int) [(0, 10, 13, 13), (0, 10, 17, 15)], Cond.methodLink RL 72 yX4_trade, Cond.instanceMethod yX4_trade, Cond.selects RX4 yX4_trade yX4_trade, Cond.code yX4_trade cX4_trade 3 (some .int), Cond.fieldLink RX4 243 "TradeHall$Tape" "came" "[I", Cond.fieldLink RX4 246 "TradeHall$Tape" "rested" "[I", Cond.fieldLink RX4 249 "TradeHall$Tape" "price" "[I", Cond.fieldLink RX4 250 "TradeHall$Tape" "amount" "[I", Cond.methodLink RL 147 yX5_trade, Cond.instanceMethod yX5_trade, Cond.selects RX5 yX5_trade yX5_trade, Cond.code yX5_trade cX5_trade 3 (some .int)]
def wsL_law0_r26 : List Cond := [Cond.methodLink RL 148 yL_symbol, Cond.static yL_symbol, Cond.codeWith yL_symbol cL_symbol 5 (some .int) [(0, 10, 13, 13), (0, 10, 17, 15)], Cond.methodLink RL 75 yX4_symbol, Cond.instanceMethod yX4_symbol, Cond.selects RX4 yX4_symbol yX4_symbol, Cond.code yX4_symbol cX4_symbol 3 (some .int), Cond.fieldLink RX4 258 "TradeHall$Tape" "greatest" "[I", Cond.fieldLink RX4 261 "TradeHall$Tape" "least" "[I", Cond.fieldLink RX4 264 "TradeHall$Tape" "volume" "[I", Cond.methodLink RL 150 yX5_symbol, Cond.instanceMethod yX5_symbol, Cond.selects RX5 yX5_symbol yX5_symbol, Cond.code yX5_symbol cX5_symbol 3 (some .int), Cond.methodLink RL 151 yL_busiest, Cond.static yL_busiest, Cond.codeWith yL_busiest cL_busiest 5 (some .int) [(0, 10, 13, 13)], Cond.methodLink RL 78 yX4_busiest, Cond.instanceMethod yX4_busiest, Cond.selects RX4 yX4_busiest yX4_busiest, Cond.code yX4_busiest cX4_busiest 4 (some .int), Cond.methodLink RX4 269 yX1_turnover, Cond.instanceMethod yX1_turnover, Cond.selects RX1 yX1_turnover yX1_turnover]
def wsL_law0_r27 : List Cond := [Cond.code yX1_turnover cX1_turnover 4 (some .int), Cond.methodLink RX4 272 yX1_countBusier, Cond.instanceMethod yX1_countBusier, Cond.selects RX1 yX1_countBusier yX1_countBusier, Cond.code yX1_countBusier cX1_countBusier 7 (some .int), Cond.methodLink RX1 47 yX1_turnover, Cond.methodLink RL 153 yX5_busiest, Cond.instanceMethod yX5_busiest, Cond.selects RX5 yX5_busiest yX5_busiest, Cond.code yX5_busiest cX5_busiest 6 (some .int), Cond.methodLink RX5 191 yX5_business, Cond.instanceMethod yX5_business, Cond.selects RX5 yX5_business yX5_business, Cond.code yX5_business cX5_business 3 (some .int)]
def wsL_law0 : List Cond := (wsL_law0_r1 ++ (wsL_law0_r2 ++ (wsL_law0_r3 ++ (wsL_law0_r4 ++ (wsL_law0_r5 ++ (wsL_law0_r6 ++ (wsL_law0_r7 ++ (wsL_law0_r8 ++ (wsL_law0_r9 ++ (wsL_law0_r10 ++ (wsL_law0_r11 ++ (wsL_law0_r12 ++ (wsL_law0_r13 ++ (wsL_law0_r14 ++ (wsL_law0_r15 ++ (wsL_law0_r16 ++ (wsL_law0_r17 ++ (wsL_law0_r18 ++ (wsL_law0_r19 ++ (wsL_law0_r20 ++ (wsL_law0_r21 ++ (wsL_law0_r22 ++ (wsL_law0_r23 ++ (wsL_law0_r24 ++ (wsL_law0_r25 ++ (wsL_law0_r26 ++ wsL_law0_r27)))))))))))))))))))))))))) ++ wsX40 ++ wsX50 ++ wsX10 ++ wsX20 ++ wsX00 ++ wsX30 ++ ([] : List Cond)
def wsL_law : List Cond := wsL_law0 ++ (vx_atS RX4 62 "java/lang/IllegalStateException" ["java/lang/RuntimeException", "java/lang/Exception"]).filter goodWord ++ (vx_atS RX4 183 "java/lang/IndexOutOfBoundsException" ["java/lang/RuntimeException", "java/lang/Exception"]).filter goodWord ++ (vx_atS RX4 136 "java/lang/IllegalArgumentException" ["java/lang/RuntimeException", "java/lang/Exception"]).filter goodWord ++ (vx_atS RX4 168 "java/util/NoSuchElementException" ["java/lang/RuntimeException", "java/lang/Exception"]).filter goodWord
theorem dX0_init_0 : decode cX0_init 0 = .ok (.aload_n 0, 1) := by decide +kernel
theorem dX0_init_1 : decode cX0_init 1 = .ok (.invokespecial 3, 3) := by decide +kernel
theorem dX0_init_4 : decode cX0_init 4 = .ok (.aload_n 0, 1) := by decide +kernel
theorem dX0_init_5 : decode cX0_init 5 = .ok (.sipush 800, 3) := by decide +kernel
theorem dX0_init_8 : decode cX0_init 8 = .ok (.newarray .int, 2) := by decide +kernel
theorem dX0_init_10 : decode cX0_init 10 = .ok (.putfield 9, 3) := by decide +kernel
theorem dX0_init_13 : decode cX0_init 13 = .ok (.aload_n 0, 1) := by decide +kernel
theorem dX0_init_14 : decode cX0_init 14 = .ok (.bipush 8, 2) := by decide +kernel
theorem dX0_init_16 : decode cX0_init 16 = .ok (.newarray .int, 2) := by decide +kernel
theorem dX0_init_18 : decode cX0_init 18 = .ok (.putfield 15, 3) := by decide +kernel
end
section
theorem dX0_init_21 : decode cX0_init 21 = .ok (.aload_n 0, 1) := by decide +kernel
theorem dX0_init_22 : decode cX0_init 22 = .ok (.aload_n 1, 1) := by decide +kernel
theorem dX0_init_23 : decode cX0_init 23 = .ok (.putfield 18, 3) := by decide +kernel
theorem dX0_init_26 : decode cX0_init 26 = .ok (.return_, 1) := by decide +kernel
theorem dX0_bookOf_0 : decode cX0_bookOf 0 = .ok (.iload_n 0, 1) := by decide +kernel
theorem dX0_bookOf_1 : decode cX0_bookOf 1 = .ok (.iconst 2, 1) := by decide +kernel
theorem dX0_bookOf_2 : decode cX0_bookOf 2 = .ok (.imul, 1) := by decide +kernel
theorem dX0_bookOf_3 : decode cX0_bookOf 3 = .ok (.iload_n 1, 1) := by decide +kernel
theorem dX0_bookOf_4 : decode cX0_bookOf 4 = .ok (.iadd, 1) := by decide +kernel
theorem dX0_bookOf_5 : decode cX0_bookOf 5 = .ok (.ireturn, 1) := by decide +kernel
set_option maxRecDepth 20000 in
theorem ggX0_facing_X0_bookOf : GoodIn wsX0_facing wsX0_bookOf := goodIn_r _ [7] (by decide +kernel) (by decide +kernel)
set_option maxRecDepth 20000 in
theorem gX0_facing_X0_bookOf : GoodIn wsX0_facing (va_wsS RX0 30 yX0_bookOf wsX0_bookOf) := goodIn_app (goodIn_of _ (by decide +kernel)) ggX0_facing_X0_bookOf
theorem dX0_facing_0 : decode cX0_facing 0 = .ok (.aload_n 0, 1) := by decide +kernel
theorem dX0_facing_1 : decode cX0_facing 1 = .ok (.getfield 18, 3) := by decide +kernel
theorem dX0_facing_4 : decode cX0_facing 4 = .ok (.getfield 22, 3) := by decide +kernel
theorem dX0_facing_7 : decode cX0_facing 7 = .ok (.iload_n 1, 1) := by decide +kernel
theorem dX0_facing_8 : decode cX0_facing 8 = .ok (.iaload, 1) := by decide +kernel
theorem dX0_facing_9 : decode cX0_facing 9 = .ok (.iconst 1, 1) := by decide +kernel
theorem dX0_facing_10 : decode cX0_facing 10 = .ok (.aload_n 0, 1) := by decide +kernel
theorem dX0_facing_11 : decode cX0_facing 11 = .ok (.getfield 18, 3) := by decide +kernel
theorem dX0_facing_14 : decode cX0_facing 14 = .ok (.getfield 27, 3) := by decide +kernel
theorem dX0_facing_17 : decode cX0_facing 17 = .ok (.iload_n 1, 1) := by decide +kernel
theorem dX0_facing_18 : decode cX0_facing 18 = .ok (.iaload, 1) := by decide +kernel
theorem dX0_facing_19 : decode cX0_facing 19 = .ok (.isub, 1) := by decide +kernel
theorem dX0_facing_20 : decode cX0_facing 20 = .ok (.invokestatic 30, 3) := by decide +kernel
theorem dX0_facing_23 : decode cX0_facing 23 = .ok (.ireturn, 1) := by decide +kernel
theorem dX0_orderAt_0 : decode cX0_orderAt 0 = .ok (.iload_n 2, 1) := by decide +kernel
theorem dX0_orderAt_1 : decode cX0_orderAt 1 = .ok (.ifCond .lt 13, 3) := by decide +kernel
theorem dX0_orderAt_4 : decode cX0_orderAt 4 = .ok (.iload_n 2, 1) := by decide +kernel
theorem dX0_orderAt_5 : decode cX0_orderAt 5 = .ok (.aload_n 0, 1) := by decide +kernel
theorem dX0_orderAt_6 : decode cX0_orderAt 6 = .ok (.getfield 15, 3) := by decide +kernel
theorem dX0_orderAt_9 : decode cX0_orderAt 9 = .ok (.iload_n 1, 1) := by decide +kernel
theorem dX0_orderAt_10 : decode cX0_orderAt 10 = .ok (.iaload, 1) := by decide +kernel
theorem dX0_orderAt_11 : decode cX0_orderAt 11 = .ok (.if_icmp .lt 5, 3) := by decide +kernel
theorem dX0_orderAt_14 : decode cX0_orderAt 14 = .ok (.iconst (-1), 1) := by decide +kernel
theorem dX0_orderAt_15 : decode cX0_orderAt 15 = .ok (.ireturn, 1) := by decide +kernel
theorem dX0_orderAt_16 : decode cX0_orderAt 16 = .ok (.aload_n 0, 1) := by decide +kernel
theorem dX0_orderAt_17 : decode cX0_orderAt 17 = .ok (.getfield 9, 3) := by decide +kernel
theorem dX0_orderAt_20 : decode cX0_orderAt 20 = .ok (.iload_n 1, 1) := by decide +kernel
theorem dX0_orderAt_21 : decode cX0_orderAt 21 = .ok (.bipush 100, 2) := by decide +kernel
theorem dX0_orderAt_23 : decode cX0_orderAt 23 = .ok (.imul, 1) := by decide +kernel
theorem dX0_orderAt_24 : decode cX0_orderAt 24 = .ok (.aload_n 0, 1) := by decide +kernel
theorem dX0_orderAt_25 : decode cX0_orderAt 25 = .ok (.getfield 15, 3) := by decide +kernel
theorem dX0_orderAt_28 : decode cX0_orderAt 28 = .ok (.iload_n 1, 1) := by decide +kernel
theorem dX0_orderAt_29 : decode cX0_orderAt 29 = .ok (.iaload, 1) := by decide +kernel
theorem dX0_orderAt_30 : decode cX0_orderAt 30 = .ok (.iadd, 1) := by decide +kernel
theorem dX0_orderAt_31 : decode cX0_orderAt 31 = .ok (.iconst 1, 1) := by decide +kernel
theorem dX0_orderAt_32 : decode cX0_orderAt 32 = .ok (.isub, 1) := by decide +kernel
theorem dX0_orderAt_33 : decode cX0_orderAt 33 = .ok (.iload_n 2, 1) := by decide +kernel
theorem dX0_orderAt_34 : decode cX0_orderAt 34 = .ok (.isub, 1) := by decide +kernel
theorem dX0_orderAt_35 : decode cX0_orderAt 35 = .ok (.iaload, 1) := by decide +kernel
theorem dX0_orderAt_36 : decode cX0_orderAt 36 = .ok (.ireturn, 1) := by decide +kernel
set_option maxRecDepth 20000 in
theorem ggX0_putLast_X0_bookOf : GoodIn wsX0_putLast wsX0_bookOf := goodIn_r _ [10] (by decide +kernel) (by decide +kernel)
set_option maxRecDepth 20000 in
theorem gX0_putLast_X0_bookOf : GoodIn wsX0_putLast (va_wsS RX0 30 yX0_bookOf wsX0_bookOf) := goodIn_app (goodIn_of _ (by decide +kernel)) ggX0_putLast_X0_bookOf
theorem dX0_putLast_0 : decode cX0_putLast 0 = .ok (.aload_n 0, 1) := by decide +kernel
theorem dX0_putLast_1 : decode cX0_putLast 1 = .ok (.getfield 18, 3) := by decide +kernel
theorem dX0_putLast_4 : decode cX0_putLast 4 = .ok (.getfield 22, 3) := by decide +kernel
theorem dX0_putLast_7 : decode cX0_putLast 7 = .ok (.iload_n 1, 1) := by decide +kernel
theorem dX0_putLast_8 : decode cX0_putLast 8 = .ok (.iaload, 1) := by decide +kernel
theorem dX0_putLast_9 : decode cX0_putLast 9 = .ok (.aload_n 0, 1) := by decide +kernel
theorem dX0_putLast_10 : decode cX0_putLast 10 = .ok (.getfield 18, 3) := by decide +kernel
theorem dX0_putLast_13 : decode cX0_putLast 13 = .ok (.getfield 27, 3) := by decide +kernel
theorem dX0_putLast_16 : decode cX0_putLast 16 = .ok (.iload_n 1, 1) := by decide +kernel
theorem dX0_putLast_17 : decode cX0_putLast 17 = .ok (.iaload, 1) := by decide +kernel
theorem dX0_putLast_18 : decode cX0_putLast 18 = .ok (.invokestatic 30, 3) := by decide +kernel
theorem dX0_putLast_21 : decode cX0_putLast 21 = .ok (.istore_n 2, 1) := by decide +kernel
theorem dX0_putLast_22 : decode cX0_putLast 22 = .ok (.aload_n 0, 1) := by decide +kernel
theorem dX0_putLast_23 : decode cX0_putLast 23 = .ok (.getfield 15, 3) := by decide +kernel
theorem dX0_putLast_26 : decode cX0_putLast 26 = .ok (.iload_n 2, 1) := by decide +kernel
theorem dX0_putLast_27 : decode cX0_putLast 27 = .ok (.iaload, 1) := by decide +kernel
theorem dX0_putLast_28 : decode cX0_putLast 28 = .ok (.bipush 100, 2) := by decide +kernel
theorem dX0_putLast_30 : decode cX0_putLast 30 = .ok (.if_icmp .lt 4, 3) := by decide +kernel
theorem dX0_putLast_33 : decode cX0_putLast 33 = .ok (.return_, 1) := by decide +kernel
theorem dX0_putLast_34 : decode cX0_putLast 34 = .ok (.aload_n 0, 1) := by decide +kernel
theorem dX0_putLast_35 : decode cX0_putLast 35 = .ok (.getfield 18, 3) := by decide +kernel
theorem dX0_putLast_38 : decode cX0_putLast 38 = .ok (.getfield 27, 3) := by decide +kernel
theorem dX0_putLast_41 : decode cX0_putLast 41 = .ok (.iload_n 1, 1) := by decide +kernel
theorem dX0_putLast_42 : decode cX0_putLast 42 = .ok (.iaload, 1) := by decide +kernel
theorem dX0_putLast_43 : decode cX0_putLast 43 = .ok (.ifCond .ne 7, 3) := by decide +kernel
theorem dX0_putLast_46 : decode cX0_putLast 46 = .ok (.iconst 1, 1) := by decide +kernel
theorem dX0_putLast_47 : decode cX0_putLast 47 = .ok (.goto 4, 3) := by decide +kernel
theorem dX0_putLast_50 : decode cX0_putLast 50 = .ok (.iconst (-1), 1) := by decide +kernel
theorem dX0_putLast_51 : decode cX0_putLast 51 = .ok (.istore_n 3, 1) := by decide +kernel
theorem dX0_putLast_52 : decode cX0_putLast 52 = .ok (.iload_n 3, 1) := by decide +kernel
theorem dX0_putLast_53 : decode cX0_putLast 53 = .ok (.aload_n 0, 1) := by decide +kernel
theorem dX0_putLast_54 : decode cX0_putLast 54 = .ok (.getfield 18, 3) := by decide +kernel
theorem dX0_putLast_57 : decode cX0_putLast 57 = .ok (.getfield 34, 3) := by decide +kernel
theorem dX0_putLast_60 : decode cX0_putLast 60 = .ok (.iload_n 1, 1) := by decide +kernel
theorem dX0_putLast_61 : decode cX0_putLast 61 = .ok (.iaload, 1) := by decide +kernel
theorem dX0_putLast_62 : decode cX0_putLast 62 = .ok (.imul, 1) := by decide +kernel
theorem dX0_putLast_63 : decode cX0_putLast 63 = .ok (.istore 4, 2) := by decide +kernel
theorem dX0_putLast_65 : decode cX0_putLast 65 = .ok (.iload_n 2, 1) := by decide +kernel
theorem dX0_putLast_66 : decode cX0_putLast 66 = .ok (.bipush 100, 2) := by decide +kernel
theorem dX0_putLast_68 : decode cX0_putLast 68 = .ok (.imul, 1) := by decide +kernel
theorem dX0_putLast_69 : decode cX0_putLast 69 = .ok (.istore 5, 2) := by decide +kernel
theorem dX0_putLast_71 : decode cX0_putLast 71 = .ok (.iload 5, 2) := by decide +kernel
theorem dX0_putLast_73 : decode cX0_putLast 73 = .ok (.aload_n 0, 1) := by decide +kernel
theorem dX0_putLast_74 : decode cX0_putLast 74 = .ok (.getfield 15, 3) := by decide +kernel
theorem dX0_putLast_77 : decode cX0_putLast 77 = .ok (.iload_n 2, 1) := by decide +kernel
theorem dX0_putLast_78 : decode cX0_putLast 78 = .ok (.iaload, 1) := by decide +kernel
theorem dX0_putLast_79 : decode cX0_putLast 79 = .ok (.iadd, 1) := by decide +kernel
theorem dX0_putLast_80 : decode cX0_putLast 80 = .ok (.istore 6, 2) := by decide +kernel
theorem dX0_putLast_82 : decode cX0_putLast 82 = .ok (.iload 6, 2) := by decide +kernel
theorem dX0_putLast_84 : decode cX0_putLast 84 = .ok (.iload 5, 2) := by decide +kernel
theorem dX0_putLast_86 : decode cX0_putLast 86 = .ok (.if_icmp .le 49, 3) := by decide +kernel
theorem dX0_putLast_89 : decode cX0_putLast 89 = .ok (.iload_n 3, 1) := by decide +kernel
theorem dX0_putLast_90 : decode cX0_putLast 90 = .ok (.aload_n 0, 1) := by decide +kernel
theorem dX0_putLast_91 : decode cX0_putLast 91 = .ok (.getfield 18, 3) := by decide +kernel
theorem dX0_putLast_94 : decode cX0_putLast 94 = .ok (.getfield 34, 3) := by decide +kernel
theorem dX0_putLast_97 : decode cX0_putLast 97 = .ok (.aload_n 0, 1) := by decide +kernel
theorem dX0_putLast_98 : decode cX0_putLast 98 = .ok (.getfield 9, 3) := by decide +kernel
theorem dX0_putLast_101 : decode cX0_putLast 101 = .ok (.iload 6, 2) := by decide +kernel
theorem dX0_putLast_103 : decode cX0_putLast 103 = .ok (.iconst 1, 1) := by decide +kernel
theorem dX0_putLast_104 : decode cX0_putLast 104 = .ok (.isub, 1) := by decide +kernel
theorem dX0_putLast_105 : decode cX0_putLast 105 = .ok (.iaload, 1) := by decide +kernel
theorem dX0_putLast_106 : decode cX0_putLast 106 = .ok (.iaload, 1) := by decide +kernel
theorem dX0_putLast_107 : decode cX0_putLast 107 = .ok (.imul, 1) := by decide +kernel
theorem dX0_putLast_108 : decode cX0_putLast 108 = .ok (.iload 4, 2) := by decide +kernel
theorem dX0_putLast_110 : decode cX0_putLast 110 = .ok (.if_icmp .lt 25, 3) := by decide +kernel
theorem dX0_putLast_113 : decode cX0_putLast 113 = .ok (.aload_n 0, 1) := by decide +kernel
theorem dX0_putLast_114 : decode cX0_putLast 114 = .ok (.getfield 9, 3) := by decide +kernel
theorem dX0_putLast_117 : decode cX0_putLast 117 = .ok (.iload 6, 2) := by decide +kernel
theorem dX0_putLast_119 : decode cX0_putLast 119 = .ok (.aload_n 0, 1) := by decide +kernel
theorem dX0_putLast_120 : decode cX0_putLast 120 = .ok (.getfield 9, 3) := by decide +kernel
theorem dX0_putLast_123 : decode cX0_putLast 123 = .ok (.iload 6, 2) := by decide +kernel
theorem dX0_putLast_125 : decode cX0_putLast 125 = .ok (.iconst 1, 1) := by decide +kernel
theorem dX0_putLast_126 : decode cX0_putLast 126 = .ok (.isub, 1) := by decide +kernel
theorem dX0_putLast_127 : decode cX0_putLast 127 = .ok (.iaload, 1) := by decide +kernel
theorem dX0_putLast_128 : decode cX0_putLast 128 = .ok (.iastore, 1) := by decide +kernel
theorem dX0_putLast_129 : decode cX0_putLast 129 = .ok (.iinc 6 (-1), 3) := by decide +kernel
theorem dX0_putLast_132 : decode cX0_putLast 132 = .ok (.goto (-50), 3) := by decide +kernel
theorem dX0_putLast_135 : decode cX0_putLast 135 = .ok (.aload_n 0, 1) := by decide +kernel
theorem dX0_putLast_136 : decode cX0_putLast 136 = .ok (.getfield 9, 3) := by decide +kernel
theorem dX0_putLast_139 : decode cX0_putLast 139 = .ok (.iload 6, 2) := by decide +kernel
theorem dX0_putLast_141 : decode cX0_putLast 141 = .ok (.iload_n 1, 1) := by decide +kernel
theorem dX0_putLast_142 : decode cX0_putLast 142 = .ok (.iastore, 1) := by decide +kernel
theorem dX0_putLast_143 : decode cX0_putLast 143 = .ok (.aload_n 0, 1) := by decide +kernel
theorem dX0_putLast_144 : decode cX0_putLast 144 = .ok (.getfield 15, 3) := by decide +kernel
theorem dX0_putLast_147 : decode cX0_putLast 147 = .ok (.iload_n 2, 1) := by decide +kernel
theorem dX0_putLast_148 : decode cX0_putLast 148 = .ok (.dup2, 1) := by decide +kernel
theorem dX0_putLast_149 : decode cX0_putLast 149 = .ok (.iaload, 1) := by decide +kernel
theorem dX0_putLast_150 : decode cX0_putLast 150 = .ok (.iconst 1, 1) := by decide +kernel
theorem dX0_putLast_151 : decode cX0_putLast 151 = .ok (.iadd, 1) := by decide +kernel
theorem dX0_putLast_152 : decode cX0_putLast 152 = .ok (.iastore, 1) := by decide +kernel
theorem dX0_putLast_153 : decode cX0_putLast 153 = .ok (.return_, 1) := by decide +kernel
set_option maxRecDepth 20000 in
theorem ggX0_drop_X0_bookOf : GoodIn wsX0_drop wsX0_bookOf := goodIn_r _ [9] (by decide +kernel) (by decide +kernel)
set_option maxRecDepth 20000 in
theorem gX0_drop_X0_bookOf : GoodIn wsX0_drop (va_wsS RX0 30 yX0_bookOf wsX0_bookOf) := goodIn_app (goodIn_of _ (by decide +kernel)) ggX0_drop_X0_bookOf
theorem dX0_drop_0 : decode cX0_drop 0 = .ok (.aload_n 0, 1) := by decide +kernel
theorem dX0_drop_1 : decode cX0_drop 1 = .ok (.getfield 18, 3) := by decide +kernel
theorem dX0_drop_4 : decode cX0_drop 4 = .ok (.getfield 22, 3) := by decide +kernel
theorem dX0_drop_7 : decode cX0_drop 7 = .ok (.iload_n 1, 1) := by decide +kernel
theorem dX0_drop_8 : decode cX0_drop 8 = .ok (.iaload, 1) := by decide +kernel
theorem dX0_drop_9 : decode cX0_drop 9 = .ok (.aload_n 0, 1) := by decide +kernel
theorem dX0_drop_10 : decode cX0_drop 10 = .ok (.getfield 18, 3) := by decide +kernel
theorem dX0_drop_13 : decode cX0_drop 13 = .ok (.getfield 27, 3) := by decide +kernel
theorem dX0_drop_16 : decode cX0_drop 16 = .ok (.iload_n 1, 1) := by decide +kernel
theorem dX0_drop_17 : decode cX0_drop 17 = .ok (.iaload, 1) := by decide +kernel
theorem dX0_drop_18 : decode cX0_drop 18 = .ok (.invokestatic 30, 3) := by decide +kernel
theorem dX0_drop_21 : decode cX0_drop 21 = .ok (.istore_n 2, 1) := by decide +kernel
theorem dX0_drop_22 : decode cX0_drop 22 = .ok (.iload_n 2, 1) := by decide +kernel
theorem dX0_drop_23 : decode cX0_drop 23 = .ok (.bipush 100, 2) := by decide +kernel
theorem dX0_drop_25 : decode cX0_drop 25 = .ok (.imul, 1) := by decide +kernel
theorem dX0_drop_26 : decode cX0_drop 26 = .ok (.istore_n 3, 1) := by decide +kernel
theorem dX0_drop_27 : decode cX0_drop 27 = .ok (.iload_n 3, 1) := by decide +kernel
theorem dX0_drop_28 : decode cX0_drop 28 = .ok (.aload_n 0, 1) := by decide +kernel
theorem dX0_drop_29 : decode cX0_drop 29 = .ok (.getfield 15, 3) := by decide +kernel
theorem dX0_drop_32 : decode cX0_drop 32 = .ok (.iload_n 2, 1) := by decide +kernel
theorem dX0_drop_33 : decode cX0_drop 33 = .ok (.iaload, 1) := by decide +kernel
theorem dX0_drop_34 : decode cX0_drop 34 = .ok (.iadd, 1) := by decide +kernel
theorem dX0_drop_35 : decode cX0_drop 35 = .ok (.iconst 1, 1) := by decide +kernel
theorem dX0_drop_36 : decode cX0_drop 36 = .ok (.isub, 1) := by decide +kernel
theorem dX0_drop_37 : decode cX0_drop 37 = .ok (.istore 4, 2) := by decide +kernel
theorem dX0_drop_39 : decode cX0_drop 39 = .ok (.iload 4, 2) := by decide +kernel
theorem dX0_drop_41 : decode cX0_drop 41 = .ok (.istore 5, 2) := by decide +kernel
theorem dX0_drop_43 : decode cX0_drop 43 = .ok (.iload 5, 2) := by decide +kernel
theorem dX0_drop_45 : decode cX0_drop 45 = .ok (.iload_n 3, 1) := by decide +kernel
theorem dX0_drop_46 : decode cX0_drop 46 = .ok (.if_icmp .lt 20, 3) := by decide +kernel
theorem dX0_drop_49 : decode cX0_drop 49 = .ok (.aload_n 0, 1) := by decide +kernel
theorem dX0_drop_50 : decode cX0_drop 50 = .ok (.getfield 9, 3) := by decide +kernel
theorem dX0_drop_53 : decode cX0_drop 53 = .ok (.iload 5, 2) := by decide +kernel
theorem dX0_drop_55 : decode cX0_drop 55 = .ok (.iaload, 1) := by decide +kernel
theorem dX0_drop_56 : decode cX0_drop 56 = .ok (.iload_n 1, 1) := by decide +kernel
theorem dX0_drop_57 : decode cX0_drop 57 = .ok (.if_icmp .eq 9, 3) := by decide +kernel
theorem dX0_drop_60 : decode cX0_drop 60 = .ok (.iinc 5 (-1), 3) := by decide +kernel
theorem dX0_drop_63 : decode cX0_drop 63 = .ok (.goto (-20), 3) := by decide +kernel
theorem dX0_drop_66 : decode cX0_drop 66 = .ok (.iload 5, 2) := by decide +kernel
theorem dX0_drop_68 : decode cX0_drop 68 = .ok (.iload_n 3, 1) := by decide +kernel
theorem dX0_drop_69 : decode cX0_drop 69 = .ok (.if_icmp .ge 4, 3) := by decide +kernel
theorem dX0_drop_72 : decode cX0_drop 72 = .ok (.return_, 1) := by decide +kernel
theorem dX0_drop_73 : decode cX0_drop 73 = .ok (.iload 5, 2) := by decide +kernel
theorem dX0_drop_75 : decode cX0_drop 75 = .ok (.istore 6, 2) := by decide +kernel
theorem dX0_drop_77 : decode cX0_drop 77 = .ok (.iload 6, 2) := by decide +kernel
theorem dX0_drop_79 : decode cX0_drop 79 = .ok (.iload 4, 2) := by decide +kernel
theorem dX0_drop_81 : decode cX0_drop 81 = .ok (.if_icmp .ge 25, 3) := by decide +kernel
theorem dX0_drop_84 : decode cX0_drop 84 = .ok (.aload_n 0, 1) := by decide +kernel
theorem dX0_drop_85 : decode cX0_drop 85 = .ok (.getfield 9, 3) := by decide +kernel
theorem dX0_drop_88 : decode cX0_drop 88 = .ok (.iload 6, 2) := by decide +kernel
theorem dX0_drop_90 : decode cX0_drop 90 = .ok (.aload_n 0, 1) := by decide +kernel
theorem dX0_drop_91 : decode cX0_drop 91 = .ok (.getfield 9, 3) := by decide +kernel
theorem dX0_drop_94 : decode cX0_drop 94 = .ok (.iload 6, 2) := by decide +kernel
theorem dX0_drop_96 : decode cX0_drop 96 = .ok (.iconst 1, 1) := by decide +kernel
theorem dX0_drop_97 : decode cX0_drop 97 = .ok (.iadd, 1) := by decide +kernel
theorem dX0_drop_98 : decode cX0_drop 98 = .ok (.iaload, 1) := by decide +kernel
theorem dX0_drop_99 : decode cX0_drop 99 = .ok (.iastore, 1) := by decide +kernel
theorem dX0_drop_100 : decode cX0_drop 100 = .ok (.iinc 6 1, 3) := by decide +kernel
theorem dX0_drop_103 : decode cX0_drop 103 = .ok (.goto (-26), 3) := by decide +kernel
theorem dX0_drop_106 : decode cX0_drop 106 = .ok (.aload_n 0, 1) := by decide +kernel
theorem dX0_drop_107 : decode cX0_drop 107 = .ok (.getfield 15, 3) := by decide +kernel
theorem dX0_drop_110 : decode cX0_drop 110 = .ok (.iload_n 2, 1) := by decide +kernel
theorem dX0_drop_111 : decode cX0_drop 111 = .ok (.dup2, 1) := by decide +kernel
theorem dX0_drop_112 : decode cX0_drop 112 = .ok (.iaload, 1) := by decide +kernel
theorem dX0_drop_113 : decode cX0_drop 113 = .ok (.iconst 1, 1) := by decide +kernel
theorem dX0_drop_114 : decode cX0_drop 114 = .ok (.isub, 1) := by decide +kernel
theorem dX0_drop_115 : decode cX0_drop 115 = .ok (.iastore, 1) := by decide +kernel
theorem dX0_drop_116 : decode cX0_drop 116 = .ok (.return_, 1) := by decide +kernel
theorem dX0_countPrices_0 : decode cX0_countPrices 0 = .ok (.iconst 0, 1) := by decide +kernel
theorem dX0_countPrices_1 : decode cX0_countPrices 1 = .ok (.istore_n 2, 1) := by decide +kernel
theorem dX0_countPrices_2 : decode cX0_countPrices 2 = .ok (.iconst 0, 1) := by decide +kernel
theorem dX0_countPrices_3 : decode cX0_countPrices 3 = .ok (.istore_n 3, 1) := by decide +kernel
theorem dX0_countPrices_4 : decode cX0_countPrices 4 = .ok (.iconst 0, 1) := by decide +kernel
theorem dX0_countPrices_5 : decode cX0_countPrices 5 = .ok (.istore 4, 2) := by decide +kernel
theorem dX0_countPrices_7 : decode cX0_countPrices 7 = .ok (.iload 4, 2) := by decide +kernel
theorem dX0_countPrices_9 : decode cX0_countPrices 9 = .ok (.aload_n 0, 1) := by decide +kernel
theorem dX0_countPrices_10 : decode cX0_countPrices 10 = .ok (.getfield 15, 3) := by decide +kernel
theorem dX0_countPrices_13 : decode cX0_countPrices 13 = .ok (.iload_n 1, 1) := by decide +kernel
theorem dX0_countPrices_14 : decode cX0_countPrices 14 = .ok (.iaload, 1) := by decide +kernel
theorem dX0_countPrices_15 : decode cX0_countPrices 15 = .ok (.if_icmp .ge 43, 3) := by decide +kernel
theorem dX0_countPrices_18 : decode cX0_countPrices 18 = .ok (.aload_n 0, 1) := by decide +kernel
theorem dX0_countPrices_19 : decode cX0_countPrices 19 = .ok (.getfield 18, 3) := by decide +kernel
theorem dX0_countPrices_22 : decode cX0_countPrices 22 = .ok (.getfield 34, 3) := by decide +kernel
theorem dX0_countPrices_25 : decode cX0_countPrices 25 = .ok (.aload_n 0, 1) := by decide +kernel
theorem dX0_countPrices_26 : decode cX0_countPrices 26 = .ok (.getfield 9, 3) := by decide +kernel
theorem dX0_countPrices_29 : decode cX0_countPrices 29 = .ok (.iload_n 1, 1) := by decide +kernel
theorem dX0_countPrices_30 : decode cX0_countPrices 30 = .ok (.bipush 100, 2) := by decide +kernel
theorem dX0_countPrices_32 : decode cX0_countPrices 32 = .ok (.imul, 1) := by decide +kernel
theorem dX0_countPrices_33 : decode cX0_countPrices 33 = .ok (.iload 4, 2) := by decide +kernel
theorem dX0_countPrices_35 : decode cX0_countPrices 35 = .ok (.iadd, 1) := by decide +kernel
theorem dX0_countPrices_36 : decode cX0_countPrices 36 = .ok (.iaload, 1) := by decide +kernel
theorem dX0_countPrices_37 : decode cX0_countPrices 37 = .ok (.iaload, 1) := by decide +kernel
theorem dX0_countPrices_38 : decode cX0_countPrices 38 = .ok (.istore 5, 2) := by decide +kernel
theorem dX0_countPrices_40 : decode cX0_countPrices 40 = .ok (.iload 5, 2) := by decide +kernel
theorem dX0_countPrices_42 : decode cX0_countPrices 42 = .ok (.iload_n 3, 1) := by decide +kernel
theorem dX0_countPrices_43 : decode cX0_countPrices 43 = .ok (.if_icmp .eq 9, 3) := by decide +kernel
theorem dX0_countPrices_46 : decode cX0_countPrices 46 = .ok (.iinc 2 1, 3) := by decide +kernel
theorem dX0_countPrices_49 : decode cX0_countPrices 49 = .ok (.iload 5, 2) := by decide +kernel
theorem dX0_countPrices_51 : decode cX0_countPrices 51 = .ok (.istore_n 3, 1) := by decide +kernel
theorem dX0_countPrices_52 : decode cX0_countPrices 52 = .ok (.iinc 4 1, 3) := by decide +kernel
theorem dX0_countPrices_55 : decode cX0_countPrices 55 = .ok (.goto (-48), 3) := by decide +kernel
theorem dX0_countPrices_58 : decode cX0_countPrices 58 = .ok (.iload_n 2, 1) := by decide +kernel
theorem dX0_countPrices_59 : decode cX0_countPrices 59 = .ok (.ireturn, 1) := by decide +kernel
theorem dX0_priceOfLevel_0 : decode cX0_priceOfLevel 0 = .ok (.iconst (-1), 1) := by decide +kernel
theorem dX0_priceOfLevel_1 : decode cX0_priceOfLevel 1 = .ok (.istore_n 3, 1) := by decide +kernel
theorem dX0_priceOfLevel_2 : decode cX0_priceOfLevel 2 = .ok (.iconst 0, 1) := by decide +kernel
theorem dX0_priceOfLevel_3 : decode cX0_priceOfLevel 3 = .ok (.istore 4, 2) := by decide +kernel
theorem dX0_priceOfLevel_5 : decode cX0_priceOfLevel 5 = .ok (.aload_n 0, 1) := by decide +kernel
theorem dX0_priceOfLevel_6 : decode cX0_priceOfLevel 6 = .ok (.getfield 15, 3) := by decide +kernel
theorem dX0_priceOfLevel_9 : decode cX0_priceOfLevel 9 = .ok (.iload_n 1, 1) := by decide +kernel
theorem dX0_priceOfLevel_10 : decode cX0_priceOfLevel 10 = .ok (.iaload, 1) := by decide +kernel
theorem dX0_priceOfLevel_11 : decode cX0_priceOfLevel 11 = .ok (.iconst 1, 1) := by decide +kernel
theorem dX0_priceOfLevel_12 : decode cX0_priceOfLevel 12 = .ok (.isub, 1) := by decide +kernel
theorem dX0_priceOfLevel_13 : decode cX0_priceOfLevel 13 = .ok (.istore 5, 2) := by decide +kernel
theorem dX0_priceOfLevel_15 : decode cX0_priceOfLevel 15 = .ok (.iload 5, 2) := by decide +kernel
theorem dX0_priceOfLevel_17 : decode cX0_priceOfLevel 17 = .ok (.ifCond .lt 53, 3) := by decide +kernel
theorem dX0_priceOfLevel_20 : decode cX0_priceOfLevel 20 = .ok (.aload_n 0, 1) := by decide +kernel
theorem dX0_priceOfLevel_21 : decode cX0_priceOfLevel 21 = .ok (.getfield 18, 3) := by decide +kernel
theorem dX0_priceOfLevel_24 : decode cX0_priceOfLevel 24 = .ok (.getfield 34, 3) := by decide +kernel
theorem dX0_priceOfLevel_27 : decode cX0_priceOfLevel 27 = .ok (.aload_n 0, 1) := by decide +kernel
theorem dX0_priceOfLevel_28 : decode cX0_priceOfLevel 28 = .ok (.getfield 9, 3) := by decide +kernel
theorem dX0_priceOfLevel_31 : decode cX0_priceOfLevel 31 = .ok (.iload_n 1, 1) := by decide +kernel
theorem dX0_priceOfLevel_32 : decode cX0_priceOfLevel 32 = .ok (.bipush 100, 2) := by decide +kernel
theorem dX0_priceOfLevel_34 : decode cX0_priceOfLevel 34 = .ok (.imul, 1) := by decide +kernel
theorem dX0_priceOfLevel_35 : decode cX0_priceOfLevel 35 = .ok (.iload 5, 2) := by decide +kernel
theorem dX0_priceOfLevel_37 : decode cX0_priceOfLevel 37 = .ok (.iadd, 1) := by decide +kernel
theorem dX0_priceOfLevel_38 : decode cX0_priceOfLevel 38 = .ok (.iaload, 1) := by decide +kernel
theorem dX0_priceOfLevel_39 : decode cX0_priceOfLevel 39 = .ok (.iaload, 1) := by decide +kernel
theorem dX0_priceOfLevel_40 : decode cX0_priceOfLevel 40 = .ok (.istore 6, 2) := by decide +kernel
theorem dX0_priceOfLevel_42 : decode cX0_priceOfLevel 42 = .ok (.iload 6, 2) := by decide +kernel
theorem dX0_priceOfLevel_44 : decode cX0_priceOfLevel 44 = .ok (.iload 4, 2) := by decide +kernel
theorem dX0_priceOfLevel_46 : decode cX0_priceOfLevel 46 = .ok (.if_icmp .eq 10, 3) := by decide +kernel
theorem dX0_priceOfLevel_49 : decode cX0_priceOfLevel 49 = .ok (.iinc 3 1, 3) := by decide +kernel
theorem dX0_priceOfLevel_52 : decode cX0_priceOfLevel 52 = .ok (.iload 6, 2) := by decide +kernel
theorem dX0_priceOfLevel_54 : decode cX0_priceOfLevel 54 = .ok (.istore 4, 2) := by decide +kernel
theorem dX0_priceOfLevel_56 : decode cX0_priceOfLevel 56 = .ok (.iload_n 3, 1) := by decide +kernel
theorem dX0_priceOfLevel_57 : decode cX0_priceOfLevel 57 = .ok (.iload_n 2, 1) := by decide +kernel
theorem dX0_priceOfLevel_58 : decode cX0_priceOfLevel 58 = .ok (.if_icmp .ne 6, 3) := by decide +kernel
theorem dX0_priceOfLevel_61 : decode cX0_priceOfLevel 61 = .ok (.iload 6, 2) := by decide +kernel
theorem dX0_priceOfLevel_63 : decode cX0_priceOfLevel 63 = .ok (.ireturn, 1) := by decide +kernel
theorem dX0_priceOfLevel_64 : decode cX0_priceOfLevel 64 = .ok (.iinc 5 (-1), 3) := by decide +kernel
theorem dX0_priceOfLevel_67 : decode cX0_priceOfLevel 67 = .ok (.goto (-52), 3) := by decide +kernel
theorem dX0_priceOfLevel_70 : decode cX0_priceOfLevel 70 = .ok (.iconst (-1), 1) := by decide +kernel
theorem dX0_priceOfLevel_71 : decode cX0_priceOfLevel 71 = .ok (.ireturn, 1) := by decide +kernel
theorem dX0_countOrders_0 : decode cX0_countOrders 0 = .ok (.iconst 0, 1) := by decide +kernel
theorem dX0_countOrders_1 : decode cX0_countOrders 1 = .ok (.istore_n 3, 1) := by decide +kernel
theorem dX0_countOrders_2 : decode cX0_countOrders 2 = .ok (.iconst 0, 1) := by decide +kernel
theorem dX0_countOrders_3 : decode cX0_countOrders 3 = .ok (.istore 4, 2) := by decide +kernel
theorem dX0_countOrders_5 : decode cX0_countOrders 5 = .ok (.iload 4, 2) := by decide +kernel
theorem dX0_countOrders_7 : decode cX0_countOrders 7 = .ok (.aload_n 0, 1) := by decide +kernel
theorem dX0_countOrders_8 : decode cX0_countOrders 8 = .ok (.getfield 15, 3) := by decide +kernel
theorem dX0_countOrders_11 : decode cX0_countOrders 11 = .ok (.iload_n 1, 1) := by decide +kernel
theorem dX0_countOrders_12 : decode cX0_countOrders 12 = .ok (.iaload, 1) := by decide +kernel
theorem dX0_countOrders_13 : decode cX0_countOrders 13 = .ok (.if_icmp .ge 36, 3) := by decide +kernel
theorem dX0_countOrders_16 : decode cX0_countOrders 16 = .ok (.aload_n 0, 1) := by decide +kernel
theorem dX0_countOrders_17 : decode cX0_countOrders 17 = .ok (.getfield 18, 3) := by decide +kernel
theorem dX0_countOrders_20 : decode cX0_countOrders 20 = .ok (.getfield 34, 3) := by decide +kernel
theorem dX0_countOrders_23 : decode cX0_countOrders 23 = .ok (.aload_n 0, 1) := by decide +kernel
theorem dX0_countOrders_24 : decode cX0_countOrders 24 = .ok (.getfield 9, 3) := by decide +kernel
theorem dX0_countOrders_27 : decode cX0_countOrders 27 = .ok (.iload_n 1, 1) := by decide +kernel
theorem dX0_countOrders_28 : decode cX0_countOrders 28 = .ok (.bipush 100, 2) := by decide +kernel
theorem dX0_countOrders_30 : decode cX0_countOrders 30 = .ok (.imul, 1) := by decide +kernel
theorem dX0_countOrders_31 : decode cX0_countOrders 31 = .ok (.iload 4, 2) := by decide +kernel
theorem dX0_countOrders_33 : decode cX0_countOrders 33 = .ok (.iadd, 1) := by decide +kernel
theorem dX0_countOrders_34 : decode cX0_countOrders 34 = .ok (.iaload, 1) := by decide +kernel
theorem dX0_countOrders_35 : decode cX0_countOrders 35 = .ok (.iaload, 1) := by decide +kernel
theorem dX0_countOrders_36 : decode cX0_countOrders 36 = .ok (.iload_n 2, 1) := by decide +kernel
theorem dX0_countOrders_37 : decode cX0_countOrders 37 = .ok (.if_icmp .ne 6, 3) := by decide +kernel
theorem dX0_countOrders_40 : decode cX0_countOrders 40 = .ok (.iinc 3 1, 3) := by decide +kernel
theorem dX0_countOrders_43 : decode cX0_countOrders 43 = .ok (.iinc 4 1, 3) := by decide +kernel
theorem dX0_countOrders_46 : decode cX0_countOrders 46 = .ok (.goto (-41), 3) := by decide +kernel
theorem dX0_countOrders_49 : decode cX0_countOrders 49 = .ok (.iload_n 3, 1) := by decide +kernel
theorem dX0_countOrders_50 : decode cX0_countOrders 50 = .ok (.ireturn, 1) := by decide +kernel
theorem dX0_sumLeft_0 : decode cX0_sumLeft 0 = .ok (.iconst 0, 1) := by decide +kernel
theorem dX0_sumLeft_1 : decode cX0_sumLeft 1 = .ok (.istore_n 3, 1) := by decide +kernel
theorem dX0_sumLeft_2 : decode cX0_sumLeft 2 = .ok (.iconst 0, 1) := by decide +kernel
theorem dX0_sumLeft_3 : decode cX0_sumLeft 3 = .ok (.istore 4, 2) := by decide +kernel
theorem dX0_sumLeft_5 : decode cX0_sumLeft 5 = .ok (.iload 4, 2) := by decide +kernel
theorem dX0_sumLeft_7 : decode cX0_sumLeft 7 = .ok (.aload_n 0, 1) := by decide +kernel
theorem dX0_sumLeft_8 : decode cX0_sumLeft 8 = .ok (.getfield 15, 3) := by decide +kernel
theorem dX0_sumLeft_11 : decode cX0_sumLeft 11 = .ok (.iload_n 1, 1) := by decide +kernel
theorem dX0_sumLeft_12 : decode cX0_sumLeft 12 = .ok (.iaload, 1) := by decide +kernel
theorem dX0_sumLeft_13 : decode cX0_sumLeft 13 = .ok (.if_icmp .ge 50, 3) := by decide +kernel
theorem dX0_sumLeft_16 : decode cX0_sumLeft 16 = .ok (.aload_n 0, 1) := by decide +kernel
theorem dX0_sumLeft_17 : decode cX0_sumLeft 17 = .ok (.getfield 9, 3) := by decide +kernel
theorem dX0_sumLeft_20 : decode cX0_sumLeft 20 = .ok (.iload_n 1, 1) := by decide +kernel
theorem dX0_sumLeft_21 : decode cX0_sumLeft 21 = .ok (.bipush 100, 2) := by decide +kernel
theorem dX0_sumLeft_23 : decode cX0_sumLeft 23 = .ok (.imul, 1) := by decide +kernel
theorem dX0_sumLeft_24 : decode cX0_sumLeft 24 = .ok (.iload 4, 2) := by decide +kernel
theorem dX0_sumLeft_26 : decode cX0_sumLeft 26 = .ok (.iadd, 1) := by decide +kernel
theorem dX0_sumLeft_27 : decode cX0_sumLeft 27 = .ok (.iaload, 1) := by decide +kernel
theorem dX0_sumLeft_28 : decode cX0_sumLeft 28 = .ok (.istore 5, 2) := by decide +kernel
theorem dX0_sumLeft_30 : decode cX0_sumLeft 30 = .ok (.aload_n 0, 1) := by decide +kernel
theorem dX0_sumLeft_31 : decode cX0_sumLeft 31 = .ok (.getfield 18, 3) := by decide +kernel
theorem dX0_sumLeft_34 : decode cX0_sumLeft 34 = .ok (.getfield 34, 3) := by decide +kernel
theorem dX0_sumLeft_37 : decode cX0_sumLeft 37 = .ok (.iload 5, 2) := by decide +kernel
theorem dX0_sumLeft_39 : decode cX0_sumLeft 39 = .ok (.iaload, 1) := by decide +kernel
theorem dX0_sumLeft_40 : decode cX0_sumLeft 40 = .ok (.iload_n 2, 1) := by decide +kernel
theorem dX0_sumLeft_41 : decode cX0_sumLeft 41 = .ok (.if_icmp .ne 16, 3) := by decide +kernel
theorem dX0_sumLeft_44 : decode cX0_sumLeft 44 = .ok (.iload_n 3, 1) := by decide +kernel
theorem dX0_sumLeft_45 : decode cX0_sumLeft 45 = .ok (.aload_n 0, 1) := by decide +kernel
theorem dX0_sumLeft_46 : decode cX0_sumLeft 46 = .ok (.getfield 18, 3) := by decide +kernel
theorem dX0_sumLeft_49 : decode cX0_sumLeft 49 = .ok (.getfield 37, 3) := by decide +kernel
theorem dX0_sumLeft_52 : decode cX0_sumLeft 52 = .ok (.iload 5, 2) := by decide +kernel
theorem dX0_sumLeft_54 : decode cX0_sumLeft 54 = .ok (.iaload, 1) := by decide +kernel
theorem dX0_sumLeft_55 : decode cX0_sumLeft 55 = .ok (.iadd, 1) := by decide +kernel
theorem dX0_sumLeft_56 : decode cX0_sumLeft 56 = .ok (.istore_n 3, 1) := by decide +kernel
theorem dX0_sumLeft_57 : decode cX0_sumLeft 57 = .ok (.iinc 4 1, 3) := by decide +kernel
theorem dX0_sumLeft_60 : decode cX0_sumLeft 60 = .ok (.goto (-55), 3) := by decide +kernel
theorem dX0_sumLeft_63 : decode cX0_sumLeft 63 = .ok (.iload_n 3, 1) := by decide +kernel
theorem dX0_sumLeft_64 : decode cX0_sumLeft 64 = .ok (.ireturn, 1) := by decide +kernel
theorem dX0_sumShown_0 : decode cX0_sumShown 0 = .ok (.iconst 0, 1) := by decide +kernel
theorem dX0_sumShown_1 : decode cX0_sumShown 1 = .ok (.istore 4, 2) := by decide +kernel
theorem dX0_sumShown_3 : decode cX0_sumShown 3 = .ok (.aload_n 0, 1) := by decide +kernel
theorem dX0_sumShown_4 : decode cX0_sumShown 4 = .ok (.getfield 15, 3) := by decide +kernel
theorem dX0_sumShown_7 : decode cX0_sumShown 7 = .ok (.iload_n 1, 1) := by decide +kernel
theorem dX0_sumShown_8 : decode cX0_sumShown 8 = .ok (.iaload, 1) := by decide +kernel
theorem dX0_sumShown_9 : decode cX0_sumShown 9 = .ok (.iconst 1, 1) := by decide +kernel
theorem dX0_sumShown_10 : decode cX0_sumShown 10 = .ok (.isub, 1) := by decide +kernel
theorem dX0_sumShown_11 : decode cX0_sumShown 11 = .ok (.istore 5, 2) := by decide +kernel
theorem dX0_sumShown_13 : decode cX0_sumShown 13 = .ok (.iload 5, 2) := by decide +kernel
theorem dX0_sumShown_15 : decode cX0_sumShown 15 = .ok (.ifCond .lt 61, 3) := by decide +kernel
theorem dX0_sumShown_18 : decode cX0_sumShown 18 = .ok (.aload_n 0, 1) := by decide +kernel
theorem dX0_sumShown_19 : decode cX0_sumShown 19 = .ok (.getfield 9, 3) := by decide +kernel
theorem dX0_sumShown_22 : decode cX0_sumShown 22 = .ok (.iload_n 1, 1) := by decide +kernel
theorem dX0_sumShown_23 : decode cX0_sumShown 23 = .ok (.bipush 100, 2) := by decide +kernel
theorem dX0_sumShown_25 : decode cX0_sumShown 25 = .ok (.imul, 1) := by decide +kernel
theorem dX0_sumShown_26 : decode cX0_sumShown 26 = .ok (.iload 5, 2) := by decide +kernel
theorem dX0_sumShown_28 : decode cX0_sumShown 28 = .ok (.iadd, 1) := by decide +kernel
theorem dX0_sumShown_29 : decode cX0_sumShown 29 = .ok (.iaload, 1) := by decide +kernel
theorem dX0_sumShown_30 : decode cX0_sumShown 30 = .ok (.istore 6, 2) := by decide +kernel
theorem dX0_sumShown_32 : decode cX0_sumShown 32 = .ok (.iload 6, 2) := by decide +kernel
theorem dX0_sumShown_34 : decode cX0_sumShown 34 = .ok (.iload_n 3, 1) := by decide +kernel
theorem dX0_sumShown_35 : decode cX0_sumShown 35 = .ok (.if_icmp .ne 6, 3) := by decide +kernel
theorem dX0_sumShown_38 : decode cX0_sumShown 38 = .ok (.iload 4, 2) := by decide +kernel
theorem dX0_sumShown_40 : decode cX0_sumShown 40 = .ok (.ireturn, 1) := by decide +kernel
theorem dX0_sumShown_41 : decode cX0_sumShown 41 = .ok (.aload_n 0, 1) := by decide +kernel
theorem dX0_sumShown_42 : decode cX0_sumShown 42 = .ok (.getfield 18, 3) := by decide +kernel
theorem dX0_sumShown_45 : decode cX0_sumShown 45 = .ok (.getfield 34, 3) := by decide +kernel
theorem dX0_sumShown_48 : decode cX0_sumShown 48 = .ok (.iload 6, 2) := by decide +kernel
theorem dX0_sumShown_50 : decode cX0_sumShown 50 = .ok (.iaload, 1) := by decide +kernel
theorem dX0_sumShown_51 : decode cX0_sumShown 51 = .ok (.iload_n 2, 1) := by decide +kernel
theorem dX0_sumShown_52 : decode cX0_sumShown 52 = .ok (.if_icmp .ne 18, 3) := by decide +kernel
theorem dX0_sumShown_55 : decode cX0_sumShown 55 = .ok (.iload 4, 2) := by decide +kernel
theorem dX0_sumShown_57 : decode cX0_sumShown 57 = .ok (.aload_n 0, 1) := by decide +kernel
theorem dX0_sumShown_58 : decode cX0_sumShown 58 = .ok (.getfield 18, 3) := by decide +kernel
theorem dX0_sumShown_61 : decode cX0_sumShown 61 = .ok (.getfield 40, 3) := by decide +kernel
theorem dX0_sumShown_64 : decode cX0_sumShown 64 = .ok (.iload 6, 2) := by decide +kernel
theorem dX0_sumShown_66 : decode cX0_sumShown 66 = .ok (.iaload, 1) := by decide +kernel
theorem dX0_sumShown_67 : decode cX0_sumShown 67 = .ok (.iadd, 1) := by decide +kernel
theorem dX0_sumShown_68 : decode cX0_sumShown 68 = .ok (.istore 4, 2) := by decide +kernel
theorem dX0_sumShown_70 : decode cX0_sumShown 70 = .ok (.iinc 5 (-1), 3) := by decide +kernel
theorem dX0_sumShown_73 : decode cX0_sumShown 73 = .ok (.goto (-60), 3) := by decide +kernel
theorem dX0_sumShown_76 : decode cX0_sumShown 76 = .ok (.iload 4, 2) := by decide +kernel
theorem dX0_sumShown_78 : decode cX0_sumShown 78 = .ok (.ireturn, 1) := by decide +kernel
theorem dX1_init_0 : decode cX1_init 0 = .ok (.aload_n 0, 1) := by decide +kernel
theorem dX1_init_1 : decode cX1_init 1 = .ok (.invokespecial 3, 3) := by decide +kernel
theorem dX1_init_4 : decode cX1_init 4 = .ok (.aload_n 0, 1) := by decide +kernel
theorem dX1_init_5 : decode cX1_init 5 = .ok (.sipush 512, 3) := by decide +kernel
theorem dX1_init_8 : decode cX1_init 8 = .ok (.newarray .long, 2) := by decide +kernel
theorem dX1_init_10 : decode cX1_init 10 = .ok (.putfield 9, 3) := by decide +kernel
theorem dX1_init_13 : decode cX1_init 13 = .ok (.aload_n 0, 1) := by decide +kernel
theorem dX1_init_14 : decode cX1_init 14 = .ok (.sipush 512, 3) := by decide +kernel
theorem dX1_init_17 : decode cX1_init 17 = .ok (.newarray .long, 2) := by decide +kernel
theorem dX1_init_19 : decode cX1_init 19 = .ok (.putfield 15, 3) := by decide +kernel
theorem dX1_init_22 : decode cX1_init 22 = .ok (.aload_n 0, 1) := by decide +kernel
theorem dX1_init_23 : decode cX1_init 23 = .ok (.sipush 2048, 3) := by decide +kernel
theorem dX1_init_26 : decode cX1_init 26 = .ok (.newarray .int, 2) := by decide +kernel
theorem dX1_init_28 : decode cX1_init 28 = .ok (.putfield 18, 3) := by decide +kernel
theorem dX1_init_31 : decode cX1_init 31 = .ok (.aload_n 0, 1) := by decide +kernel
theorem dX1_init_32 : decode cX1_init 32 = .ok (.sipush 2048, 3) := by decide +kernel
theorem dX1_init_35 : decode cX1_init 35 = .ok (.newarray .int, 2) := by decide +kernel
theorem dX1_init_37 : decode cX1_init 37 = .ok (.putfield 22, 3) := by decide +kernel
theorem dX1_init_40 : decode cX1_init 40 = .ok (.aload_n 0, 1) := by decide +kernel
theorem dX1_init_41 : decode cX1_init 41 = .ok (.sipush 2048, 3) := by decide +kernel
theorem dX1_init_44 : decode cX1_init 44 = .ok (.newarray .int, 2) := by decide +kernel
theorem dX1_init_46 : decode cX1_init 46 = .ok (.putfield 25, 3) := by decide +kernel
theorem dX1_init_49 : decode cX1_init 49 = .ok (.aload_n 0, 1) := by decide +kernel
theorem dX1_init_50 : decode cX1_init 50 = .ok (.sipush 2048, 3) := by decide +kernel
theorem dX1_init_53 : decode cX1_init 53 = .ok (.newarray .int, 2) := by decide +kernel
theorem dX1_init_55 : decode cX1_init 55 = .ok (.putfield 28, 3) := by decide +kernel
theorem dX1_init_58 : decode cX1_init 58 = .ok (.aload_n 0, 1) := by decide +kernel
theorem dX1_init_59 : decode cX1_init 59 = .ok (.sipush 512, 3) := by decide +kernel
theorem dX1_init_62 : decode cX1_init 62 = .ok (.newarray .boolean, 2) := by decide +kernel
theorem dX1_init_64 : decode cX1_init 64 = .ok (.putfield 31, 3) := by decide +kernel
theorem dX1_init_67 : decode cX1_init 67 = .ok (.aload_n 0, 1) := by decide +kernel
theorem dX1_init_68 : decode cX1_init 68 = .ok (.iconst 0, 1) := by decide +kernel
theorem dX1_init_69 : decode cX1_init 69 = .ok (.putfield 35, 3) := by decide +kernel
theorem dX1_init_72 : decode cX1_init 72 = .ok (.return_, 1) := by decide +kernel
theorem dX1_placeOf_0 : decode cX1_placeOf 0 = .ok (.iload_n 0, 1) := by decide +kernel
theorem dX1_placeOf_1 : decode cX1_placeOf 1 = .ok (.iconst 4, 1) := by decide +kernel
theorem dX1_placeOf_2 : decode cX1_placeOf 2 = .ok (.imul, 1) := by decide +kernel
theorem dX1_placeOf_3 : decode cX1_placeOf 3 = .ok (.iload_n 1, 1) := by decide +kernel
theorem dX1_placeOf_4 : decode cX1_placeOf 4 = .ok (.iadd, 1) := by decide +kernel
theorem dX1_placeOf_5 : decode cX1_placeOf 5 = .ok (.ireturn, 1) := by decide +kernel
theorem dX1_know_0 : decode cX1_know 0 = .ok (.aload_n 0, 1) := by decide +kernel
theorem dX1_know_1 : decode cX1_know 1 = .ok (.getfield 31, 3) := by decide +kernel
theorem dX1_know_4 : decode cX1_know 4 = .ok (.iload_n 1, 1) := by decide +kernel
theorem dX1_know_5 : decode cX1_know 5 = .ok (.baload, 1) := by decide +kernel
theorem dX1_know_6 : decode cX1_know 6 = .ok (.ifCond .ne 20, 3) := by decide +kernel
theorem dX1_know_9 : decode cX1_know 9 = .ok (.aload_n 0, 1) := by decide +kernel
theorem dX1_know_10 : decode cX1_know 10 = .ok (.getfield 31, 3) := by decide +kernel
theorem dX1_know_13 : decode cX1_know 13 = .ok (.iload_n 1, 1) := by decide +kernel
theorem dX1_know_14 : decode cX1_know 14 = .ok (.iconst 1, 1) := by decide +kernel
theorem dX1_know_15 : decode cX1_know 15 = .ok (.bastore, 1) := by decide +kernel
theorem dX1_know_16 : decode cX1_know 16 = .ok (.aload_n 0, 1) := by decide +kernel
theorem dX1_know_17 : decode cX1_know 17 = .ok (.dup, 1) := by decide +kernel
theorem dX1_know_18 : decode cX1_know 18 = .ok (.getfield 35, 3) := by decide +kernel
theorem dX1_know_21 : decode cX1_know 21 = .ok (.iconst 1, 1) := by decide +kernel
theorem dX1_know_22 : decode cX1_know 22 = .ok (.iadd, 1) := by decide +kernel
theorem dX1_know_23 : decode cX1_know 23 = .ok (.putfield 35, 3) := by decide +kernel
theorem dX1_know_26 : decode cX1_know 26 = .ok (.return_, 1) := by decide +kernel
theorem dX1_freeCash_0 : decode cX1_freeCash 0 = .ok (.aload_n 0, 1) := by decide +kernel
theorem dX1_freeCash_1 : decode cX1_freeCash 1 = .ok (.getfield 9, 3) := by decide +kernel
theorem dX1_freeCash_4 : decode cX1_freeCash 4 = .ok (.iload_n 1, 1) := by decide +kernel
theorem dX1_freeCash_5 : decode cX1_freeCash 5 = .ok (.laload, 1) := by decide +kernel
theorem dX1_freeCash_6 : decode cX1_freeCash 6 = .ok (.aload_n 0, 1) := by decide +kernel
theorem dX1_freeCash_7 : decode cX1_freeCash 7 = .ok (.getfield 15, 3) := by decide +kernel
theorem dX1_freeCash_10 : decode cX1_freeCash 10 = .ok (.iload_n 1, 1) := by decide +kernel
theorem dX1_freeCash_11 : decode cX1_freeCash 11 = .ok (.laload, 1) := by decide +kernel
theorem dX1_freeCash_12 : decode cX1_freeCash 12 = .ok (.lsub, 1) := by decide +kernel
theorem dX1_freeCash_13 : decode cX1_freeCash 13 = .ok (.lreturn, 1) := by decide +kernel
set_option maxRecDepth 20000 in
theorem ggX1_canHold_X1_freeCash : GoodIn wsX1_canHold wsX1_freeCash := goodIn_r _ [7, 8, 9, 13, 14, 15, 16, 17, 18, 19, 20] (by decide +kernel) (by decide +kernel)
set_option maxRecDepth 20000 in
theorem gX1_canHold_X1_freeCash : GoodIn wsX1_canHold (wsV RX1 39 RX1 yX1_freeCash wsX1_freeCash) := goodIn_app (goodIn_of _ (by decide +kernel)) ggX1_canHold_X1_freeCash
set_option maxRecDepth 20000 in
theorem ggX1_canHold_X1_placeOf : GoodIn wsX1_canHold wsX1_placeOf := goodIn_r _ [12] (by decide +kernel) (by decide +kernel)
set_option maxRecDepth 20000 in
theorem gX1_canHold_X1_placeOf : GoodIn wsX1_canHold (va_wsS RX1 43 yX1_placeOf wsX1_placeOf) := goodIn_app (goodIn_of _ (by decide +kernel)) ggX1_canHold_X1_placeOf
theorem dX1_canHold_0 : decode cX1_canHold 0 = .ok (.iload_n 3, 1) := by decide +kernel
theorem dX1_canHold_1 : decode cX1_canHold 1 = .ok (.ifCond .ne 25, 3) := by decide +kernel
theorem dX1_canHold_4 : decode cX1_canHold 4 = .ok (.aload_n 0, 1) := by decide +kernel
theorem dX1_canHold_5 : decode cX1_canHold 5 = .ok (.iload_n 1, 1) := by decide +kernel
theorem dX1_canHold_6 : decode cX1_canHold 6 = .ok (.invokevirtual 39, 3) := by decide +kernel
theorem dX1_canHold_9 : decode cX1_canHold 9 = .ok (.iload 4, 2) := by decide +kernel
theorem dX1_canHold_11 : decode cX1_canHold 11 = .ok (.i2l, 1) := by decide +kernel
theorem dX1_canHold_12 : decode cX1_canHold 12 = .ok (.iload 5, 2) := by decide +kernel
theorem dX1_canHold_14 : decode cX1_canHold 14 = .ok (.i2l, 1) := by decide +kernel
theorem dX1_canHold_15 : decode cX1_canHold 15 = .ok (.lmul, 1) := by decide +kernel
theorem dX1_canHold_16 : decode cX1_canHold 16 = .ok (.lcmp, 1) := by decide +kernel
theorem dX1_canHold_17 : decode cX1_canHold 17 = .ok (.ifCond .lt 7, 3) := by decide +kernel
theorem dX1_canHold_20 : decode cX1_canHold 20 = .ok (.iconst 1, 1) := by decide +kernel
theorem dX1_canHold_21 : decode cX1_canHold 21 = .ok (.goto 4, 3) := by decide +kernel
theorem dX1_canHold_24 : decode cX1_canHold 24 = .ok (.iconst 0, 1) := by decide +kernel
theorem dX1_canHold_25 : decode cX1_canHold 25 = .ok (.ireturn, 1) := by decide +kernel
theorem dX1_canHold_26 : decode cX1_canHold 26 = .ok (.iload_n 1, 1) := by decide +kernel
theorem dX1_canHold_27 : decode cX1_canHold 27 = .ok (.iload_n 2, 1) := by decide +kernel
theorem dX1_canHold_28 : decode cX1_canHold 28 = .ok (.invokestatic 43, 3) := by decide +kernel
theorem dX1_canHold_31 : decode cX1_canHold 31 = .ok (.istore 6, 2) := by decide +kernel
theorem dX1_canHold_33 : decode cX1_canHold 33 = .ok (.aload_n 0, 1) := by decide +kernel
theorem dX1_canHold_34 : decode cX1_canHold 34 = .ok (.getfield 18, 3) := by decide +kernel
theorem dX1_canHold_37 : decode cX1_canHold 37 = .ok (.iload 6, 2) := by decide +kernel
theorem dX1_canHold_39 : decode cX1_canHold 39 = .ok (.iaload, 1) := by decide +kernel
theorem dX1_canHold_40 : decode cX1_canHold 40 = .ok (.aload_n 0, 1) := by decide +kernel
theorem dX1_canHold_41 : decode cX1_canHold 41 = .ok (.getfield 22, 3) := by decide +kernel
theorem dX1_canHold_44 : decode cX1_canHold 44 = .ok (.iload 6, 2) := by decide +kernel
theorem dX1_canHold_46 : decode cX1_canHold 46 = .ok (.iaload, 1) := by decide +kernel
theorem dX1_canHold_47 : decode cX1_canHold 47 = .ok (.isub, 1) := by decide +kernel
theorem dX1_canHold_48 : decode cX1_canHold 48 = .ok (.iload 5, 2) := by decide +kernel
theorem dX1_canHold_50 : decode cX1_canHold 50 = .ok (.if_icmp .lt 7, 3) := by decide +kernel
theorem dX1_canHold_53 : decode cX1_canHold 53 = .ok (.iconst 1, 1) := by decide +kernel
theorem dX1_canHold_54 : decode cX1_canHold 54 = .ok (.goto 4, 3) := by decide +kernel
theorem dX1_canHold_57 : decode cX1_canHold 57 = .ok (.iconst 0, 1) := by decide +kernel
theorem dX1_canHold_58 : decode cX1_canHold 58 = .ok (.ireturn, 1) := by decide +kernel
set_option maxRecDepth 20000 in
theorem ggX1_handOver_X1_placeOf : GoodIn wsX1_handOver wsX1_placeOf := goodIn_r _ [8] (by decide +kernel) (by decide +kernel)
set_option maxRecDepth 20000 in
theorem gX1_handOver_X1_placeOf : GoodIn wsX1_handOver (va_wsS RX1 43 yX1_placeOf wsX1_placeOf) := goodIn_app (goodIn_of _ (by decide +kernel)) ggX1_handOver_X1_placeOf
theorem dX1_handOver_0 : decode cX1_handOver 0 = .ok (.iload 4, 2) := by decide +kernel
theorem dX1_handOver_2 : decode cX1_handOver 2 = .ok (.i2l, 1) := by decide +kernel
theorem dX1_handOver_3 : decode cX1_handOver 3 = .ok (.iload 5, 2) := by decide +kernel
theorem dX1_handOver_5 : decode cX1_handOver 5 = .ok (.i2l, 1) := by decide +kernel
theorem dX1_handOver_6 : decode cX1_handOver 6 = .ok (.lmul, 1) := by decide +kernel
theorem dX1_handOver_7 : decode cX1_handOver 7 = .ok (.lstore 6, 2) := by decide +kernel
theorem dX1_handOver_9 : decode cX1_handOver 9 = .ok (.aload_n 0, 1) := by decide +kernel
theorem dX1_handOver_10 : decode cX1_handOver 10 = .ok (.getfield 9, 3) := by decide +kernel
theorem dX1_handOver_13 : decode cX1_handOver 13 = .ok (.iload_n 1, 1) := by decide +kernel
theorem dX1_handOver_14 : decode cX1_handOver 14 = .ok (.dup2, 1) := by decide +kernel
theorem dX1_handOver_15 : decode cX1_handOver 15 = .ok (.laload, 1) := by decide +kernel
theorem dX1_handOver_16 : decode cX1_handOver 16 = .ok (.lload 6, 2) := by decide +kernel
theorem dX1_handOver_18 : decode cX1_handOver 18 = .ok (.lsub, 1) := by decide +kernel
theorem dX1_handOver_19 : decode cX1_handOver 19 = .ok (.lastore, 1) := by decide +kernel
theorem dX1_handOver_20 : decode cX1_handOver 20 = .ok (.aload_n 0, 1) := by decide +kernel
theorem dX1_handOver_21 : decode cX1_handOver 21 = .ok (.getfield 9, 3) := by decide +kernel
theorem dX1_handOver_24 : decode cX1_handOver 24 = .ok (.iload_n 2, 1) := by decide +kernel
theorem dX1_handOver_25 : decode cX1_handOver 25 = .ok (.dup2, 1) := by decide +kernel
theorem dX1_handOver_26 : decode cX1_handOver 26 = .ok (.laload, 1) := by decide +kernel
theorem dX1_handOver_27 : decode cX1_handOver 27 = .ok (.lload 6, 2) := by decide +kernel
theorem dX1_handOver_29 : decode cX1_handOver 29 = .ok (.ladd, 1) := by decide +kernel
theorem dX1_handOver_30 : decode cX1_handOver 30 = .ok (.lastore, 1) := by decide +kernel
theorem dX1_handOver_31 : decode cX1_handOver 31 = .ok (.iload_n 1, 1) := by decide +kernel
theorem dX1_handOver_32 : decode cX1_handOver 32 = .ok (.iload_n 3, 1) := by decide +kernel
theorem dX1_handOver_33 : decode cX1_handOver 33 = .ok (.invokestatic 43, 3) := by decide +kernel
theorem dX1_handOver_36 : decode cX1_handOver 36 = .ok (.istore 8, 2) := by decide +kernel
theorem dX1_handOver_38 : decode cX1_handOver 38 = .ok (.iload_n 2, 1) := by decide +kernel
theorem dX1_handOver_39 : decode cX1_handOver 39 = .ok (.iload_n 3, 1) := by decide +kernel
theorem dX1_handOver_40 : decode cX1_handOver 40 = .ok (.invokestatic 43, 3) := by decide +kernel
theorem dX1_handOver_43 : decode cX1_handOver 43 = .ok (.istore 9, 2) := by decide +kernel
theorem dX1_handOver_45 : decode cX1_handOver 45 = .ok (.aload_n 0, 1) := by decide +kernel
theorem dX1_handOver_46 : decode cX1_handOver 46 = .ok (.getfield 18, 3) := by decide +kernel
theorem dX1_handOver_49 : decode cX1_handOver 49 = .ok (.iload 8, 2) := by decide +kernel
theorem dX1_handOver_51 : decode cX1_handOver 51 = .ok (.dup2, 1) := by decide +kernel
theorem dX1_handOver_52 : decode cX1_handOver 52 = .ok (.iaload, 1) := by decide +kernel
theorem dX1_handOver_53 : decode cX1_handOver 53 = .ok (.iload 5, 2) := by decide +kernel
theorem dX1_handOver_55 : decode cX1_handOver 55 = .ok (.iadd, 1) := by decide +kernel
theorem dX1_handOver_56 : decode cX1_handOver 56 = .ok (.iastore, 1) := by decide +kernel
theorem dX1_handOver_57 : decode cX1_handOver 57 = .ok (.aload_n 0, 1) := by decide +kernel
theorem dX1_handOver_58 : decode cX1_handOver 58 = .ok (.getfield 25, 3) := by decide +kernel
theorem dX1_handOver_61 : decode cX1_handOver 61 = .ok (.iload 8, 2) := by decide +kernel
theorem dX1_handOver_63 : decode cX1_handOver 63 = .ok (.dup2, 1) := by decide +kernel
theorem dX1_handOver_64 : decode cX1_handOver 64 = .ok (.iaload, 1) := by decide +kernel
theorem dX1_handOver_65 : decode cX1_handOver 65 = .ok (.iload 5, 2) := by decide +kernel
theorem dX1_handOver_67 : decode cX1_handOver 67 = .ok (.iadd, 1) := by decide +kernel
theorem dX1_handOver_68 : decode cX1_handOver 68 = .ok (.iastore, 1) := by decide +kernel
theorem dX1_handOver_69 : decode cX1_handOver 69 = .ok (.aload_n 0, 1) := by decide +kernel
theorem dX1_handOver_70 : decode cX1_handOver 70 = .ok (.getfield 18, 3) := by decide +kernel
theorem dX1_handOver_73 : decode cX1_handOver 73 = .ok (.iload 9, 2) := by decide +kernel
theorem dX1_handOver_75 : decode cX1_handOver 75 = .ok (.dup2, 1) := by decide +kernel
theorem dX1_handOver_76 : decode cX1_handOver 76 = .ok (.iaload, 1) := by decide +kernel
theorem dX1_handOver_77 : decode cX1_handOver 77 = .ok (.iload 5, 2) := by decide +kernel
theorem dX1_handOver_79 : decode cX1_handOver 79 = .ok (.isub, 1) := by decide +kernel
theorem dX1_handOver_80 : decode cX1_handOver 80 = .ok (.iastore, 1) := by decide +kernel
theorem dX1_handOver_81 : decode cX1_handOver 81 = .ok (.aload_n 0, 1) := by decide +kernel
theorem dX1_handOver_82 : decode cX1_handOver 82 = .ok (.getfield 28, 3) := by decide +kernel
theorem dX1_handOver_85 : decode cX1_handOver 85 = .ok (.iload 9, 2) := by decide +kernel
theorem dX1_handOver_87 : decode cX1_handOver 87 = .ok (.dup2, 1) := by decide +kernel
theorem dX1_handOver_88 : decode cX1_handOver 88 = .ok (.iaload, 1) := by decide +kernel
theorem dX1_handOver_89 : decode cX1_handOver 89 = .ok (.iload 5, 2) := by decide +kernel
theorem dX1_handOver_91 : decode cX1_handOver 91 = .ok (.iadd, 1) := by decide +kernel
theorem dX1_handOver_92 : decode cX1_handOver 92 = .ok (.iastore, 1) := by decide +kernel
theorem dX1_handOver_93 : decode cX1_handOver 93 = .ok (.return_, 1) := by decide +kernel
set_option maxRecDepth 20000 in
theorem ggX1_turnover_X1_placeOf : GoodIn wsX1_turnover wsX1_placeOf := goodIn_r _ [6] (by decide +kernel) (by decide +kernel)
set_option maxRecDepth 20000 in
theorem gX1_turnover_X1_placeOf : GoodIn wsX1_turnover (va_wsS RX1 43 yX1_placeOf wsX1_placeOf) := goodIn_app (goodIn_of _ (by decide +kernel)) ggX1_turnover_X1_placeOf
theorem dX1_turnover_0 : decode cX1_turnover 0 = .ok (.iload_n 1, 1) := by decide +kernel
theorem dX1_turnover_1 : decode cX1_turnover 1 = .ok (.iload_n 2, 1) := by decide +kernel
theorem dX1_turnover_2 : decode cX1_turnover 2 = .ok (.invokestatic 43, 3) := by decide +kernel
theorem dX1_turnover_5 : decode cX1_turnover 5 = .ok (.istore_n 3, 1) := by decide +kernel
theorem dX1_turnover_6 : decode cX1_turnover 6 = .ok (.aload_n 0, 1) := by decide +kernel
theorem dX1_turnover_7 : decode cX1_turnover 7 = .ok (.getfield 25, 3) := by decide +kernel
theorem dX1_turnover_10 : decode cX1_turnover 10 = .ok (.iload_n 3, 1) := by decide +kernel
theorem dX1_turnover_11 : decode cX1_turnover 11 = .ok (.iaload, 1) := by decide +kernel
theorem dX1_turnover_12 : decode cX1_turnover 12 = .ok (.aload_n 0, 1) := by decide +kernel
theorem dX1_turnover_13 : decode cX1_turnover 13 = .ok (.getfield 28, 3) := by decide +kernel
theorem dX1_turnover_16 : decode cX1_turnover 16 = .ok (.iload_n 3, 1) := by decide +kernel
theorem dX1_turnover_17 : decode cX1_turnover 17 = .ok (.iaload, 1) := by decide +kernel
theorem dX1_turnover_18 : decode cX1_turnover 18 = .ok (.iadd, 1) := by decide +kernel
theorem dX1_turnover_19 : decode cX1_turnover 19 = .ok (.ireturn, 1) := by decide +kernel
set_option maxRecDepth 20000 in
theorem ggX1_countBusier_X1_turnover : GoodIn wsX1_countBusier wsX1_turnover := goodIn_r _ [5, 6, 7, 8, 9, 4, 10, 11, 12, 13, 14, 15, 16, 17, 18] (by decide +kernel) (by decide +kernel)
set_option maxRecDepth 20000 in
theorem gX1_countBusier_X1_turnover : GoodIn wsX1_countBusier (wsV RX1 47 RX1 yX1_turnover wsX1_turnover) := goodIn_app (goodIn_of _ (by decide +kernel)) ggX1_countBusier_X1_turnover
theorem dX1_countBusier_0 : decode cX1_countBusier 0 = .ok (.aload_n 0, 1) := by decide +kernel
theorem dX1_countBusier_1 : decode cX1_countBusier 1 = .ok (.iload_n 1, 1) := by decide +kernel
theorem dX1_countBusier_2 : decode cX1_countBusier 2 = .ok (.iload_n 2, 1) := by decide +kernel
theorem dX1_countBusier_3 : decode cX1_countBusier 3 = .ok (.invokevirtual 47, 3) := by decide +kernel
theorem dX1_countBusier_6 : decode cX1_countBusier 6 = .ok (.istore_n 3, 1) := by decide +kernel
theorem dX1_countBusier_7 : decode cX1_countBusier 7 = .ok (.iconst 0, 1) := by decide +kernel
theorem dX1_countBusier_8 : decode cX1_countBusier 8 = .ok (.istore 4, 2) := by decide +kernel
theorem dX1_countBusier_10 : decode cX1_countBusier 10 = .ok (.iconst 0, 1) := by decide +kernel
theorem dX1_countBusier_11 : decode cX1_countBusier 11 = .ok (.istore 5, 2) := by decide +kernel
theorem dX1_countBusier_13 : decode cX1_countBusier 13 = .ok (.iload 5, 2) := by decide +kernel
theorem dX1_countBusier_15 : decode cX1_countBusier 15 = .ok (.sipush 512, 3) := by decide +kernel
theorem dX1_countBusier_18 : decode cX1_countBusier 18 = .ok (.if_icmp .ge 39, 3) := by decide +kernel
theorem dX1_countBusier_21 : decode cX1_countBusier 21 = .ok (.aload_n 0, 1) := by decide +kernel
theorem dX1_countBusier_22 : decode cX1_countBusier 22 = .ok (.iload 5, 2) := by decide +kernel
theorem dX1_countBusier_24 : decode cX1_countBusier 24 = .ok (.iload_n 2, 1) := by decide +kernel
theorem dX1_countBusier_25 : decode cX1_countBusier 25 = .ok (.invokevirtual 47, 3) := by decide +kernel
theorem dX1_countBusier_28 : decode cX1_countBusier 28 = .ok (.istore 6, 2) := by decide +kernel
theorem dX1_countBusier_30 : decode cX1_countBusier 30 = .ok (.iload 6, 2) := by decide +kernel
theorem dX1_countBusier_32 : decode cX1_countBusier 32 = .ok (.iload_n 3, 1) := by decide +kernel
theorem dX1_countBusier_33 : decode cX1_countBusier 33 = .ok (.if_icmp .gt 15, 3) := by decide +kernel
theorem dX1_countBusier_36 : decode cX1_countBusier 36 = .ok (.iload 6, 2) := by decide +kernel
theorem dX1_countBusier_38 : decode cX1_countBusier 38 = .ok (.iload_n 3, 1) := by decide +kernel
theorem dX1_countBusier_39 : decode cX1_countBusier 39 = .ok (.if_icmp .ne 12, 3) := by decide +kernel
theorem dX1_countBusier_42 : decode cX1_countBusier 42 = .ok (.iload 5, 2) := by decide +kernel
theorem dX1_countBusier_44 : decode cX1_countBusier 44 = .ok (.iload_n 1, 1) := by decide +kernel
theorem dX1_countBusier_45 : decode cX1_countBusier 45 = .ok (.if_icmp .ge 6, 3) := by decide +kernel
theorem dX1_countBusier_48 : decode cX1_countBusier 48 = .ok (.iinc 4 1, 3) := by decide +kernel
theorem dX1_countBusier_51 : decode cX1_countBusier 51 = .ok (.iinc 5 1, 3) := by decide +kernel
theorem dX1_countBusier_54 : decode cX1_countBusier 54 = .ok (.goto (-41), 3) := by decide +kernel
theorem dX1_countBusier_57 : decode cX1_countBusier 57 = .ok (.iload 4, 2) := by decide +kernel
theorem dX1_countBusier_59 : decode cX1_countBusier 59 = .ok (.ireturn, 1) := by decide +kernel
theorem dX2_init_0 : decode cX2_init 0 = .ok (.aload_n 0, 1) := by decide +kernel
theorem dX2_init_1 : decode cX2_init 1 = .ok (.invokespecial 3, 3) := by decide +kernel
theorem dX2_init_4 : decode cX2_init 4 = .ok (.aload_n 0, 1) := by decide +kernel
theorem dX2_init_5 : decode cX2_init 5 = .ok (.sipush 512, 3) := by decide +kernel
theorem dX2_init_8 : decode cX2_init 8 = .ok (.newarray .int, 2) := by decide +kernel
theorem dX2_init_10 : decode cX2_init 10 = .ok (.putfield 9, 3) := by decide +kernel
theorem dX2_init_13 : decode cX2_init 13 = .ok (.aload_n 0, 1) := by decide +kernel
theorem dX2_init_14 : decode cX2_init 14 = .ok (.sipush 512, 3) := by decide +kernel
theorem dX2_init_17 : decode cX2_init 17 = .ok (.newarray .int, 2) := by decide +kernel
theorem dX2_init_19 : decode cX2_init 19 = .ok (.putfield 15, 3) := by decide +kernel
theorem dX2_init_22 : decode cX2_init 22 = .ok (.aload_n 0, 1) := by decide +kernel
theorem dX2_init_23 : decode cX2_init 23 = .ok (.sipush 512, 3) := by decide +kernel
theorem dX2_init_26 : decode cX2_init 26 = .ok (.newarray .int, 2) := by decide +kernel
theorem dX2_init_28 : decode cX2_init 28 = .ok (.putfield 18, 3) := by decide +kernel
theorem dX2_init_31 : decode cX2_init 31 = .ok (.aload_n 0, 1) := by decide +kernel
theorem dX2_init_32 : decode cX2_init 32 = .ok (.sipush 512, 3) := by decide +kernel
theorem dX2_init_35 : decode cX2_init 35 = .ok (.newarray .int, 2) := by decide +kernel
theorem dX2_init_37 : decode cX2_init 37 = .ok (.putfield 21, 3) := by decide +kernel
theorem dX2_init_40 : decode cX2_init 40 = .ok (.aload_n 0, 1) := by decide +kernel
theorem dX2_init_41 : decode cX2_init 41 = .ok (.sipush 512, 3) := by decide +kernel
theorem dX2_init_44 : decode cX2_init 44 = .ok (.newarray .int, 2) := by decide +kernel
theorem dX2_init_46 : decode cX2_init 46 = .ok (.putfield 24, 3) := by decide +kernel
theorem dX2_init_49 : decode cX2_init 49 = .ok (.aload_n 0, 1) := by decide +kernel
theorem dX2_init_50 : decode cX2_init 50 = .ok (.sipush 512, 3) := by decide +kernel
theorem dX2_init_53 : decode cX2_init 53 = .ok (.newarray .int, 2) := by decide +kernel
theorem dX2_init_55 : decode cX2_init 55 = .ok (.putfield 27, 3) := by decide +kernel
theorem dX2_init_58 : decode cX2_init 58 = .ok (.aload_n 0, 1) := by decide +kernel
theorem dX2_init_59 : decode cX2_init 59 = .ok (.sipush 512, 3) := by decide +kernel
theorem dX2_init_62 : decode cX2_init 62 = .ok (.newarray .int, 2) := by decide +kernel
theorem dX2_init_64 : decode cX2_init 64 = .ok (.putfield 30, 3) := by decide +kernel
theorem dX2_init_67 : decode cX2_init 67 = .ok (.aload_n 0, 1) := by decide +kernel
theorem dX2_init_68 : decode cX2_init 68 = .ok (.sipush 512, 3) := by decide +kernel
theorem dX2_init_71 : decode cX2_init 71 = .ok (.newarray .int, 2) := by decide +kernel
theorem dX2_init_73 : decode cX2_init 73 = .ok (.putfield 33, 3) := by decide +kernel
theorem dX2_init_76 : decode cX2_init 76 = .ok (.aload_n 0, 1) := by decide +kernel
theorem dX2_init_77 : decode cX2_init 77 = .ok (.sipush 512, 3) := by decide +kernel
theorem dX2_init_80 : decode cX2_init 80 = .ok (.newarray .int, 2) := by decide +kernel
theorem dX2_init_82 : decode cX2_init 82 = .ok (.putfield 36, 3) := by decide +kernel
theorem dX2_init_85 : decode cX2_init 85 = .ok (.aload_n 0, 1) := by decide +kernel
theorem dX2_init_86 : decode cX2_init 86 = .ok (.sipush 512, 3) := by decide +kernel
theorem dX2_init_89 : decode cX2_init 89 = .ok (.newarray .int, 2) := by decide +kernel
theorem dX2_init_91 : decode cX2_init 91 = .ok (.putfield 39, 3) := by decide +kernel
theorem dX2_init_94 : decode cX2_init 94 = .ok (.aload_n 0, 1) := by decide +kernel
theorem dX2_init_95 : decode cX2_init 95 = .ok (.sipush 512, 3) := by decide +kernel
theorem dX2_init_98 : decode cX2_init 98 = .ok (.newarray .int, 2) := by decide +kernel
theorem dX2_init_100 : decode cX2_init 100 = .ok (.putfield 42, 3) := by decide +kernel
theorem dX2_init_103 : decode cX2_init 103 = .ok (.aload_n 0, 1) := by decide +kernel
theorem dX2_init_104 : decode cX2_init 104 = .ok (.iconst 0, 1) := by decide +kernel
theorem dX2_init_105 : decode cX2_init 105 = .ok (.putfield 45, 3) := by decide +kernel
theorem dX2_init_108 : decode cX2_init 108 = .ok (.aload_n 0, 1) := by decide +kernel
theorem dX2_init_109 : decode cX2_init 109 = .ok (.iconst 0, 1) := by decide +kernel
theorem dX2_init_110 : decode cX2_init 110 = .ok (.putfield 49, 3) := by decide +kernel
theorem dX2_init_113 : decode cX2_init 113 = .ok (.return_, 1) := by decide +kernel
theorem dX2_take_0 : decode cX2_take 0 = .ok (.aload_n 0, 1) := by decide +kernel
theorem dX2_take_1 : decode cX2_take 1 = .ok (.getfield 45, 3) := by decide +kernel
theorem dX2_take_4 : decode cX2_take 4 = .ok (.istore 8, 2) := by decide +kernel
theorem dX2_take_6 : decode cX2_take 6 = .ok (.aload_n 0, 1) := by decide +kernel
theorem dX2_take_7 : decode cX2_take 7 = .ok (.getfield 9, 3) := by decide +kernel
theorem dX2_take_10 : decode cX2_take 10 = .ok (.iload 8, 2) := by decide +kernel
theorem dX2_take_12 : decode cX2_take 12 = .ok (.iload_n 1, 1) := by decide +kernel
theorem dX2_take_13 : decode cX2_take 13 = .ok (.iastore, 1) := by decide +kernel
theorem dX2_take_14 : decode cX2_take 14 = .ok (.aload_n 0, 1) := by decide +kernel
theorem dX2_take_15 : decode cX2_take 15 = .ok (.getfield 15, 3) := by decide +kernel
theorem dX2_take_18 : decode cX2_take 18 = .ok (.iload 8, 2) := by decide +kernel
theorem dX2_take_20 : decode cX2_take 20 = .ok (.iload_n 2, 1) := by decide +kernel
theorem dX2_take_21 : decode cX2_take 21 = .ok (.iastore, 1) := by decide +kernel
theorem dX2_take_22 : decode cX2_take 22 = .ok (.aload_n 0, 1) := by decide +kernel
theorem dX2_take_23 : decode cX2_take 23 = .ok (.getfield 18, 3) := by decide +kernel
theorem dX2_take_26 : decode cX2_take 26 = .ok (.iload 8, 2) := by decide +kernel
theorem dX2_take_28 : decode cX2_take 28 = .ok (.iload_n 3, 1) := by decide +kernel
theorem dX2_take_29 : decode cX2_take 29 = .ok (.iastore, 1) := by decide +kernel
theorem dX2_take_30 : decode cX2_take 30 = .ok (.aload_n 0, 1) := by decide +kernel
theorem dX2_take_31 : decode cX2_take 31 = .ok (.getfield 21, 3) := by decide +kernel
theorem dX2_take_34 : decode cX2_take 34 = .ok (.iload 8, 2) := by decide +kernel
theorem dX2_take_36 : decode cX2_take 36 = .ok (.iload 4, 2) := by decide +kernel
theorem dX2_take_38 : decode cX2_take 38 = .ok (.iastore, 1) := by decide +kernel
theorem dX2_take_39 : decode cX2_take 39 = .ok (.aload_n 0, 1) := by decide +kernel
theorem dX2_take_40 : decode cX2_take 40 = .ok (.getfield 24, 3) := by decide +kernel
theorem dX2_take_43 : decode cX2_take 43 = .ok (.iload 8, 2) := by decide +kernel
theorem dX2_take_45 : decode cX2_take 45 = .ok (.iload 5, 2) := by decide +kernel
theorem dX2_take_47 : decode cX2_take 47 = .ok (.iastore, 1) := by decide +kernel
theorem dX2_take_48 : decode cX2_take 48 = .ok (.aload_n 0, 1) := by decide +kernel
theorem dX2_take_49 : decode cX2_take 49 = .ok (.getfield 27, 3) := by decide +kernel
theorem dX2_take_52 : decode cX2_take 52 = .ok (.iload 8, 2) := by decide +kernel
theorem dX2_take_54 : decode cX2_take 54 = .ok (.iload 7, 2) := by decide +kernel
theorem dX2_take_56 : decode cX2_take 56 = .ok (.iastore, 1) := by decide +kernel
theorem dX2_take_57 : decode cX2_take 57 = .ok (.aload_n 0, 1) := by decide +kernel
theorem dX2_take_58 : decode cX2_take 58 = .ok (.getfield 30, 3) := by decide +kernel
theorem dX2_take_61 : decode cX2_take 61 = .ok (.iload 8, 2) := by decide +kernel
theorem dX2_take_63 : decode cX2_take 63 = .ok (.iload 6, 2) := by decide +kernel
theorem dX2_take_65 : decode cX2_take 65 = .ok (.iastore, 1) := by decide +kernel
theorem dX2_take_66 : decode cX2_take 66 = .ok (.aload_n 0, 1) := by decide +kernel
theorem dX2_take_67 : decode cX2_take 67 = .ok (.getfield 36, 3) := by decide +kernel
theorem dX2_take_70 : decode cX2_take 70 = .ok (.iload 8, 2) := by decide +kernel
theorem dX2_take_72 : decode cX2_take 72 = .ok (.iconst 1, 1) := by decide +kernel
theorem dX2_take_73 : decode cX2_take 73 = .ok (.iastore, 1) := by decide +kernel
theorem dX2_take_74 : decode cX2_take 74 = .ok (.aload_n 0, 1) := by decide +kernel
theorem dX2_take_75 : decode cX2_take 75 = .ok (.dup, 1) := by decide +kernel
theorem dX2_take_76 : decode cX2_take 76 = .ok (.getfield 45, 3) := by decide +kernel
theorem dX2_take_79 : decode cX2_take 79 = .ok (.iconst 1, 1) := by decide +kernel
theorem dX2_take_80 : decode cX2_take 80 = .ok (.iadd, 1) := by decide +kernel
theorem dX2_take_81 : decode cX2_take 81 = .ok (.putfield 45, 3) := by decide +kernel
theorem dX2_take_84 : decode cX2_take 84 = .ok (.aload_n 0, 1) := by decide +kernel
theorem dX2_take_85 : decode cX2_take 85 = .ok (.dup, 1) := by decide +kernel
theorem dX2_take_86 : decode cX2_take 86 = .ok (.getfield 49, 3) := by decide +kernel
theorem dX2_take_89 : decode cX2_take 89 = .ok (.iconst 1, 1) := by decide +kernel
theorem dX2_take_90 : decode cX2_take 90 = .ok (.iadd, 1) := by decide +kernel
theorem dX2_take_91 : decode cX2_take 91 = .ok (.putfield 49, 3) := by decide +kernel
theorem dX2_take_94 : decode cX2_take 94 = .ok (.iload 8, 2) := by decide +kernel
theorem dX2_take_96 : decode cX2_take 96 = .ok (.ireturn, 1) := by decide +kernel
theorem dX2_isThere_0 : decode cX2_isThere 0 = .ok (.aload_n 0, 1) := by decide +kernel
theorem dX2_isThere_1 : decode cX2_isThere 1 = .ok (.getfield 36, 3) := by decide +kernel
theorem dX2_isThere_4 : decode cX2_isThere 4 = .ok (.iload_n 1, 1) := by decide +kernel
theorem dX2_isThere_5 : decode cX2_isThere 5 = .ok (.iaload, 1) := by decide +kernel
theorem dX2_isThere_6 : decode cX2_isThere 6 = .ok (.ifCond .eq 13, 3) := by decide +kernel
theorem dX2_isThere_9 : decode cX2_isThere 9 = .ok (.aload_n 0, 1) := by decide +kernel
theorem dX2_isThere_10 : decode cX2_isThere 10 = .ok (.getfield 36, 3) := by decide +kernel
theorem dX2_isThere_13 : decode cX2_isThere 13 = .ok (.iload_n 1, 1) := by decide +kernel
theorem dX2_isThere_14 : decode cX2_isThere 14 = .ok (.iaload, 1) := by decide +kernel
theorem dX2_isThere_15 : decode cX2_isThere 15 = .ok (.iconst 1, 1) := by decide +kernel
theorem dX2_isThere_16 : decode cX2_isThere 16 = .ok (.if_icmp .ne 7, 3) := by decide +kernel
theorem dX2_isThere_19 : decode cX2_isThere 19 = .ok (.iconst 1, 1) := by decide +kernel
theorem dX2_isThere_20 : decode cX2_isThere 20 = .ok (.goto 4, 3) := by decide +kernel
theorem dX2_isThere_23 : decode cX2_isThere 23 = .ok (.iconst 0, 1) := by decide +kernel
theorem dX2_isThere_24 : decode cX2_isThere 24 = .ok (.ireturn, 1) := by decide +kernel
theorem dX2_isWokenBy_0 : decode cX2_isWokenBy 0 = .ok (.aload_n 0, 1) := by decide +kernel
theorem dX2_isWokenBy_1 : decode cX2_isWokenBy 1 = .ok (.getfield 36, 3) := by decide +kernel
theorem dX2_isWokenBy_4 : decode cX2_isWokenBy 4 = .ok (.iload_n 1, 1) := by decide +kernel
theorem dX2_isWokenBy_5 : decode cX2_isWokenBy 5 = .ok (.iaload, 1) := by decide +kernel
theorem dX2_isWokenBy_6 : decode cX2_isWokenBy 6 = .ok (.iconst 1, 1) := by decide +kernel
theorem dX2_isWokenBy_7 : decode cX2_isWokenBy 7 = .ok (.if_icmp .eq 5, 3) := by decide +kernel
theorem dX2_isWokenBy_10 : decode cX2_isWokenBy 10 = .ok (.iconst 0, 1) := by decide +kernel
theorem dX2_isWokenBy_11 : decode cX2_isWokenBy 11 = .ok (.ireturn, 1) := by decide +kernel
theorem dX2_isWokenBy_12 : decode cX2_isWokenBy 12 = .ok (.aload_n 0, 1) := by decide +kernel
theorem dX2_isWokenBy_13 : decode cX2_isWokenBy 13 = .ok (.getfield 18, 3) := by decide +kernel
theorem dX2_isWokenBy_16 : decode cX2_isWokenBy 16 = .ok (.iload_n 1, 1) := by decide +kernel
theorem dX2_isWokenBy_17 : decode cX2_isWokenBy 17 = .ok (.iaload, 1) := by decide +kernel
theorem dX2_isWokenBy_18 : decode cX2_isWokenBy 18 = .ok (.ifCond .ne 21, 3) := by decide +kernel
theorem dX2_isWokenBy_21 : decode cX2_isWokenBy 21 = .ok (.iload_n 2, 1) := by decide +kernel
theorem dX2_isWokenBy_22 : decode cX2_isWokenBy 22 = .ok (.aload_n 0, 1) := by decide +kernel
theorem dX2_isWokenBy_23 : decode cX2_isWokenBy 23 = .ok (.getfield 27, 3) := by decide +kernel
theorem dX2_isWokenBy_26 : decode cX2_isWokenBy 26 = .ok (.iload_n 1, 1) := by decide +kernel
theorem dX2_isWokenBy_27 : decode cX2_isWokenBy 27 = .ok (.iaload, 1) := by decide +kernel
theorem dX2_isWokenBy_28 : decode cX2_isWokenBy 28 = .ok (.if_icmp .lt 7, 3) := by decide +kernel
theorem dX2_isWokenBy_31 : decode cX2_isWokenBy 31 = .ok (.iconst 1, 1) := by decide +kernel
theorem dX2_isWokenBy_32 : decode cX2_isWokenBy 32 = .ok (.goto 22, 3) := by decide +kernel
theorem dX2_isWokenBy_35 : decode cX2_isWokenBy 35 = .ok (.iconst 0, 1) := by decide +kernel
theorem dX2_isWokenBy_36 : decode cX2_isWokenBy 36 = .ok (.goto 18, 3) := by decide +kernel
theorem dX2_isWokenBy_39 : decode cX2_isWokenBy 39 = .ok (.iload_n 2, 1) := by decide +kernel
theorem dX2_isWokenBy_40 : decode cX2_isWokenBy 40 = .ok (.aload_n 0, 1) := by decide +kernel
theorem dX2_isWokenBy_41 : decode cX2_isWokenBy 41 = .ok (.getfield 27, 3) := by decide +kernel
theorem dX2_isWokenBy_44 : decode cX2_isWokenBy 44 = .ok (.iload_n 1, 1) := by decide +kernel
theorem dX2_isWokenBy_45 : decode cX2_isWokenBy 45 = .ok (.iaload, 1) := by decide +kernel
theorem dX2_isWokenBy_46 : decode cX2_isWokenBy 46 = .ok (.if_icmp .gt 7, 3) := by decide +kernel
theorem dX2_isWokenBy_49 : decode cX2_isWokenBy 49 = .ok (.iconst 1, 1) := by decide +kernel
theorem dX2_isWokenBy_50 : decode cX2_isWokenBy 50 = .ok (.goto 4, 3) := by decide +kernel
theorem dX2_isWokenBy_53 : decode cX2_isWokenBy 53 = .ok (.iconst 0, 1) := by decide +kernel
theorem dX2_isWokenBy_54 : decode cX2_isWokenBy 54 = .ok (.ireturn, 1) := by decide +kernel
theorem dX2_pricesAllow_0 : decode cX2_pricesAllow 0 = .ok (.aload_n 0, 1) := by decide +kernel
theorem dX2_pricesAllow_1 : decode cX2_pricesAllow 1 = .ok (.getfield 18, 3) := by decide +kernel
theorem dX2_pricesAllow_4 : decode cX2_pricesAllow 4 = .ok (.iload_n 1, 1) := by decide +kernel
theorem dX2_pricesAllow_5 : decode cX2_pricesAllow 5 = .ok (.iaload, 1) := by decide +kernel
theorem dX2_pricesAllow_6 : decode cX2_pricesAllow 6 = .ok (.ifCond .ne 26, 3) := by decide +kernel
theorem dX2_pricesAllow_9 : decode cX2_pricesAllow 9 = .ok (.aload_n 0, 1) := by decide +kernel
theorem dX2_pricesAllow_10 : decode cX2_pricesAllow 10 = .ok (.getfield 24, 3) := by decide +kernel
theorem dX2_pricesAllow_13 : decode cX2_pricesAllow 13 = .ok (.iload_n 2, 1) := by decide +kernel
theorem dX2_pricesAllow_14 : decode cX2_pricesAllow 14 = .ok (.iaload, 1) := by decide +kernel
theorem dX2_pricesAllow_15 : decode cX2_pricesAllow 15 = .ok (.aload_n 0, 1) := by decide +kernel
theorem dX2_pricesAllow_16 : decode cX2_pricesAllow 16 = .ok (.getfield 24, 3) := by decide +kernel
theorem dX2_pricesAllow_19 : decode cX2_pricesAllow 19 = .ok (.iload_n 1, 1) := by decide +kernel
theorem dX2_pricesAllow_20 : decode cX2_pricesAllow 20 = .ok (.iaload, 1) := by decide +kernel
theorem dX2_pricesAllow_21 : decode cX2_pricesAllow 21 = .ok (.if_icmp .gt 7, 3) := by decide +kernel
theorem dX2_pricesAllow_24 : decode cX2_pricesAllow 24 = .ok (.iconst 1, 1) := by decide +kernel
theorem dX2_pricesAllow_25 : decode cX2_pricesAllow 25 = .ok (.goto 27, 3) := by decide +kernel
theorem dX2_pricesAllow_28 : decode cX2_pricesAllow 28 = .ok (.iconst 0, 1) := by decide +kernel
theorem dX2_pricesAllow_29 : decode cX2_pricesAllow 29 = .ok (.goto 23, 3) := by decide +kernel
theorem dX2_pricesAllow_32 : decode cX2_pricesAllow 32 = .ok (.aload_n 0, 1) := by decide +kernel
theorem dX2_pricesAllow_33 : decode cX2_pricesAllow 33 = .ok (.getfield 24, 3) := by decide +kernel
theorem dX2_pricesAllow_36 : decode cX2_pricesAllow 36 = .ok (.iload_n 2, 1) := by decide +kernel
theorem dX2_pricesAllow_37 : decode cX2_pricesAllow 37 = .ok (.iaload, 1) := by decide +kernel
theorem dX2_pricesAllow_38 : decode cX2_pricesAllow 38 = .ok (.aload_n 0, 1) := by decide +kernel
theorem dX2_pricesAllow_39 : decode cX2_pricesAllow 39 = .ok (.getfield 24, 3) := by decide +kernel
theorem dX2_pricesAllow_42 : decode cX2_pricesAllow 42 = .ok (.iload_n 1, 1) := by decide +kernel
theorem dX2_pricesAllow_43 : decode cX2_pricesAllow 43 = .ok (.iaload, 1) := by decide +kernel
theorem dX2_pricesAllow_44 : decode cX2_pricesAllow 44 = .ok (.if_icmp .lt 7, 3) := by decide +kernel
theorem dX2_pricesAllow_47 : decode cX2_pricesAllow 47 = .ok (.iconst 1, 1) := by decide +kernel
theorem dX2_pricesAllow_48 : decode cX2_pricesAllow 48 = .ok (.goto 4, 3) := by decide +kernel
theorem dX2_pricesAllow_51 : decode cX2_pricesAllow 51 = .ok (.iconst 0, 1) := by decide +kernel
theorem dX2_pricesAllow_52 : decode cX2_pricesAllow 52 = .ok (.ireturn, 1) := by decide +kernel
theorem dX2_fill_0 : decode cX2_fill 0 = .ok (.aload_n 0, 1) := by decide +kernel
theorem dX2_fill_1 : decode cX2_fill 1 = .ok (.getfield 30, 3) := by decide +kernel
theorem dX2_fill_4 : decode cX2_fill 4 = .ok (.iload_n 1, 1) := by decide +kernel
theorem dX2_fill_5 : decode cX2_fill 5 = .ok (.dup2, 1) := by decide +kernel
theorem dX2_fill_6 : decode cX2_fill 6 = .ok (.iaload, 1) := by decide +kernel
theorem dX2_fill_7 : decode cX2_fill 7 = .ok (.iload_n 2, 1) := by decide +kernel
theorem dX2_fill_8 : decode cX2_fill 8 = .ok (.isub, 1) := by decide +kernel
theorem dX2_fill_9 : decode cX2_fill 9 = .ok (.iastore, 1) := by decide +kernel
theorem dX2_fill_10 : decode cX2_fill 10 = .ok (.aload_n 0, 1) := by decide +kernel
theorem dX2_fill_11 : decode cX2_fill 11 = .ok (.getfield 42, 3) := by decide +kernel
theorem dX2_fill_14 : decode cX2_fill 14 = .ok (.iload_n 1, 1) := by decide +kernel
theorem dX2_fill_15 : decode cX2_fill 15 = .ok (.dup2, 1) := by decide +kernel
theorem dX2_fill_16 : decode cX2_fill 16 = .ok (.iaload, 1) := by decide +kernel
theorem dX2_fill_17 : decode cX2_fill 17 = .ok (.iload_n 2, 1) := by decide +kernel
theorem dX2_fill_18 : decode cX2_fill 18 = .ok (.iadd, 1) := by decide +kernel
theorem dX2_fill_19 : decode cX2_fill 19 = .ok (.iastore, 1) := by decide +kernel
theorem dX2_fill_20 : decode cX2_fill 20 = .ok (.return_, 1) := by decide +kernel
theorem dX3_init_0 : decode cX3_init 0 = .ok (.aload_n 0, 1) := by decide +kernel
theorem dX3_init_1 : decode cX3_init 1 = .ok (.invokespecial 3, 3) := by decide +kernel
theorem dX3_init_4 : decode cX3_init 4 = .ok (.aload_n 0, 1) := by decide +kernel
theorem dX3_init_5 : decode cX3_init 5 = .ok (.sipush 300, 3) := by decide +kernel
theorem dX3_init_8 : decode cX3_init 8 = .ok (.newarray .int, 2) := by decide +kernel
theorem dX3_init_10 : decode cX3_init 10 = .ok (.putfield 9, 3) := by decide +kernel
theorem dX3_init_13 : decode cX3_init 13 = .ok (.aload_n 0, 1) := by decide +kernel
theorem dX3_init_14 : decode cX3_init 14 = .ok (.sipush 300, 3) := by decide +kernel
theorem dX3_init_17 : decode cX3_init 17 = .ok (.newarray .int, 2) := by decide +kernel
theorem dX3_init_19 : decode cX3_init 19 = .ok (.putfield 15, 3) := by decide +kernel
theorem dX3_init_22 : decode cX3_init 22 = .ok (.aload_n 0, 1) := by decide +kernel
theorem dX3_init_23 : decode cX3_init 23 = .ok (.sipush 300, 3) := by decide +kernel
theorem dX3_init_26 : decode cX3_init 26 = .ok (.newarray .int, 2) := by decide +kernel
theorem dX3_init_28 : decode cX3_init 28 = .ok (.putfield 18, 3) := by decide +kernel
theorem dX3_init_31 : decode cX3_init 31 = .ok (.aload_n 0, 1) := by decide +kernel
theorem dX3_init_32 : decode cX3_init 32 = .ok (.sipush 300, 3) := by decide +kernel
theorem dX3_init_35 : decode cX3_init 35 = .ok (.newarray .int, 2) := by decide +kernel
theorem dX3_init_37 : decode cX3_init 37 = .ok (.putfield 21, 3) := by decide +kernel
theorem dX3_init_40 : decode cX3_init 40 = .ok (.aload_n 0, 1) := by decide +kernel
theorem dX3_init_41 : decode cX3_init 41 = .ok (.iconst 4, 1) := by decide +kernel
theorem dX3_init_42 : decode cX3_init 42 = .ok (.newarray .int, 2) := by decide +kernel
theorem dX3_init_44 : decode cX3_init 44 = .ok (.putfield 24, 3) := by decide +kernel
theorem dX3_init_47 : decode cX3_init 47 = .ok (.aload_n 0, 1) := by decide +kernel
theorem dX3_init_48 : decode cX3_init 48 = .ok (.iconst 4, 1) := by decide +kernel
theorem dX3_init_49 : decode cX3_init 49 = .ok (.newarray .int, 2) := by decide +kernel
theorem dX3_init_51 : decode cX3_init 51 = .ok (.putfield 27, 3) := by decide +kernel
theorem dX3_init_54 : decode cX3_init 54 = .ok (.aload_n 0, 1) := by decide +kernel
theorem dX3_init_55 : decode cX3_init 55 = .ok (.iconst 4, 1) := by decide +kernel
theorem dX3_init_56 : decode cX3_init 56 = .ok (.newarray .int, 2) := by decide +kernel
theorem dX3_init_58 : decode cX3_init 58 = .ok (.putfield 30, 3) := by decide +kernel
theorem dX3_init_61 : decode cX3_init 61 = .ok (.aload_n 0, 1) := by decide +kernel
theorem dX3_init_62 : decode cX3_init 62 = .ok (.iconst 4, 1) := by decide +kernel
theorem dX3_init_63 : decode cX3_init 63 = .ok (.newarray .int, 2) := by decide +kernel
theorem dX3_init_65 : decode cX3_init 65 = .ok (.putfield 33, 3) := by decide +kernel
theorem dX3_init_68 : decode cX3_init 68 = .ok (.aload_n 0, 1) := by decide +kernel
theorem dX3_init_69 : decode cX3_init 69 = .ok (.iconst 0, 1) := by decide +kernel
theorem dX3_init_70 : decode cX3_init 70 = .ok (.putfield 36, 3) := by decide +kernel
theorem dX3_init_73 : decode cX3_init 73 = .ok (.return_, 1) := by decide +kernel
theorem dX3_note_0 : decode cX3_note 0 = .ok (.aload_n 0, 1) := by decide +kernel
theorem dX3_note_1 : decode cX3_note 1 = .ok (.getfield 36, 3) := by decide +kernel
theorem dX3_note_4 : decode cX3_note 4 = .ok (.sipush 300, 3) := by decide +kernel
theorem dX3_note_7 : decode cX3_note 7 = .ok (.if_icmp .ge 45, 3) := by decide +kernel
theorem dX3_note_10 : decode cX3_note 10 = .ok (.aload_n 0, 1) := by decide +kernel
theorem dX3_note_11 : decode cX3_note 11 = .ok (.getfield 9, 3) := by decide +kernel
theorem dX3_note_14 : decode cX3_note 14 = .ok (.aload_n 0, 1) := by decide +kernel
theorem dX3_note_15 : decode cX3_note 15 = .ok (.getfield 36, 3) := by decide +kernel
theorem dX3_note_18 : decode cX3_note 18 = .ok (.iload_n 2, 1) := by decide +kernel
theorem dX3_note_19 : decode cX3_note 19 = .ok (.iastore, 1) := by decide +kernel
theorem dX3_note_20 : decode cX3_note 20 = .ok (.aload_n 0, 1) := by decide +kernel
theorem dX3_note_21 : decode cX3_note 21 = .ok (.getfield 15, 3) := by decide +kernel
theorem dX3_note_24 : decode cX3_note 24 = .ok (.aload_n 0, 1) := by decide +kernel
theorem dX3_note_25 : decode cX3_note 25 = .ok (.getfield 36, 3) := by decide +kernel
theorem dX3_note_28 : decode cX3_note 28 = .ok (.iload_n 3, 1) := by decide +kernel
theorem dX3_note_29 : decode cX3_note 29 = .ok (.iastore, 1) := by decide +kernel
theorem dX3_note_30 : decode cX3_note 30 = .ok (.aload_n 0, 1) := by decide +kernel
theorem dX3_note_31 : decode cX3_note 31 = .ok (.getfield 18, 3) := by decide +kernel
theorem dX3_note_34 : decode cX3_note 34 = .ok (.aload_n 0, 1) := by decide +kernel
theorem dX3_note_35 : decode cX3_note 35 = .ok (.getfield 36, 3) := by decide +kernel
theorem dX3_note_38 : decode cX3_note 38 = .ok (.iload 4, 2) := by decide +kernel
theorem dX3_note_40 : decode cX3_note 40 = .ok (.iastore, 1) := by decide +kernel
theorem dX3_note_41 : decode cX3_note 41 = .ok (.aload_n 0, 1) := by decide +kernel
theorem dX3_note_42 : decode cX3_note 42 = .ok (.getfield 21, 3) := by decide +kernel
theorem dX3_note_45 : decode cX3_note 45 = .ok (.aload_n 0, 1) := by decide +kernel
theorem dX3_note_46 : decode cX3_note 46 = .ok (.getfield 36, 3) := by decide +kernel
theorem dX3_note_49 : decode cX3_note 49 = .ok (.iload 5, 2) := by decide +kernel
theorem dX3_note_51 : decode cX3_note 51 = .ok (.iastore, 1) := by decide +kernel
theorem dX3_note_52 : decode cX3_note 52 = .ok (.aload_n 0, 1) := by decide +kernel
theorem dX3_note_53 : decode cX3_note 53 = .ok (.dup, 1) := by decide +kernel
theorem dX3_note_54 : decode cX3_note 54 = .ok (.getfield 36, 3) := by decide +kernel
theorem dX3_note_57 : decode cX3_note 57 = .ok (.iconst 1, 1) := by decide +kernel
theorem dX3_note_58 : decode cX3_note 58 = .ok (.iadd, 1) := by decide +kernel
theorem dX3_note_59 : decode cX3_note 59 = .ok (.putfield 36, 3) := by decide +kernel
theorem dX3_note_62 : decode cX3_note 62 = .ok (.aload_n 0, 1) := by decide +kernel
theorem dX3_note_63 : decode cX3_note 63 = .ok (.getfield 30, 3) := by decide +kernel
theorem dX3_note_66 : decode cX3_note 66 = .ok (.iload_n 1, 1) := by decide +kernel
theorem dX3_note_67 : decode cX3_note 67 = .ok (.aload_n 0, 1) := by decide +kernel
theorem dX3_note_68 : decode cX3_note 68 = .ok (.getfield 24, 3) := by decide +kernel
theorem dX3_note_71 : decode cX3_note 71 = .ok (.iload_n 1, 1) := by decide +kernel
theorem dX3_note_72 : decode cX3_note 72 = .ok (.iaload, 1) := by decide +kernel
theorem dX3_note_73 : decode cX3_note 73 = .ok (.ifCond .ne 8, 3) := by decide +kernel
theorem dX3_note_76 : decode cX3_note 76 = .ok (.iload 4, 2) := by decide +kernel
theorem dX3_note_78 : decode cX3_note 78 = .ok (.goto 14, 3) := by decide +kernel
theorem dX3_note_81 : decode cX3_note 81 = .ok (.aload_n 0, 1) := by decide +kernel
theorem dX3_note_82 : decode cX3_note 82 = .ok (.getfield 30, 3) := by decide +kernel
theorem dX3_note_85 : decode cX3_note 85 = .ok (.iload_n 1, 1) := by decide +kernel
theorem dX3_note_86 : decode cX3_note 86 = .ok (.iaload, 1) := by decide +kernel
theorem dX3_note_87 : decode cX3_note 87 = .ok (.iload 4, 2) := by decide +kernel
theorem dX3_note_89 : decode cX3_note 89 = .ok (.invokestatic 40, 3) := by decide +kernel
theorem dX3_note_92 : decode cX3_note 92 = .ok (.iastore, 1) := by decide +kernel
theorem dX3_note_93 : decode cX3_note 93 = .ok (.aload_n 0, 1) := by decide +kernel
theorem dX3_note_94 : decode cX3_note 94 = .ok (.getfield 27, 3) := by decide +kernel
theorem dX3_note_97 : decode cX3_note 97 = .ok (.iload_n 1, 1) := by decide +kernel
theorem dX3_note_98 : decode cX3_note 98 = .ok (.aload_n 0, 1) := by decide +kernel
theorem dX3_note_99 : decode cX3_note 99 = .ok (.getfield 27, 3) := by decide +kernel
theorem dX3_note_102 : decode cX3_note 102 = .ok (.iload_n 1, 1) := by decide +kernel
theorem dX3_note_103 : decode cX3_note 103 = .ok (.iaload, 1) := by decide +kernel
theorem dX3_note_104 : decode cX3_note 104 = .ok (.iload 4, 2) := by decide +kernel
theorem dX3_note_106 : decode cX3_note 106 = .ok (.invokestatic 46, 3) := by decide +kernel
theorem dX3_note_109 : decode cX3_note 109 = .ok (.iastore, 1) := by decide +kernel
theorem dX3_note_110 : decode cX3_note 110 = .ok (.aload_n 0, 1) := by decide +kernel
theorem dX3_note_111 : decode cX3_note 111 = .ok (.getfield 24, 3) := by decide +kernel
theorem dX3_note_114 : decode cX3_note 114 = .ok (.iload_n 1, 1) := by decide +kernel
theorem dX3_note_115 : decode cX3_note 115 = .ok (.iload 4, 2) := by decide +kernel
theorem dX3_note_117 : decode cX3_note 117 = .ok (.iastore, 1) := by decide +kernel
theorem dX3_note_118 : decode cX3_note 118 = .ok (.aload_n 0, 1) := by decide +kernel
theorem dX3_note_119 : decode cX3_note 119 = .ok (.getfield 33, 3) := by decide +kernel
theorem dX3_note_122 : decode cX3_note 122 = .ok (.iload_n 1, 1) := by decide +kernel
theorem dX3_note_123 : decode cX3_note 123 = .ok (.dup2, 1) := by decide +kernel
theorem dX3_note_124 : decode cX3_note 124 = .ok (.iaload, 1) := by decide +kernel
theorem dX3_note_125 : decode cX3_note 125 = .ok (.iload 5, 2) := by decide +kernel
theorem dX3_note_127 : decode cX3_note 127 = .ok (.iadd, 1) := by decide +kernel
theorem dX3_note_128 : decode cX3_note 128 = .ok (.iastore, 1) := by decide +kernel
theorem dX3_note_129 : decode cX3_note 129 = .ok (.return_, 1) := by decide +kernel
set_option maxRecDepth 20000 in
theorem ggX4_init_X1_init : GoodIn wsX4_init wsX1_init := goodIn_r _ [22, 23, 2, 3, 24, 25, 26, 27, 28, 29, 30, 31, 32, 33, 34, 70, 71, 72, 73, 74, 75, 76, 77] (by decide +kernel) (by decide +kernel)
set_option maxRecDepth 20000 in
theorem gX4_init_X1_init_n9 : GoodIn wsX4_init (wsX1_init) := ggX4_init_X1_init
set_option maxRecDepth 20000 in
theorem ggX4_init_X2_init : GoodIn wsX4_init wsX2_init := goodIn_r _ [36, 37, 2, 3, 27, 38, 39, 40, 41, 42, 43, 44, 45, 46, 47, 48, 49, 50, 83, 84, 85, 86, 87, 88, 89, 90, 91, 92, 93, 94, 95] (by decide +kernel) (by decide +kernel)
set_option maxRecDepth 20000 in
theorem gX4_init_X2_init_n18 : GoodIn wsX4_init (wsX2_init) := ggX4_init_X2_init
set_option maxRecDepth 20000 in
theorem ggX4_init_X0_init : GoodIn wsX4_init wsX0_init := goodIn_r _ [53, 54, 2, 3, 27, 55, 56, 57, 96, 97, 98] (by decide +kernel) (by decide +kernel)
set_option maxRecDepth 20000 in
theorem gX4_init_X0_init : GoodIn wsX4_init (wsX0_init) := ggX4_init_X0_init
set_option maxRecDepth 20000 in
theorem ggX4_init_X3_init : GoodIn wsX4_init wsX3_init := goodIn_r _ [59, 60, 2, 3, 27, 61, 62, 63, 64, 65, 66, 67, 68, 69, 99, 100, 101, 102, 103, 104, 105, 106, 107] (by decide +kernel) (by decide +kernel)
set_option maxRecDepth 20000 in
theorem gX4_init_X3_init_n34 : GoodIn wsX4_init (wsX3_init) := ggX4_init_X3_init
theorem dX4_init_0 : decode cX4_init 0 = .ok (.aload_n 0, 1) := by decide +kernel
theorem dX4_init_1 : decode cX4_init 1 = .ok (.invokespecial 1, 3) := by decide +kernel
theorem dX4_init_4 : decode cX4_init 4 = .ok (.aload_n 0, 1) := by decide +kernel
theorem dX4_init_5 : decode cX4_init 5 = .ok (.new 7, 3) := by decide +kernel
theorem dX4_init_8 : decode cX4_init 8 = .ok (.dup, 1) := by decide +kernel
theorem dX4_init_9 : decode cX4_init 9 = .ok (.invokespecial 9, 3) := by decide +kernel
theorem dX4_init_12 : decode cX4_init 12 = .ok (.putfield 10, 3) := by decide +kernel
theorem dX4_init_15 : decode cX4_init 15 = .ok (.aload_n 0, 1) := by decide +kernel
theorem dX4_init_16 : decode cX4_init 16 = .ok (.new 16, 3) := by decide +kernel
theorem dX4_init_19 : decode cX4_init 19 = .ok (.dup, 1) := by decide +kernel
theorem dX4_init_20 : decode cX4_init 20 = .ok (.invokespecial 18, 3) := by decide +kernel
theorem dX4_init_23 : decode cX4_init 23 = .ok (.putfield 19, 3) := by decide +kernel
theorem dX4_init_26 : decode cX4_init 26 = .ok (.aload_n 0, 1) := by decide +kernel
theorem dX4_init_27 : decode cX4_init 27 = .ok (.new 23, 3) := by decide +kernel
theorem dX4_init_30 : decode cX4_init 30 = .ok (.dup, 1) := by decide +kernel
theorem dX4_init_31 : decode cX4_init 31 = .ok (.aload_n 0, 1) := by decide +kernel
theorem dX4_init_32 : decode cX4_init 32 = .ok (.getfield 19, 3) := by decide +kernel
theorem dX4_init_35 : decode cX4_init 35 = .ok (.invokespecial 25, 3) := by decide +kernel
theorem dX4_init_38 : decode cX4_init 38 = .ok (.putfield 28, 3) := by decide +kernel
theorem dX4_init_41 : decode cX4_init 41 = .ok (.aload_n 0, 1) := by decide +kernel
theorem dX4_init_42 : decode cX4_init 42 = .ok (.new 32, 3) := by decide +kernel
theorem dX4_init_45 : decode cX4_init 45 = .ok (.dup, 1) := by decide +kernel
theorem dX4_init_46 : decode cX4_init 46 = .ok (.invokespecial 34, 3) := by decide +kernel
theorem dX4_init_49 : decode cX4_init 49 = .ok (.putfield 35, 3) := by decide +kernel
theorem dX4_init_52 : decode cX4_init 52 = .ok (.aload_n 0, 1) := by decide +kernel
theorem dX4_init_53 : decode cX4_init 53 = .ok (.iconst 0, 1) := by decide +kernel
theorem dX4_init_54 : decode cX4_init 54 = .ok (.putfield 39, 3) := by decide +kernel
theorem dX4_init_57 : decode cX4_init 57 = .ok (.return_, 1) := by decide +kernel
set_option maxRecDepth 20000 in
theorem ggX4_deposit_X4_needAccount : GoodIn wsX4_deposit wsX4_needAccount := goodIn_ca (goodIn_r _ [10, 11, 12] (by decide +kernel) (by decide +kernel)) (goodIn_sub (fun _ h => List.mem_cons_of_mem _ (List.mem_append_left _ (List.mem_append_right _ h))) (by decide +kernel))
set_option maxRecDepth 20000 in
theorem gX4_deposit_X4_needAccount : GoodIn wsX4_deposit (va_wsS RX4 43 yX4_needAccount wsX4_needAccount) := goodIn_app (goodIn_of _ (by decide +kernel)) ggX4_deposit_X4_needAccount
set_option maxRecDepth 20000 in
theorem ggX4_deposit_X4_needWithin : GoodIn wsX4_deposit wsX4_needWithin := goodIn_ca (goodIn_r _ [15, 16, 17] (by decide +kernel) (by decide +kernel)) (goodIn_sub (fun _ h => List.mem_cons_of_mem _ (List.mem_append_right _ h)) (by decide +kernel))
set_option maxRecDepth 20000 in
theorem gX4_deposit_X4_needWithin : GoodIn wsX4_deposit (va_wsS RX4 48 yX4_needWithin wsX4_needWithin) := goodIn_app (goodIn_of _ (by decide +kernel)) ggX4_deposit_X4_needWithin
set_option maxRecDepth 20000 in
theorem ggX4_deposit_X1_know : GoodIn wsX4_deposit wsX1_know := goodIn_r _ [22, 23, 24, 30, 31, 32, 33, 34, 35, 36, 37] (by decide +kernel) (by decide +kernel)
set_option maxRecDepth 20000 in
theorem gX4_deposit_X1_know : GoodIn wsX4_deposit (wsV RX4 65 RX1 yX1_know wsX1_know) := goodIn_app (goodIn_of _ (by decide +kernel)) ggX4_deposit_X1_know
theorem dX4_deposit_0 : decode cX4_deposit 0 = .ok (.iload_n 1, 1) := by decide +kernel
theorem dX4_deposit_1 : decode cX4_deposit 1 = .ok (.invokestatic 43, 3) := by decide +kernel
theorem dX4_deposit_4 : decode cX4_deposit 4 = .ok (.iload_n 2, 1) := by decide +kernel
theorem dX4_deposit_5 : decode cX4_deposit 5 = .ok (.iconst 1, 1) := by decide +kernel
theorem dX4_deposit_6 : decode cX4_deposit 6 = .ok (.ldc 47, 2) := by decide +kernel
theorem dX4_deposit_8 : decode cX4_deposit 8 = .ok (.invokestatic 48, 3) := by decide +kernel
theorem dX4_deposit_11 : decode cX4_deposit 11 = .ok (.aload_n 0, 1) := by decide +kernel
theorem dX4_deposit_12 : decode cX4_deposit 12 = .ok (.getfield 10, 3) := by decide +kernel
theorem dX4_deposit_15 : decode cX4_deposit 15 = .ok (.getfield 52, 3) := by decide +kernel
theorem dX4_deposit_18 : decode cX4_deposit 18 = .ok (.iload_n 1, 1) := by decide +kernel
theorem dX4_deposit_19 : decode cX4_deposit 19 = .ok (.laload, 1) := by decide +kernel
theorem dX4_deposit_20 : decode cX4_deposit 20 = .ok (.iload_n 2, 1) := by decide +kernel
theorem dX4_deposit_21 : decode cX4_deposit 21 = .ok (.i2l, 1) := by decide +kernel
theorem dX4_deposit_22 : decode cX4_deposit 22 = .ok (.ladd, 1) := by decide +kernel
theorem dX4_deposit_23 : decode cX4_deposit 23 = .ok (.ldc2_w 56, 3) := by decide +kernel
theorem dX4_deposit_26 : decode cX4_deposit 26 = .ok (.lcmp, 1) := by decide +kernel
theorem dX4_deposit_27 : decode cX4_deposit 27 = .ok (.ifCond .le 13, 3) := by decide +kernel
theorem dX4_deposit_30 : decode cX4_deposit 30 = .ok (.new 58, 3) := by decide +kernel
theorem dX4_deposit_33 : decode cX4_deposit 33 = .ok (.dup, 1) := by decide +kernel
theorem dX4_deposit_34 : decode cX4_deposit 34 = .ok (.ldc 60, 2) := by decide +kernel
theorem dX4_deposit_36 : decode cX4_deposit 36 = .ok (.invokespecial 62, 3) := by decide +kernel
theorem dX4_deposit_39 : decode cX4_deposit 39 = .ok (.athrow, 1) := by decide +kernel
theorem dX4_deposit_40 : decode cX4_deposit 40 = .ok (.aload_n 0, 1) := by decide +kernel
theorem dX4_deposit_41 : decode cX4_deposit 41 = .ok (.getfield 10, 3) := by decide +kernel
theorem dX4_deposit_44 : decode cX4_deposit 44 = .ok (.getfield 52, 3) := by decide +kernel
theorem dX4_deposit_47 : decode cX4_deposit 47 = .ok (.iload_n 1, 1) := by decide +kernel
theorem dX4_deposit_48 : decode cX4_deposit 48 = .ok (.dup2, 1) := by decide +kernel
theorem dX4_deposit_49 : decode cX4_deposit 49 = .ok (.laload, 1) := by decide +kernel
theorem dX4_deposit_50 : decode cX4_deposit 50 = .ok (.iload_n 2, 1) := by decide +kernel
theorem dX4_deposit_51 : decode cX4_deposit 51 = .ok (.i2l, 1) := by decide +kernel
theorem dX4_deposit_52 : decode cX4_deposit 52 = .ok (.ladd, 1) := by decide +kernel
theorem dX4_deposit_53 : decode cX4_deposit 53 = .ok (.lastore, 1) := by decide +kernel
theorem dX4_deposit_54 : decode cX4_deposit 54 = .ok (.aload_n 0, 1) := by decide +kernel
theorem dX4_deposit_55 : decode cX4_deposit 55 = .ok (.getfield 10, 3) := by decide +kernel
theorem dX4_deposit_58 : decode cX4_deposit 58 = .ok (.iload_n 1, 1) := by decide +kernel
theorem dX4_deposit_59 : decode cX4_deposit 59 = .ok (.invokevirtual 65, 3) := by decide +kernel
theorem dX4_deposit_62 : decode cX4_deposit 62 = .ok (.aload_n 0, 1) := by decide +kernel
theorem dX4_deposit_63 : decode cX4_deposit 63 = .ok (.getfield 10, 3) := by decide +kernel
theorem dX4_deposit_66 : decode cX4_deposit 66 = .ok (.getfield 52, 3) := by decide +kernel
theorem dX4_deposit_69 : decode cX4_deposit 69 = .ok (.iload_n 1, 1) := by decide +kernel
theorem dX4_deposit_70 : decode cX4_deposit 70 = .ok (.laload, 1) := by decide +kernel
theorem dX4_deposit_71 : decode cX4_deposit 71 = .ok (.lreturn, 1) := by decide +kernel
set_option maxRecDepth 20000 in
theorem ggX4_withdraw_X4_needAccount : GoodIn wsX4_withdraw wsX4_needAccount := goodIn_ca (goodIn_r _ [9, 10, 11] (by decide +kernel) (by decide +kernel)) (goodIn_sub (fun _ h => List.mem_cons_of_mem _ (List.mem_append_left _ (List.mem_append_right _ h))) (by decide +kernel))
set_option maxRecDepth 20000 in
theorem gX4_withdraw_X4_needAccount : GoodIn wsX4_withdraw (va_wsS RX4 43 yX4_needAccount wsX4_needAccount) := goodIn_app (goodIn_of _ (by decide +kernel)) ggX4_withdraw_X4_needAccount
set_option maxRecDepth 20000 in
theorem ggX4_withdraw_X4_needWithin : GoodIn wsX4_withdraw wsX4_needWithin := goodIn_ca (goodIn_r _ [14, 15, 16] (by decide +kernel) (by decide +kernel)) (goodIn_sub (fun _ h => List.mem_cons_of_mem _ (List.mem_append_right _ h)) (by decide +kernel))
set_option maxRecDepth 20000 in
theorem gX4_withdraw_X4_needWithin : GoodIn wsX4_withdraw (va_wsS RX4 48 yX4_needWithin wsX4_needWithin) := goodIn_app (goodIn_of _ (by decide +kernel)) ggX4_withdraw_X4_needWithin
set_option maxRecDepth 20000 in
theorem ggX4_withdraw_X1_freeCash : GoodIn wsX4_withdraw wsX1_freeCash := goodIn_r _ [21, 22, 23, 29, 30, 31, 32, 33, 34, 35, 36] (by decide +kernel) (by decide +kernel)
set_option maxRecDepth 20000 in
theorem gX4_withdraw_X1_freeCash : GoodIn wsX4_withdraw (wsV RX4 68 RX1 yX1_freeCash wsX1_freeCash) := goodIn_app (goodIn_of _ (by decide +kernel)) ggX4_withdraw_X1_freeCash
theorem dX4_withdraw_0 : decode cX4_withdraw 0 = .ok (.iload_n 1, 1) := by decide +kernel
theorem dX4_withdraw_1 : decode cX4_withdraw 1 = .ok (.invokestatic 43, 3) := by decide +kernel
theorem dX4_withdraw_4 : decode cX4_withdraw 4 = .ok (.iload_n 2, 1) := by decide +kernel
theorem dX4_withdraw_5 : decode cX4_withdraw 5 = .ok (.iconst 1, 1) := by decide +kernel
theorem dX4_withdraw_6 : decode cX4_withdraw 6 = .ok (.ldc 47, 2) := by decide +kernel
theorem dX4_withdraw_8 : decode cX4_withdraw 8 = .ok (.invokestatic 48, 3) := by decide +kernel
theorem dX4_withdraw_11 : decode cX4_withdraw 11 = .ok (.aload_n 0, 1) := by decide +kernel
theorem dX4_withdraw_12 : decode cX4_withdraw 12 = .ok (.getfield 10, 3) := by decide +kernel
theorem dX4_withdraw_15 : decode cX4_withdraw 15 = .ok (.iload_n 1, 1) := by decide +kernel
theorem dX4_withdraw_16 : decode cX4_withdraw 16 = .ok (.invokevirtual 68, 3) := by decide +kernel
theorem dX4_withdraw_19 : decode cX4_withdraw 19 = .ok (.iload_n 2, 1) := by decide +kernel
theorem dX4_withdraw_20 : decode cX4_withdraw 20 = .ok (.i2l, 1) := by decide +kernel
theorem dX4_withdraw_21 : decode cX4_withdraw 21 = .ok (.lcmp, 1) := by decide +kernel
theorem dX4_withdraw_22 : decode cX4_withdraw 22 = .ok (.ifCond .ge 13, 3) := by decide +kernel
theorem dX4_withdraw_25 : decode cX4_withdraw 25 = .ok (.new 58, 3) := by decide +kernel
theorem dX4_withdraw_28 : decode cX4_withdraw 28 = .ok (.dup, 1) := by decide +kernel
theorem dX4_withdraw_29 : decode cX4_withdraw 29 = .ok (.ldc 72, 2) := by decide +kernel
theorem dX4_withdraw_31 : decode cX4_withdraw 31 = .ok (.invokespecial 62, 3) := by decide +kernel
theorem dX4_withdraw_34 : decode cX4_withdraw 34 = .ok (.athrow, 1) := by decide +kernel
theorem dX4_withdraw_35 : decode cX4_withdraw 35 = .ok (.aload_n 0, 1) := by decide +kernel
theorem dX4_withdraw_36 : decode cX4_withdraw 36 = .ok (.getfield 10, 3) := by decide +kernel
theorem dX4_withdraw_39 : decode cX4_withdraw 39 = .ok (.getfield 52, 3) := by decide +kernel
theorem dX4_withdraw_42 : decode cX4_withdraw 42 = .ok (.iload_n 1, 1) := by decide +kernel
theorem dX4_withdraw_43 : decode cX4_withdraw 43 = .ok (.dup2, 1) := by decide +kernel
theorem dX4_withdraw_44 : decode cX4_withdraw 44 = .ok (.laload, 1) := by decide +kernel
theorem dX4_withdraw_45 : decode cX4_withdraw 45 = .ok (.iload_n 2, 1) := by decide +kernel
theorem dX4_withdraw_46 : decode cX4_withdraw 46 = .ok (.i2l, 1) := by decide +kernel
theorem dX4_withdraw_47 : decode cX4_withdraw 47 = .ok (.lsub, 1) := by decide +kernel
theorem dX4_withdraw_48 : decode cX4_withdraw 48 = .ok (.lastore, 1) := by decide +kernel
theorem dX4_withdraw_49 : decode cX4_withdraw 49 = .ok (.aload_n 0, 1) := by decide +kernel
theorem dX4_withdraw_50 : decode cX4_withdraw 50 = .ok (.getfield 10, 3) := by decide +kernel
theorem dX4_withdraw_53 : decode cX4_withdraw 53 = .ok (.getfield 52, 3) := by decide +kernel
theorem dX4_withdraw_56 : decode cX4_withdraw 56 = .ok (.iload_n 1, 1) := by decide +kernel
end
section
theorem dX4_withdraw_57 : decode cX4_withdraw 57 = .ok (.laload, 1) := by decide +kernel
theorem dX4_withdraw_58 : decode cX4_withdraw 58 = .ok (.lreturn, 1) := by decide +kernel
set_option maxRecDepth 20000 in
theorem ggX4_grant_X4_needAccount : GoodIn wsX4_grant wsX4_needAccount := goodIn_ca (goodIn_r _ [10, 11, 12] (by decide +kernel) (by decide +kernel)) (goodIn_sub (fun _ h => List.mem_cons_of_mem _ (List.mem_append_left _ (List.mem_append_right _ h))) (by decide +kernel))
set_option maxRecDepth 20000 in
theorem gX4_grant_X4_needAccount : GoodIn wsX4_grant (va_wsS RX4 43 yX4_needAccount wsX4_needAccount) := goodIn_app (goodIn_of _ (by decide +kernel)) ggX4_grant_X4_needAccount
set_option maxRecDepth 20000 in
theorem ggX4_grant_X4_needSymbol : GoodIn wsX4_grant wsX4_needSymbol := goodIn_ca (goodIn_r _ [15, 11, 12] (by decide +kernel) (by decide +kernel)) (goodIn_sub (fun _ h => List.mem_cons_of_mem _ (List.mem_append_left _ (List.mem_append_right _ h))) (by decide +kernel))
set_option maxRecDepth 20000 in
theorem gX4_grant_X4_needSymbol : GoodIn wsX4_grant (va_wsS RX4 74 yX4_needSymbol wsX4_needSymbol) := goodIn_app (goodIn_of _ (by decide +kernel)) ggX4_grant_X4_needSymbol
set_option maxRecDepth 20000 in
theorem ggX4_grant_X4_needWithin : GoodIn wsX4_grant wsX4_needWithin := goodIn_ca (goodIn_r _ [18, 19, 20] (by decide +kernel) (by decide +kernel)) (goodIn_sub (fun _ h => List.mem_cons_of_mem _ (List.mem_append_right _ h)) (by decide +kernel))
set_option maxRecDepth 20000 in
theorem gX4_grant_X4_needWithin : GoodIn wsX4_grant (va_wsS RX4 48 yX4_needWithin wsX4_needWithin) := goodIn_app (goodIn_of _ (by decide +kernel)) ggX4_grant_X4_needWithin
set_option maxRecDepth 20000 in
theorem ggX4_grant_X1_placeOf : GoodIn wsX4_grant wsX1_placeOf := goodIn_r _ [24] (by decide +kernel) (by decide +kernel)
set_option maxRecDepth 20000 in
theorem gX4_grant_X1_placeOf : GoodIn wsX4_grant (va_wsS RX4 78 yX1_placeOf wsX1_placeOf) := goodIn_app (goodIn_of _ (by decide +kernel)) ggX4_grant_X1_placeOf
set_option maxRecDepth 20000 in
theorem ggX4_grant_X1_know : GoodIn wsX4_grant wsX1_know := goodIn_r _ [28, 29, 30, 36, 37, 38, 39, 40, 41, 42, 43] (by decide +kernel) (by decide +kernel)
set_option maxRecDepth 20000 in
theorem gX4_grant_X1_know : GoodIn wsX4_grant (wsV RX4 65 RX1 yX1_know wsX1_know) := goodIn_app (goodIn_of _ (by decide +kernel)) ggX4_grant_X1_know
theorem dX4_grant_0 : decode cX4_grant 0 = .ok (.iload_n 1, 1) := by decide +kernel
theorem dX4_grant_1 : decode cX4_grant 1 = .ok (.invokestatic 43, 3) := by decide +kernel
theorem dX4_grant_4 : decode cX4_grant 4 = .ok (.iload_n 2, 1) := by decide +kernel
theorem dX4_grant_5 : decode cX4_grant 5 = .ok (.invokestatic 74, 3) := by decide +kernel
theorem dX4_grant_8 : decode cX4_grant 8 = .ok (.iload_n 3, 1) := by decide +kernel
theorem dX4_grant_9 : decode cX4_grant 9 = .ok (.iconst 1, 1) := by decide +kernel
theorem dX4_grant_10 : decode cX4_grant 10 = .ok (.ldc 77, 2) := by decide +kernel
theorem dX4_grant_12 : decode cX4_grant 12 = .ok (.invokestatic 48, 3) := by decide +kernel
theorem dX4_grant_15 : decode cX4_grant 15 = .ok (.iload_n 1, 1) := by decide +kernel
theorem dX4_grant_16 : decode cX4_grant 16 = .ok (.iload_n 2, 1) := by decide +kernel
theorem dX4_grant_17 : decode cX4_grant 17 = .ok (.invokestatic 78, 3) := by decide +kernel
theorem dX4_grant_20 : decode cX4_grant 20 = .ok (.istore 4, 2) := by decide +kernel
theorem dX4_grant_22 : decode cX4_grant 22 = .ok (.aload_n 0, 1) := by decide +kernel
theorem dX4_grant_23 : decode cX4_grant 23 = .ok (.getfield 10, 3) := by decide +kernel
theorem dX4_grant_26 : decode cX4_grant 26 = .ok (.getfield 82, 3) := by decide +kernel
theorem dX4_grant_29 : decode cX4_grant 29 = .ok (.iload 4, 2) := by decide +kernel
theorem dX4_grant_31 : decode cX4_grant 31 = .ok (.iaload, 1) := by decide +kernel
theorem dX4_grant_32 : decode cX4_grant 32 = .ok (.ldc 47, 2) := by decide +kernel
theorem dX4_grant_34 : decode cX4_grant 34 = .ok (.iload_n 3, 1) := by decide +kernel
theorem dX4_grant_35 : decode cX4_grant 35 = .ok (.isub, 1) := by decide +kernel
theorem dX4_grant_36 : decode cX4_grant 36 = .ok (.if_icmp .le 13, 3) := by decide +kernel
theorem dX4_grant_39 : decode cX4_grant 39 = .ok (.new 58, 3) := by decide +kernel
theorem dX4_grant_42 : decode cX4_grant 42 = .ok (.dup, 1) := by decide +kernel
theorem dX4_grant_43 : decode cX4_grant 43 = .ok (.ldc 86, 2) := by decide +kernel
theorem dX4_grant_45 : decode cX4_grant 45 = .ok (.invokespecial 62, 3) := by decide +kernel
theorem dX4_grant_48 : decode cX4_grant 48 = .ok (.athrow, 1) := by decide +kernel
theorem dX4_grant_49 : decode cX4_grant 49 = .ok (.aload_n 0, 1) := by decide +kernel
theorem dX4_grant_50 : decode cX4_grant 50 = .ok (.getfield 10, 3) := by decide +kernel
theorem dX4_grant_53 : decode cX4_grant 53 = .ok (.getfield 82, 3) := by decide +kernel
theorem dX4_grant_56 : decode cX4_grant 56 = .ok (.iload 4, 2) := by decide +kernel
theorem dX4_grant_58 : decode cX4_grant 58 = .ok (.dup2, 1) := by decide +kernel
theorem dX4_grant_59 : decode cX4_grant 59 = .ok (.iaload, 1) := by decide +kernel
theorem dX4_grant_60 : decode cX4_grant 60 = .ok (.iload_n 3, 1) := by decide +kernel
theorem dX4_grant_61 : decode cX4_grant 61 = .ok (.iadd, 1) := by decide +kernel
theorem dX4_grant_62 : decode cX4_grant 62 = .ok (.iastore, 1) := by decide +kernel
theorem dX4_grant_63 : decode cX4_grant 63 = .ok (.aload_n 0, 1) := by decide +kernel
theorem dX4_grant_64 : decode cX4_grant 64 = .ok (.getfield 10, 3) := by decide +kernel
theorem dX4_grant_67 : decode cX4_grant 67 = .ok (.iload_n 1, 1) := by decide +kernel
theorem dX4_grant_68 : decode cX4_grant 68 = .ok (.invokevirtual 65, 3) := by decide +kernel
theorem dX4_grant_71 : decode cX4_grant 71 = .ok (.aload_n 0, 1) := by decide +kernel
theorem dX4_grant_72 : decode cX4_grant 72 = .ok (.getfield 10, 3) := by decide +kernel
theorem dX4_grant_75 : decode cX4_grant 75 = .ok (.getfield 82, 3) := by decide +kernel
theorem dX4_grant_78 : decode cX4_grant 78 = .ok (.iload 4, 2) := by decide +kernel
theorem dX4_grant_80 : decode cX4_grant 80 = .ok (.iaload, 1) := by decide +kernel
theorem dX4_grant_81 : decode cX4_grant 81 = .ok (.ireturn, 1) := by decide +kernel
set_option maxRecDepth 20000 in
theorem ggX4_order_X4_needAccount : GoodIn wsX4_order wsX4_needAccount := goodIn_ca (goodIn_r _ [10, 11, 12] (by decide +kernel) (by decide +kernel)) (goodIn_sub (fun _ h => List.mem_cons_of_mem _ (List.mem_append_left _ (List.mem_append_right _ h))) (by decide +kernel))
set_option maxRecDepth 20000 in
theorem gX4_order_X4_needAccount : GoodIn wsX4_order (va_wsS RX4 43 yX4_needAccount wsX4_needAccount) := goodIn_app (goodIn_of _ (by decide +kernel)) ggX4_order_X4_needAccount
set_option maxRecDepth 20000 in
theorem ggX4_order_X4_needSymbol : GoodIn wsX4_order wsX4_needSymbol := goodIn_ca (goodIn_r _ [15, 11, 12] (by decide +kernel) (by decide +kernel)) (goodIn_sub (fun _ h => List.mem_cons_of_mem _ (List.mem_append_left _ (List.mem_append_right _ h))) (by decide +kernel))
set_option maxRecDepth 20000 in
theorem gX4_order_X4_needSymbol : GoodIn wsX4_order (va_wsS RX4 74 yX4_needSymbol wsX4_needSymbol) := goodIn_app (goodIn_of _ (by decide +kernel)) ggX4_order_X4_needSymbol
set_option maxRecDepth 20000 in
theorem ggX4_order_X4_needSide : GoodIn wsX4_order wsX4_needSide := goodIn_ca (goodIn_r _ [18, 19, 20] (by decide +kernel) (by decide +kernel)) (goodIn_sub (fun _ h => List.mem_cons_of_mem _ (List.mem_append_right _ h)) (by decide +kernel))
set_option maxRecDepth 20000 in
theorem gX4_order_X4_needSide : GoodIn wsX4_order (va_wsS RX4 88 yX4_needSide wsX4_needSide) := goodIn_app (goodIn_of _ (by decide +kernel)) ggX4_order_X4_needSide
set_option maxRecDepth 20000 in
theorem ggX4_order_X4_needWithin : GoodIn wsX4_order wsX4_needWithin := goodIn_ca (goodIn_r _ [23, 19, 20] (by decide +kernel) (by decide +kernel)) (goodIn_sub (fun _ h => List.mem_cons_of_mem _ (List.mem_append_right _ h)) (by decide +kernel))
set_option maxRecDepth 20000 in
theorem gX4_order_X4_needWithin : GoodIn wsX4_order (va_wsS RX4 48 yX4_needWithin wsX4_needWithin) := goodIn_app (goodIn_of _ (by decide +kernel)) ggX4_order_X4_needWithin
set_option maxRecDepth 20000 in
theorem ggX4_order_X1_canHold : GoodIn wsX4_order wsX1_canHold := goodIn_r _ [28, 29, 30, 31, 32, 33, 27, 34, 35, 36, 37, 38, 39, 196, 197, 198, 199, 200, 201, 202, 203] (by decide +kernel) (by decide +kernel)
set_option maxRecDepth 20000 in
theorem gX4_order_X1_canHold : GoodIn wsX4_order (wsV RX4 91 RX1 yX1_canHold wsX1_canHold) := goodIn_app (goodIn_of _ (by decide +kernel)) ggX4_order_X1_canHold
set_option maxRecDepth 20000 in
theorem ggX4_order_X2_take : GoodIn wsX4_order wsX2_take := goodIn_r _ [44, 45, 46, 47, 48, 49, 50, 51, 52, 53, 54, 183, 184, 185, 186, 187, 188, 189, 190, 191, 192, 193, 194, 195] (by decide +kernel) (by decide +kernel)
set_option maxRecDepth 20000 in
theorem gX4_order_X2_take : GoodIn wsX4_order (wsV RX4 105 RX2 yX2_take wsX2_take) := goodIn_app (goodIn_of _ (by decide +kernel)) ggX4_order_X2_take
set_option maxRecDepth 20000 in
theorem ggX4_order_X4_hold : GoodIn wsX4_order wsX4_hold := goodIn_r _ [58, 4, 59, 60, 3, 61, 62, 63, 64, 65, 38, 27, 39, 178, 179, 180, 181, 182, 183, 184, 185, 186, 187, 188, 189, 190, 191, 192, 193, 194, 195, 196, 197, 198, 199, 200, 201, 202, 203] (by decide +kernel) (by decide +kernel)
set_option maxRecDepth 20000 in
theorem gX4_order_X4_hold : GoodIn wsX4_order (wsV RX4 109 RX4 yX4_hold wsX4_hold) := goodIn_app (goodIn_of _ (by decide +kernel)) ggX4_order_X4_hold
set_option maxRecDepth 20000 in
theorem ggX4_order_X4_actByKind : GoodIn wsX4_order wsX4_actByKind := goodIn_r _ [69, 4, 70, 71, 72, 73, 74, 9, 75, 76, 77, 78, 79, 80, 81, 82, 83, 84, 85, 86, 87, 88, 89, 90, 91, 92, 93, 94, 95, 96, 43, 97, 48, 50, 98, 99, 100, 101, 102, 103, 5, 55, 56, 57, 58, 59, 60, 3, 61, 62, 63, 64, 65, 38, 27, 39, 104, 105, 106, 107, 108, 109, 110, 111, 112, 113, 114, 115, 116, 117, 118, 119, 120, 121, 122, 123, 124, 125, 126, 127, 128, 129, 130, 131, 132, 133, 134, 135, 35, 29, 136, 137, 37, 138, 139, 140, 141, 52, 142, 143, 144, 145, 146, 147, 148, 149, 150, 151, 152, 153, 154, 155, 156, 157, 158, 159, 160, 161, 162, 163, 164, 165, 166, 167, 168, 178, 179, 180, 181, 182, 183, 184, 185, 186, 187, 188, 189, 190, 191, 192, 193, 194, 195, 204, 205, 206, 196, 197, 198, 199, 200, 201, 202, 203, 207, 208, 209, 210, 211, 212, 213, 214, 215] (by decide +kernel) (by decide +kernel)
set_option maxRecDepth 20000 in
theorem gX4_order_X4_actByKind : GoodIn wsX4_order (wsV RX4 113 RX4 yX4_actByKind wsX4_actByKind) := goodIn_app (goodIn_of _ (by decide +kernel)) ggX4_order_X4_actByKind
set_option maxRecDepth 20000 in
theorem ggX4_order_X4_wakeStop : GoodIn wsX4_order wsX4_wakeStop := goodIn_r _ [172, 131, 173, 4, 6, 64, 70, 174, 175, 176, 43, 177, 53, 48, 51, 178, 179, 180, 181, 182, 207, 208, 209, 210, 211, 212, 213, 214, 215, 183, 184, 185, 186, 187, 188, 189, 190, 191, 192, 193, 194, 195] (by decide +kernel) (by decide +kernel)
set_option maxRecDepth 20000 in
theorem gX4_order_X4_wakeStop : GoodIn wsX4_order (wsV RX4 116 RX4 yX4_wakeStop wsX4_wakeStop) := goodIn_app (goodIn_of _ (by decide +kernel)) ggX4_order_X4_wakeStop
theorem dX4_order_0 : decode cX4_order 0 = .ok (.iload_n 1, 1) := by decide +kernel
theorem dX4_order_1 : decode cX4_order 1 = .ok (.invokestatic 43, 3) := by decide +kernel
theorem dX4_order_4 : decode cX4_order 4 = .ok (.iload_n 2, 1) := by decide +kernel
theorem dX4_order_5 : decode cX4_order 5 = .ok (.invokestatic 74, 3) := by decide +kernel
theorem dX4_order_8 : decode cX4_order 8 = .ok (.iload_n 3, 1) := by decide +kernel
theorem dX4_order_9 : decode cX4_order 9 = .ok (.invokestatic 88, 3) := by decide +kernel
theorem dX4_order_12 : decode cX4_order 12 = .ok (.iload 4, 2) := by decide +kernel
theorem dX4_order_14 : decode cX4_order 14 = .ok (.iconst 0, 1) := by decide +kernel
theorem dX4_order_15 : decode cX4_order 15 = .ok (.iconst 5, 1) := by decide +kernel
theorem dX4_order_16 : decode cX4_order 16 = .ok (.invokestatic 48, 3) := by decide +kernel
theorem dX4_order_19 : decode cX4_order 19 = .ok (.iload 5, 2) := by decide +kernel
theorem dX4_order_21 : decode cX4_order 21 = .ok (.iconst 1, 1) := by decide +kernel
theorem dX4_order_22 : decode cX4_order 22 = .ok (.sipush 10000, 3) := by decide +kernel
theorem dX4_order_25 : decode cX4_order 25 = .ok (.invokestatic 48, 3) := by decide +kernel
theorem dX4_order_28 : decode cX4_order 28 = .ok (.iload 6, 2) := by decide +kernel
theorem dX4_order_30 : decode cX4_order 30 = .ok (.iconst 1, 1) := by decide +kernel
theorem dX4_order_31 : decode cX4_order 31 = .ok (.sipush 10000, 3) := by decide +kernel
theorem dX4_order_34 : decode cX4_order 34 = .ok (.invokestatic 48, 3) := by decide +kernel
theorem dX4_order_37 : decode cX4_order 37 = .ok (.iload 4, 2) := by decide +kernel
theorem dX4_order_39 : decode cX4_order 39 = .ok (.iconst 4, 1) := by decide +kernel
theorem dX4_order_40 : decode cX4_order 40 = .ok (.if_icmp .eq 9, 3) := by decide +kernel
theorem dX4_order_43 : decode cX4_order 43 = .ok (.iload 4, 2) := by decide +kernel
theorem dX4_order_45 : decode cX4_order 45 = .ok (.iconst 5, 1) := by decide +kernel
theorem dX4_order_46 : decode cX4_order 46 = .ok (.if_icmp .ne 12, 3) := by decide +kernel
theorem dX4_order_49 : decode cX4_order 49 = .ok (.iload 7, 2) := by decide +kernel
theorem dX4_order_51 : decode cX4_order 51 = .ok (.iconst 1, 1) := by decide +kernel
theorem dX4_order_52 : decode cX4_order 52 = .ok (.sipush 10000, 3) := by decide +kernel
theorem dX4_order_55 : decode cX4_order 55 = .ok (.invokestatic 48, 3) := by decide +kernel
theorem dX4_order_58 : decode cX4_order 58 = .ok (.aload_n 0, 1) := by decide +kernel
theorem dX4_order_59 : decode cX4_order 59 = .ok (.getfield 10, 3) := by decide +kernel
theorem dX4_order_62 : decode cX4_order 62 = .ok (.iload_n 1, 1) := by decide +kernel
theorem dX4_order_63 : decode cX4_order 63 = .ok (.iload_n 2, 1) := by decide +kernel
theorem dX4_order_64 : decode cX4_order 64 = .ok (.iload_n 3, 1) := by decide +kernel
theorem dX4_order_65 : decode cX4_order 65 = .ok (.iload 5, 2) := by decide +kernel
theorem dX4_order_67 : decode cX4_order 67 = .ok (.iload 6, 2) := by decide +kernel
theorem dX4_order_69 : decode cX4_order 69 = .ok (.invokevirtual 91, 3) := by decide +kernel
theorem dX4_order_72 : decode cX4_order 72 = .ok (.ifCond .ne 13, 3) := by decide +kernel
theorem dX4_order_75 : decode cX4_order 75 = .ok (.new 58, 3) := by decide +kernel
theorem dX4_order_78 : decode cX4_order 78 = .ok (.dup, 1) := by decide +kernel
theorem dX4_order_79 : decode cX4_order 79 = .ok (.ldc 95, 2) := by decide +kernel
theorem dX4_order_81 : decode cX4_order 81 = .ok (.invokespecial 62, 3) := by decide +kernel
theorem dX4_order_84 : decode cX4_order 84 = .ok (.athrow, 1) := by decide +kernel
theorem dX4_order_85 : decode cX4_order 85 = .ok (.aload_n 0, 1) := by decide +kernel
theorem dX4_order_86 : decode cX4_order 86 = .ok (.getfield 19, 3) := by decide +kernel
theorem dX4_order_89 : decode cX4_order 89 = .ok (.getfield 97, 3) := by decide +kernel
theorem dX4_order_92 : decode cX4_order 92 = .ok (.bipush 100, 2) := by decide +kernel
theorem dX4_order_94 : decode cX4_order 94 = .ok (.if_icmp .ge 16, 3) := by decide +kernel
theorem dX4_order_97 : decode cX4_order 97 = .ok (.aload_n 0, 1) := by decide +kernel
theorem dX4_order_98 : decode cX4_order 98 = .ok (.getfield 19, 3) := by decide +kernel
theorem dX4_order_101 : decode cX4_order 101 = .ok (.getfield 100, 3) := by decide +kernel
theorem dX4_order_104 : decode cX4_order 104 = .ok (.sipush 512, 3) := by decide +kernel
theorem dX4_order_107 : decode cX4_order 107 = .ok (.if_icmp .lt 13, 3) := by decide +kernel
theorem dX4_order_110 : decode cX4_order 110 = .ok (.new 58, 3) := by decide +kernel
theorem dX4_order_113 : decode cX4_order 113 = .ok (.dup, 1) := by decide +kernel
theorem dX4_order_114 : decode cX4_order 114 = .ok (.ldc 103, 2) := by decide +kernel
theorem dX4_order_116 : decode cX4_order 116 = .ok (.invokespecial 62, 3) := by decide +kernel
theorem dX4_order_119 : decode cX4_order 119 = .ok (.athrow, 1) := by decide +kernel
theorem dX4_order_120 : decode cX4_order 120 = .ok (.aload_n 0, 1) := by decide +kernel
theorem dX4_order_121 : decode cX4_order 121 = .ok (.getfield 19, 3) := by decide +kernel
theorem dX4_order_124 : decode cX4_order 124 = .ok (.iload_n 1, 1) := by decide +kernel
theorem dX4_order_125 : decode cX4_order 125 = .ok (.iload_n 2, 1) := by decide +kernel
theorem dX4_order_126 : decode cX4_order 126 = .ok (.iload_n 3, 1) := by decide +kernel
theorem dX4_order_127 : decode cX4_order 127 = .ok (.iload 4, 2) := by decide +kernel
theorem dX4_order_129 : decode cX4_order 129 = .ok (.iload 5, 2) := by decide +kernel
theorem dX4_order_131 : decode cX4_order 131 = .ok (.iload 6, 2) := by decide +kernel
theorem dX4_order_133 : decode cX4_order 133 = .ok (.iload 7, 2) := by decide +kernel
theorem dX4_order_135 : decode cX4_order 135 = .ok (.invokevirtual 105, 3) := by decide +kernel
theorem dX4_order_138 : decode cX4_order 138 = .ok (.istore 8, 2) := by decide +kernel
theorem dX4_order_140 : decode cX4_order 140 = .ok (.aload_n 0, 1) := by decide +kernel
theorem dX4_order_141 : decode cX4_order 141 = .ok (.iload 8, 2) := by decide +kernel
theorem dX4_order_143 : decode cX4_order 143 = .ok (.iload 6, 2) := by decide +kernel
theorem dX4_order_145 : decode cX4_order 145 = .ok (.invokevirtual 109, 3) := by decide +kernel
theorem dX4_order_148 : decode cX4_order 148 = .ok (.iload 8, 2) := by decide +kernel
theorem dX4_order_150 : decode cX4_order 150 = .ok (.istore 9, 2) := by decide +kernel
theorem dX4_order_152 : decode cX4_order 152 = .ok (.iconst 0, 1) := by decide +kernel
theorem dX4_order_153 : decode cX4_order 153 = .ok (.istore 10, 2) := by decide +kernel
theorem dX4_order_155 : decode cX4_order 155 = .ok (.iload 10, 2) := by decide +kernel
theorem dX4_order_157 : decode cX4_order 157 = .ok (.bipush 100, 2) := by decide +kernel
theorem dX4_order_159 : decode cX4_order 159 = .ok (.if_icmp .gt 28, 3) := by decide +kernel
theorem dX4_order_162 : decode cX4_order 162 = .ok (.iload 9, 2) := by decide +kernel
theorem dX4_order_164 : decode cX4_order 164 = .ok (.iconst (-1), 1) := by decide +kernel
theorem dX4_order_165 : decode cX4_order 165 = .ok (.if_icmp .eq 22, 3) := by decide +kernel
theorem dX4_order_168 : decode cX4_order 168 = .ok (.aload_n 0, 1) := by decide +kernel
theorem dX4_order_169 : decode cX4_order 169 = .ok (.iload 9, 2) := by decide +kernel
theorem dX4_order_171 : decode cX4_order 171 = .ok (.invokevirtual 113, 3) := by decide +kernel
theorem dX4_order_174 : decode cX4_order 174 = .ok (.aload_n 0, 1) := by decide +kernel
theorem dX4_order_175 : decode cX4_order 175 = .ok (.iload_n 2, 1) := by decide +kernel
theorem dX4_order_176 : decode cX4_order 176 = .ok (.invokevirtual 116, 3) := by decide +kernel
theorem dX4_order_179 : decode cX4_order 179 = .ok (.istore 9, 2) := by decide +kernel
theorem dX4_order_181 : decode cX4_order 181 = .ok (.iinc 10 1, 3) := by decide +kernel
theorem dX4_order_184 : decode cX4_order 184 = .ok (.goto (-29), 3) := by decide +kernel
theorem dX4_order_187 : decode cX4_order 187 = .ok (.iload 8, 2) := by decide +kernel
theorem dX4_order_189 : decode cX4_order 189 = .ok (.ireturn, 1) := by decide +kernel
set_option maxRecDepth 20000 in
theorem ggX4_cancel_X4_needOwnOrder : GoodIn wsX4_cancel wsX4_needOwnOrder := goodIn_ca (goodIn_ca (goodIn_r _ [7, 8, 9, 1, 10, 11, 12, 6, 13, 14, 15, 16, 17, 18, 19, 20, 72, 73, 74, 75, 76, 77, 78, 79, 80, 81, 82, 83, 84, 85, 86, 87, 88, 89] (by decide +kernel) (by decide +kernel)) (goodIn_sub (fun _ h => List.mem_cons_of_mem _ (List.mem_append_left _ (List.mem_append_left _ (List.mem_append_right _ h)))) (by decide +kernel))) (goodIn_sub (fun _ h => List.mem_cons_of_mem _ (List.mem_append_left _ (List.mem_append_right _ h))) (by decide +kernel))
set_option maxRecDepth 20000 in
theorem gX4_cancel_X4_needOwnOrder : GoodIn wsX4_cancel (wsV RX4 120 RX4 yX4_needOwnOrder wsX4_needOwnOrder) := goodIn_app (goodIn_of _ (by decide +kernel)) ggX4_cancel_X4_needOwnOrder
set_option maxRecDepth 20000 in
theorem ggX4_cancel_X4_needThere : GoodIn wsX4_cancel wsX4_needThere := goodIn_ca (goodIn_r _ [24, 25, 26, 1, 27, 28, 29, 30, 31, 32, 72, 73, 74, 75, 76, 77, 78, 79, 80, 81, 82, 83, 84, 85, 86, 87, 88, 89] (by decide +kernel) (by decide +kernel)) (goodIn_sub (fun _ h => List.mem_cons_of_mem _ (List.mem_append_right _ h)) (by decide +kernel))
set_option maxRecDepth 20000 in
theorem gX4_cancel_X4_needThere : GoodIn wsX4_cancel (wsV RX4 123 RX4 yX4_needThere wsX4_needThere) := goodIn_app (goodIn_of _ (by decide +kernel)) ggX4_cancel_X4_needThere
set_option maxRecDepth 20000 in
theorem ggX4_cancel_X4_takeAway : GoodIn wsX4_cancel wsX4_takeAway := goodIn_r _ [36, 1, 37, 38, 39, 40, 41, 42, 43, 44, 45, 46, 47, 48, 49, 50, 51, 52, 53, 54, 6, 55, 2, 56, 57, 58, 59, 60, 61, 10, 62, 63, 64, 65, 66, 67, 68, 69, 70, 71, 72, 73, 74, 75, 76, 77, 78, 79, 80, 81, 82, 83, 84, 85, 86, 87, 88, 89, 90, 91, 92, 93, 94, 95, 96, 97, 98, 99, 100] (by decide +kernel) (by decide +kernel)
set_option maxRecDepth 20000 in
theorem gX4_cancel_X4_takeAway : GoodIn wsX4_cancel (wsV RX4 129 RX4 yX4_takeAway wsX4_takeAway) := goodIn_app (goodIn_of _ (by decide +kernel)) ggX4_cancel_X4_takeAway
theorem dX4_cancel_0 : decode cX4_cancel 0 = .ok (.aload_n 0, 1) := by decide +kernel
theorem dX4_cancel_1 : decode cX4_cancel 1 = .ok (.iload_n 1, 1) := by decide +kernel
theorem dX4_cancel_2 : decode cX4_cancel 2 = .ok (.iload_n 2, 1) := by decide +kernel
theorem dX4_cancel_3 : decode cX4_cancel 3 = .ok (.invokevirtual 120, 3) := by decide +kernel
theorem dX4_cancel_6 : decode cX4_cancel 6 = .ok (.aload_n 0, 1) := by decide +kernel
theorem dX4_cancel_7 : decode cX4_cancel 7 = .ok (.iload_n 2, 1) := by decide +kernel
theorem dX4_cancel_8 : decode cX4_cancel 8 = .ok (.invokevirtual 123, 3) := by decide +kernel
theorem dX4_cancel_11 : decode cX4_cancel 11 = .ok (.aload_n 0, 1) := by decide +kernel
theorem dX4_cancel_12 : decode cX4_cancel 12 = .ok (.getfield 19, 3) := by decide +kernel
theorem dX4_cancel_15 : decode cX4_cancel 15 = .ok (.getfield 126, 3) := by decide +kernel
theorem dX4_cancel_18 : decode cX4_cancel 18 = .ok (.iload_n 2, 1) := by decide +kernel
theorem dX4_cancel_19 : decode cX4_cancel 19 = .ok (.iaload, 1) := by decide +kernel
theorem dX4_cancel_20 : decode cX4_cancel 20 = .ok (.istore_n 3, 1) := by decide +kernel
theorem dX4_cancel_21 : decode cX4_cancel 21 = .ok (.aload_n 0, 1) := by decide +kernel
theorem dX4_cancel_22 : decode cX4_cancel 22 = .ok (.iload_n 2, 1) := by decide +kernel
theorem dX4_cancel_23 : decode cX4_cancel 23 = .ok (.invokevirtual 129, 3) := by decide +kernel
theorem dX4_cancel_26 : decode cX4_cancel 26 = .ok (.iload_n 3, 1) := by decide +kernel
theorem dX4_cancel_27 : decode cX4_cancel 27 = .ok (.ireturn, 1) := by decide +kernel
set_option maxRecDepth 20000 in
theorem ggX4_reduce_X4_needOwnOrder : GoodIn wsX4_reduce wsX4_needOwnOrder := goodIn_ca (goodIn_ca (goodIn_r _ [16, 1, 2, 5, 17, 18, 19, 15, 20, 21, 22, 23, 24, 25, 26, 27, 52, 53, 54, 55, 56, 57, 58, 59, 60, 61, 62, 63, 64, 65, 66, 67, 68, 69] (by decide +kernel) (by decide +kernel)) (goodIn_sub (fun _ h => List.mem_cons_of_mem _ (List.mem_append_left _ (List.mem_append_left _ (List.mem_append_right _ h)))) (by decide +kernel))) (goodIn_sub (fun _ h => List.mem_cons_of_mem _ (List.mem_append_right _ h)) (by decide +kernel))
set_option maxRecDepth 20000 in
theorem gX4_reduce_X4_needOwnOrder : GoodIn wsX4_reduce (wsV RX4 120 RX4 yX4_needOwnOrder wsX4_needOwnOrder) := goodIn_app (goodIn_of _ (by decide +kernel)) ggX4_reduce_X4_needOwnOrder
set_option maxRecDepth 20000 in
theorem ggX4_reduce_X4_needThere : GoodIn wsX4_reduce wsX4_needThere := goodIn_ca (goodIn_r _ [31, 3, 4, 5, 32, 33, 34, 35, 36, 37, 52, 53, 54, 55, 56, 57, 58, 59, 60, 61, 62, 63, 64, 65, 66, 67, 68, 69] (by decide +kernel) (by decide +kernel)) (goodIn_sub (fun _ h => List.mem_cons_of_mem _ (List.mem_append_left _ (List.mem_append_right _ h))) (by decide +kernel))
set_option maxRecDepth 20000 in
theorem gX4_reduce_X4_needThere : GoodIn wsX4_reduce (wsV RX4 123 RX4 yX4_needThere wsX4_needThere) := goodIn_app (goodIn_of _ (by decide +kernel)) ggX4_reduce_X4_needThere
set_option maxRecDepth 20000 in
theorem ggX4_reduce_X4_hold : GoodIn wsX4_reduce wsX4_hold := goodIn_r _ [41, 5, 17, 42, 43, 44, 45, 46, 47, 48, 49, 50, 51, 52, 53, 54, 55, 56, 57, 58, 59, 60, 61, 62, 63, 64, 65, 66, 67, 68, 69, 70, 71, 72, 73, 74, 75, 76, 77] (by decide +kernel) (by decide +kernel)
set_option maxRecDepth 20000 in
theorem gX4_reduce_X4_hold : GoodIn wsX4_reduce (wsV RX4 109 RX4 yX4_hold wsX4_hold) := goodIn_app (goodIn_of _ (by decide +kernel)) ggX4_reduce_X4_hold
theorem dX4_reduce_0 : decode cX4_reduce 0 = .ok (.aload_n 0, 1) := by decide +kernel
theorem dX4_reduce_1 : decode cX4_reduce 1 = .ok (.iload_n 1, 1) := by decide +kernel
theorem dX4_reduce_2 : decode cX4_reduce 2 = .ok (.iload_n 2, 1) := by decide +kernel
theorem dX4_reduce_3 : decode cX4_reduce 3 = .ok (.invokevirtual 120, 3) := by decide +kernel
theorem dX4_reduce_6 : decode cX4_reduce 6 = .ok (.iload_n 3, 1) := by decide +kernel
theorem dX4_reduce_7 : decode cX4_reduce 7 = .ok (.iconst 1, 1) := by decide +kernel
theorem dX4_reduce_8 : decode cX4_reduce 8 = .ok (.if_icmp .ge 13, 3) := by decide +kernel
theorem dX4_reduce_11 : decode cX4_reduce 11 = .ok (.new 132, 3) := by decide +kernel
theorem dX4_reduce_14 : decode cX4_reduce 14 = .ok (.dup, 1) := by decide +kernel
theorem dX4_reduce_15 : decode cX4_reduce 15 = .ok (.ldc 134, 2) := by decide +kernel
theorem dX4_reduce_17 : decode cX4_reduce 17 = .ok (.invokespecial 136, 3) := by decide +kernel
theorem dX4_reduce_20 : decode cX4_reduce 20 = .ok (.athrow, 1) := by decide +kernel
theorem dX4_reduce_21 : decode cX4_reduce 21 = .ok (.aload_n 0, 1) := by decide +kernel
theorem dX4_reduce_22 : decode cX4_reduce 22 = .ok (.iload_n 2, 1) := by decide +kernel
theorem dX4_reduce_23 : decode cX4_reduce 23 = .ok (.invokevirtual 123, 3) := by decide +kernel
theorem dX4_reduce_26 : decode cX4_reduce 26 = .ok (.aload_n 0, 1) := by decide +kernel
theorem dX4_reduce_27 : decode cX4_reduce 27 = .ok (.getfield 19, 3) := by decide +kernel
theorem dX4_reduce_30 : decode cX4_reduce 30 = .ok (.getfield 126, 3) := by decide +kernel
theorem dX4_reduce_33 : decode cX4_reduce 33 = .ok (.iload_n 2, 1) := by decide +kernel
theorem dX4_reduce_34 : decode cX4_reduce 34 = .ok (.iaload, 1) := by decide +kernel
theorem dX4_reduce_35 : decode cX4_reduce 35 = .ok (.iload_n 3, 1) := by decide +kernel
theorem dX4_reduce_36 : decode cX4_reduce 36 = .ok (.if_icmp .gt 13, 3) := by decide +kernel
theorem dX4_reduce_39 : decode cX4_reduce 39 = .ok (.new 58, 3) := by decide +kernel
theorem dX4_reduce_42 : decode cX4_reduce 42 = .ok (.dup, 1) := by decide +kernel
theorem dX4_reduce_43 : decode cX4_reduce 43 = .ok (.ldc 137, 2) := by decide +kernel
theorem dX4_reduce_45 : decode cX4_reduce 45 = .ok (.invokespecial 62, 3) := by decide +kernel
theorem dX4_reduce_48 : decode cX4_reduce 48 = .ok (.athrow, 1) := by decide +kernel
theorem dX4_reduce_49 : decode cX4_reduce 49 = .ok (.aload_n 0, 1) := by decide +kernel
theorem dX4_reduce_50 : decode cX4_reduce 50 = .ok (.getfield 19, 3) := by decide +kernel
theorem dX4_reduce_53 : decode cX4_reduce 53 = .ok (.getfield 126, 3) := by decide +kernel
theorem dX4_reduce_56 : decode cX4_reduce 56 = .ok (.iload_n 2, 1) := by decide +kernel
theorem dX4_reduce_57 : decode cX4_reduce 57 = .ok (.dup2, 1) := by decide +kernel
theorem dX4_reduce_58 : decode cX4_reduce 58 = .ok (.iaload, 1) := by decide +kernel
theorem dX4_reduce_59 : decode cX4_reduce 59 = .ok (.iload_n 3, 1) := by decide +kernel
theorem dX4_reduce_60 : decode cX4_reduce 60 = .ok (.isub, 1) := by decide +kernel
theorem dX4_reduce_61 : decode cX4_reduce 61 = .ok (.iastore, 1) := by decide +kernel
theorem dX4_reduce_62 : decode cX4_reduce 62 = .ok (.aload_n 0, 1) := by decide +kernel
theorem dX4_reduce_63 : decode cX4_reduce 63 = .ok (.getfield 19, 3) := by decide +kernel
theorem dX4_reduce_66 : decode cX4_reduce 66 = .ok (.getfield 139, 3) := by decide +kernel
theorem dX4_reduce_69 : decode cX4_reduce 69 = .ok (.iload_n 2, 1) := by decide +kernel
theorem dX4_reduce_70 : decode cX4_reduce 70 = .ok (.aload_n 0, 1) := by decide +kernel
theorem dX4_reduce_71 : decode cX4_reduce 71 = .ok (.getfield 19, 3) := by decide +kernel
theorem dX4_reduce_74 : decode cX4_reduce 74 = .ok (.getfield 139, 3) := by decide +kernel
theorem dX4_reduce_77 : decode cX4_reduce 77 = .ok (.iload_n 2, 1) := by decide +kernel
theorem dX4_reduce_78 : decode cX4_reduce 78 = .ok (.iaload, 1) := by decide +kernel
theorem dX4_reduce_79 : decode cX4_reduce 79 = .ok (.aload_n 0, 1) := by decide +kernel
theorem dX4_reduce_80 : decode cX4_reduce 80 = .ok (.getfield 19, 3) := by decide +kernel
theorem dX4_reduce_83 : decode cX4_reduce 83 = .ok (.getfield 126, 3) := by decide +kernel
theorem dX4_reduce_86 : decode cX4_reduce 86 = .ok (.iload_n 2, 1) := by decide +kernel
theorem dX4_reduce_87 : decode cX4_reduce 87 = .ok (.iaload, 1) := by decide +kernel
theorem dX4_reduce_88 : decode cX4_reduce 88 = .ok (.invokestatic 142, 3) := by decide +kernel
theorem dX4_reduce_91 : decode cX4_reduce 91 = .ok (.iastore, 1) := by decide +kernel
theorem dX4_reduce_92 : decode cX4_reduce 92 = .ok (.aload_n 0, 1) := by decide +kernel
theorem dX4_reduce_93 : decode cX4_reduce 93 = .ok (.iload_n 2, 1) := by decide +kernel
theorem dX4_reduce_94 : decode cX4_reduce 94 = .ok (.iload_n 3, 1) := by decide +kernel
theorem dX4_reduce_95 : decode cX4_reduce 95 = .ok (.ineg, 1) := by decide +kernel
theorem dX4_reduce_96 : decode cX4_reduce 96 = .ok (.invokevirtual 109, 3) := by decide +kernel
theorem dX4_reduce_99 : decode cX4_reduce 99 = .ok (.aload_n 0, 1) := by decide +kernel
theorem dX4_reduce_100 : decode cX4_reduce 100 = .ok (.getfield 19, 3) := by decide +kernel
theorem dX4_reduce_103 : decode cX4_reduce 103 = .ok (.getfield 126, 3) := by decide +kernel
theorem dX4_reduce_106 : decode cX4_reduce 106 = .ok (.iload_n 2, 1) := by decide +kernel
theorem dX4_reduce_107 : decode cX4_reduce 107 = .ok (.iaload, 1) := by decide +kernel
theorem dX4_reduce_108 : decode cX4_reduce 108 = .ok (.ireturn, 1) := by decide +kernel
set_option maxRecDepth 20000 in
theorem ggX4_until_X4_needOwnOrder : GoodIn wsX4_until wsX4_needOwnOrder := goodIn_ca (goodIn_ca (goodIn_r _ [12, 1, 2, 6, 13, 14, 15, 11, 16, 17, 18, 19, 20, 21, 22, 23, 34, 35, 36, 37, 38, 39, 40, 41, 42, 43, 44, 45, 46, 47, 48, 49, 50, 51] (by decide +kernel) (by decide +kernel)) (goodIn_sub (fun _ h => List.mem_cons_of_mem _ (List.mem_append_left _ (List.mem_append_left _ (List.mem_append_right _ h)))) (by decide +kernel))) (goodIn_sub (fun _ h => List.mem_cons_of_mem _ (List.mem_append_right _ h)) (by decide +kernel))
set_option maxRecDepth 20000 in
theorem gX4_until_X4_needOwnOrder : GoodIn wsX4_until (wsV RX4 120 RX4 yX4_needOwnOrder wsX4_needOwnOrder) := goodIn_app (goodIn_of _ (by decide +kernel)) ggX4_until_X4_needOwnOrder
set_option maxRecDepth 20000 in
theorem ggX4_until_X4_needThere : GoodIn wsX4_until wsX4_needThere := goodIn_ca (goodIn_r _ [27, 3, 4, 6, 28, 29, 30, 31, 32, 33, 34, 35, 36, 37, 38, 39, 40, 41, 42, 43, 44, 45, 46, 47, 48, 49, 50, 51] (by decide +kernel) (by decide +kernel)) (goodIn_sub (fun _ h => List.mem_cons_of_mem _ (List.mem_append_left _ (List.mem_append_right _ h))) (by decide +kernel))
set_option maxRecDepth 20000 in
theorem gX4_until_X4_needThere : GoodIn wsX4_until (wsV RX4 123 RX4 yX4_needThere wsX4_needThere) := goodIn_app (goodIn_of _ (by decide +kernel)) ggX4_until_X4_needThere
theorem dX4_until_0 : decode cX4_until 0 = .ok (.aload_n 0, 1) := by decide +kernel
theorem dX4_until_1 : decode cX4_until 1 = .ok (.iload_n 1, 1) := by decide +kernel
theorem dX4_until_2 : decode cX4_until 2 = .ok (.iload_n 2, 1) := by decide +kernel
theorem dX4_until_3 : decode cX4_until 3 = .ok (.invokevirtual 120, 3) := by decide +kernel
theorem dX4_until_6 : decode cX4_until 6 = .ok (.iload_n 3, 1) := by decide +kernel
theorem dX4_until_7 : decode cX4_until 7 = .ok (.ifCond .ge 13, 3) := by decide +kernel
theorem dX4_until_10 : decode cX4_until 10 = .ok (.new 132, 3) := by decide +kernel
theorem dX4_until_13 : decode cX4_until 13 = .ok (.dup, 1) := by decide +kernel
theorem dX4_until_14 : decode cX4_until 14 = .ok (.ldc 147, 2) := by decide +kernel
theorem dX4_until_16 : decode cX4_until 16 = .ok (.invokespecial 136, 3) := by decide +kernel
theorem dX4_until_19 : decode cX4_until 19 = .ok (.athrow, 1) := by decide +kernel
theorem dX4_until_20 : decode cX4_until 20 = .ok (.aload_n 0, 1) := by decide +kernel
theorem dX4_until_21 : decode cX4_until 21 = .ok (.iload_n 2, 1) := by decide +kernel
theorem dX4_until_22 : decode cX4_until 22 = .ok (.invokevirtual 123, 3) := by decide +kernel
theorem dX4_until_25 : decode cX4_until 25 = .ok (.iload_n 3, 1) := by decide +kernel
theorem dX4_until_26 : decode cX4_until 26 = .ok (.ifCond .eq 21, 3) := by decide +kernel
theorem dX4_until_29 : decode cX4_until 29 = .ok (.iload_n 3, 1) := by decide +kernel
theorem dX4_until_30 : decode cX4_until 30 = .ok (.aload_n 0, 1) := by decide +kernel
theorem dX4_until_31 : decode cX4_until 31 = .ok (.getfield 39, 3) := by decide +kernel
theorem dX4_until_34 : decode cX4_until 34 = .ok (.if_icmp .gt 13, 3) := by decide +kernel
theorem dX4_until_37 : decode cX4_until 37 = .ok (.new 58, 3) := by decide +kernel
theorem dX4_until_40 : decode cX4_until 40 = .ok (.dup, 1) := by decide +kernel
theorem dX4_until_41 : decode cX4_until 41 = .ok (.ldc 149, 2) := by decide +kernel
theorem dX4_until_43 : decode cX4_until 43 = .ok (.invokespecial 62, 3) := by decide +kernel
theorem dX4_until_46 : decode cX4_until 46 = .ok (.athrow, 1) := by decide +kernel
theorem dX4_until_47 : decode cX4_until 47 = .ok (.aload_n 0, 1) := by decide +kernel
theorem dX4_until_48 : decode cX4_until 48 = .ok (.getfield 19, 3) := by decide +kernel
theorem dX4_until_51 : decode cX4_until 51 = .ok (.getfield 151, 3) := by decide +kernel
theorem dX4_until_54 : decode cX4_until 54 = .ok (.iload_n 2, 1) := by decide +kernel
theorem dX4_until_55 : decode cX4_until 55 = .ok (.iload_n 3, 1) := by decide +kernel
theorem dX4_until_56 : decode cX4_until 56 = .ok (.iastore, 1) := by decide +kernel
theorem dX4_until_57 : decode cX4_until 57 = .ok (.return_, 1) := by decide +kernel
set_option maxRecDepth 20000 in
theorem ggX4_pass_X4_needWithin : GoodIn wsX4_pass wsX4_needWithin := goodIn_ca (goodIn_r _ [9, 10, 11] (by decide +kernel) (by decide +kernel)) (goodIn_sub (fun _ h => List.mem_cons_of_mem _ (List.mem_append_right _ h)) (by decide +kernel))
set_option maxRecDepth 20000 in
theorem gX4_pass_X4_needWithin : GoodIn wsX4_pass (va_wsS RX4 48 yX4_needWithin wsX4_needWithin) := goodIn_app (goodIn_of _ (by decide +kernel)) ggX4_pass_X4_needWithin
set_option maxRecDepth 20000 in
theorem ggX4_pass_X2_isThere : GoodIn wsX4_pass wsX2_isThere := goodIn_r _ [16, 17, 64, 65, 66, 67, 68, 69, 70, 71, 72, 73, 74, 75, 76] (by decide +kernel) (by decide +kernel)
set_option maxRecDepth 20000 in
theorem gX4_pass_X2_isThere : GoodIn wsX4_pass (wsV RX4 154 RX2 yX2_isThere wsX2_isThere) := goodIn_app (goodIn_of _ (by decide +kernel)) ggX4_pass_X2_isThere
set_option maxRecDepth 20000 in
theorem ggX4_pass_X4_takeAway : GoodIn wsX4_pass wsX4_takeAway := goodIn_r _ [21, 3, 22, 23, 24, 25, 26, 27, 28, 29, 30, 31, 32, 33, 34, 35, 36, 37, 38, 39, 8, 40, 41, 42, 43, 44, 45, 46, 47, 48, 49, 50, 51, 52, 53, 54, 55, 56, 57, 58, 59, 60, 61, 62, 63, 64, 65, 66, 67, 68, 69, 70, 71, 72, 73, 74, 75, 76, 77, 78, 79, 80, 81, 82, 83, 84, 85, 86, 87] (by decide +kernel) (by decide +kernel)
set_option maxRecDepth 20000 in
theorem gX4_pass_X4_takeAway : GoodIn wsX4_pass (wsV RX4 129 RX4 yX4_takeAway wsX4_takeAway) := goodIn_app (goodIn_of _ (by decide +kernel)) ggX4_pass_X4_takeAway
theorem dX4_pass_0 : decode cX4_pass 0 = .ok (.iload_n 1, 1) := by decide +kernel
theorem dX4_pass_1 : decode cX4_pass 1 = .ok (.iconst 0, 1) := by decide +kernel
theorem dX4_pass_2 : decode cX4_pass 2 = .ok (.ldc 77, 2) := by decide +kernel
theorem dX4_pass_4 : decode cX4_pass 4 = .ok (.invokestatic 48, 3) := by decide +kernel
theorem dX4_pass_7 : decode cX4_pass 7 = .ok (.aload_n 0, 1) := by decide +kernel
theorem dX4_pass_8 : decode cX4_pass 8 = .ok (.dup, 1) := by decide +kernel
theorem dX4_pass_9 : decode cX4_pass 9 = .ok (.getfield 39, 3) := by decide +kernel
theorem dX4_pass_12 : decode cX4_pass 12 = .ok (.iload_n 1, 1) := by decide +kernel
theorem dX4_pass_13 : decode cX4_pass 13 = .ok (.iadd, 1) := by decide +kernel
theorem dX4_pass_14 : decode cX4_pass 14 = .ok (.putfield 39, 3) := by decide +kernel
theorem dX4_pass_17 : decode cX4_pass 17 = .ok (.iconst 0, 1) := by decide +kernel
theorem dX4_pass_18 : decode cX4_pass 18 = .ok (.istore_n 2, 1) := by decide +kernel
theorem dX4_pass_19 : decode cX4_pass 19 = .ok (.iconst 0, 1) := by decide +kernel
theorem dX4_pass_20 : decode cX4_pass 20 = .ok (.istore_n 3, 1) := by decide +kernel
theorem dX4_pass_21 : decode cX4_pass 21 = .ok (.iload_n 3, 1) := by decide +kernel
theorem dX4_pass_22 : decode cX4_pass 22 = .ok (.aload_n 0, 1) := by decide +kernel
theorem dX4_pass_23 : decode cX4_pass 23 = .ok (.getfield 19, 3) := by decide +kernel
theorem dX4_pass_26 : decode cX4_pass 26 = .ok (.getfield 100, 3) := by decide +kernel
theorem dX4_pass_29 : decode cX4_pass 29 = .ok (.if_icmp .ge 56, 3) := by decide +kernel
theorem dX4_pass_32 : decode cX4_pass 32 = .ok (.aload_n 0, 1) := by decide +kernel
theorem dX4_pass_33 : decode cX4_pass 33 = .ok (.getfield 19, 3) := by decide +kernel
theorem dX4_pass_36 : decode cX4_pass 36 = .ok (.iload_n 3, 1) := by decide +kernel
theorem dX4_pass_37 : decode cX4_pass 37 = .ok (.invokevirtual 154, 3) := by decide +kernel
theorem dX4_pass_40 : decode cX4_pass 40 = .ok (.ifCond .eq 39, 3) := by decide +kernel
theorem dX4_pass_43 : decode cX4_pass 43 = .ok (.aload_n 0, 1) := by decide +kernel
theorem dX4_pass_44 : decode cX4_pass 44 = .ok (.getfield 19, 3) := by decide +kernel
theorem dX4_pass_47 : decode cX4_pass 47 = .ok (.getfield 151, 3) := by decide +kernel
theorem dX4_pass_50 : decode cX4_pass 50 = .ok (.iload_n 3, 1) := by decide +kernel
theorem dX4_pass_51 : decode cX4_pass 51 = .ok (.iaload, 1) := by decide +kernel
theorem dX4_pass_52 : decode cX4_pass 52 = .ok (.ifCond .eq 27, 3) := by decide +kernel
theorem dX4_pass_55 : decode cX4_pass 55 = .ok (.aload_n 0, 1) := by decide +kernel
theorem dX4_pass_56 : decode cX4_pass 56 = .ok (.getfield 19, 3) := by decide +kernel
theorem dX4_pass_59 : decode cX4_pass 59 = .ok (.getfield 151, 3) := by decide +kernel
theorem dX4_pass_62 : decode cX4_pass 62 = .ok (.iload_n 3, 1) := by decide +kernel
theorem dX4_pass_63 : decode cX4_pass 63 = .ok (.iaload, 1) := by decide +kernel
theorem dX4_pass_64 : decode cX4_pass 64 = .ok (.aload_n 0, 1) := by decide +kernel
theorem dX4_pass_65 : decode cX4_pass 65 = .ok (.getfield 39, 3) := by decide +kernel
theorem dX4_pass_68 : decode cX4_pass 68 = .ok (.if_icmp .gt 11, 3) := by decide +kernel
theorem dX4_pass_71 : decode cX4_pass 71 = .ok (.aload_n 0, 1) := by decide +kernel
theorem dX4_pass_72 : decode cX4_pass 72 = .ok (.iload_n 3, 1) := by decide +kernel
theorem dX4_pass_73 : decode cX4_pass 73 = .ok (.invokevirtual 129, 3) := by decide +kernel
theorem dX4_pass_76 : decode cX4_pass 76 = .ok (.iinc 2 1, 3) := by decide +kernel
theorem dX4_pass_79 : decode cX4_pass 79 = .ok (.iinc 3 1, 3) := by decide +kernel
theorem dX4_pass_82 : decode cX4_pass 82 = .ok (.goto (-61), 3) := by decide +kernel
theorem dX4_pass_85 : decode cX4_pass 85 = .ok (.iload_n 2, 1) := by decide +kernel
theorem dX4_pass_86 : decode cX4_pass 86 = .ok (.ireturn, 1) := by decide +kernel
set_option maxRecDepth 20000 in
theorem ggX4_best_X4_needSymbol : GoodIn wsX4_best wsX4_needSymbol := goodIn_ca (goodIn_r _ [9, 10, 11] (by decide +kernel) (by decide +kernel)) (goodIn_sub (fun _ h => List.mem_cons_of_mem _ (List.mem_append_left _ (List.mem_append_right _ h))) (by decide +kernel))
set_option maxRecDepth 20000 in
theorem gX4_best_X4_needSymbol : GoodIn wsX4_best (va_wsS RX4 74 yX4_needSymbol wsX4_needSymbol) := goodIn_app (goodIn_of _ (by decide +kernel)) ggX4_best_X4_needSymbol
set_option maxRecDepth 20000 in
theorem ggX4_best_X4_needSide : GoodIn wsX4_best wsX4_needSide := goodIn_ca (goodIn_r _ [14, 15, 16] (by decide +kernel) (by decide +kernel)) (goodIn_sub (fun _ h => List.mem_cons_of_mem _ (List.mem_append_right _ h)) (by decide +kernel))
set_option maxRecDepth 20000 in
theorem gX4_best_X4_needSide : GoodIn wsX4_best (va_wsS RX4 88 yX4_needSide wsX4_needSide) := goodIn_app (goodIn_of _ (by decide +kernel)) ggX4_best_X4_needSide
set_option maxRecDepth 20000 in
theorem ggX4_best_X0_bookOf : GoodIn wsX4_best wsX0_bookOf := goodIn_r _ [20] (by decide +kernel) (by decide +kernel)
set_option maxRecDepth 20000 in
theorem gX4_best_X0_bookOf : GoodIn wsX4_best (va_wsS RX4 158 yX0_bookOf wsX0_bookOf) := goodIn_app (goodIn_of _ (by decide +kernel)) ggX4_best_X0_bookOf
set_option maxRecDepth 20000 in
theorem ggX4_best_X0_orderAt : GoodIn wsX4_best wsX0_orderAt := goodIn_r _ [24, 25, 26, 45, 46, 47] (by decide +kernel) (by decide +kernel)
set_option maxRecDepth 20000 in
theorem gX4_best_X0_orderAt : GoodIn wsX4_best (wsV RX4 161 RX0 yX0_orderAt wsX0_orderAt) := goodIn_app (goodIn_of _ (by decide +kernel)) ggX4_best_X0_orderAt
theorem dX4_best_0 : decode cX4_best 0 = .ok (.iload_n 1, 1) := by decide +kernel
theorem dX4_best_1 : decode cX4_best 1 = .ok (.invokestatic 74, 3) := by decide +kernel
theorem dX4_best_4 : decode cX4_best 4 = .ok (.iload_n 2, 1) := by decide +kernel
theorem dX4_best_5 : decode cX4_best 5 = .ok (.invokestatic 88, 3) := by decide +kernel
theorem dX4_best_8 : decode cX4_best 8 = .ok (.aload_n 0, 1) := by decide +kernel
theorem dX4_best_9 : decode cX4_best 9 = .ok (.getfield 28, 3) := by decide +kernel
theorem dX4_best_12 : decode cX4_best 12 = .ok (.iload_n 1, 1) := by decide +kernel
theorem dX4_best_13 : decode cX4_best 13 = .ok (.iload_n 2, 1) := by decide +kernel
theorem dX4_best_14 : decode cX4_best 14 = .ok (.invokestatic 158, 3) := by decide +kernel
theorem dX4_best_17 : decode cX4_best 17 = .ok (.iconst 0, 1) := by decide +kernel
theorem dX4_best_18 : decode cX4_best 18 = .ok (.invokevirtual 161, 3) := by decide +kernel
theorem dX4_best_21 : decode cX4_best 21 = .ok (.istore_n 3, 1) := by decide +kernel
theorem dX4_best_22 : decode cX4_best 22 = .ok (.iload_n 3, 1) := by decide +kernel
theorem dX4_best_23 : decode cX4_best 23 = .ok (.iconst (-1), 1) := by decide +kernel
theorem dX4_best_24 : decode cX4_best 24 = .ok (.if_icmp .ne 13, 3) := by decide +kernel
theorem dX4_best_27 : decode cX4_best 27 = .ok (.new 164, 3) := by decide +kernel
theorem dX4_best_30 : decode cX4_best 30 = .ok (.dup, 1) := by decide +kernel
theorem dX4_best_31 : decode cX4_best 31 = .ok (.ldc 166, 2) := by decide +kernel
theorem dX4_best_33 : decode cX4_best 33 = .ok (.invokespecial 168, 3) := by decide +kernel
theorem dX4_best_36 : decode cX4_best 36 = .ok (.athrow, 1) := by decide +kernel
theorem dX4_best_37 : decode cX4_best 37 = .ok (.aload_n 0, 1) := by decide +kernel
theorem dX4_best_38 : decode cX4_best 38 = .ok (.getfield 19, 3) := by decide +kernel
theorem dX4_best_41 : decode cX4_best 41 = .ok (.getfield 169, 3) := by decide +kernel
theorem dX4_best_44 : decode cX4_best 44 = .ok (.iload_n 3, 1) := by decide +kernel
theorem dX4_best_45 : decode cX4_best 45 = .ok (.iaload, 1) := by decide +kernel
theorem dX4_best_46 : decode cX4_best 46 = .ok (.ireturn, 1) := by decide +kernel
set_option maxRecDepth 20000 in
theorem ggX4_depth_X4_needSymbol : GoodIn wsX4_depth wsX4_needSymbol := goodIn_ca (goodIn_r _ [5, 6, 7] (by decide +kernel) (by decide +kernel)) (goodIn_sub (fun _ h => List.mem_cons_of_mem _ (List.mem_append_left _ (List.mem_append_right _ h))) (by decide +kernel))
set_option maxRecDepth 20000 in
theorem gX4_depth_X4_needSymbol : GoodIn wsX4_depth (va_wsS RX4 74 yX4_needSymbol wsX4_needSymbol) := goodIn_app (goodIn_of _ (by decide +kernel)) ggX4_depth_X4_needSymbol
set_option maxRecDepth 20000 in
theorem ggX4_depth_X4_needSide : GoodIn wsX4_depth wsX4_needSide := goodIn_ca (goodIn_r _ [10, 11, 12] (by decide +kernel) (by decide +kernel)) (goodIn_sub (fun _ h => List.mem_cons_of_mem _ (List.mem_append_right _ h)) (by decide +kernel))
set_option maxRecDepth 20000 in
theorem gX4_depth_X4_needSide : GoodIn wsX4_depth (va_wsS RX4 88 yX4_needSide wsX4_needSide) := goodIn_app (goodIn_of _ (by decide +kernel)) ggX4_depth_X4_needSide
set_option maxRecDepth 20000 in
theorem ggX4_depth_X4_needWithin : GoodIn wsX4_depth wsX4_needWithin := goodIn_ca (goodIn_r _ [15, 11, 12] (by decide +kernel) (by decide +kernel)) (goodIn_sub (fun _ h => List.mem_cons_of_mem _ (List.mem_append_right _ h)) (by decide +kernel))
set_option maxRecDepth 20000 in
theorem gX4_depth_X4_needWithin : GoodIn wsX4_depth (va_wsS RX4 48 yX4_needWithin wsX4_needWithin) := goodIn_app (goodIn_of _ (by decide +kernel)) ggX4_depth_X4_needWithin
set_option maxRecDepth 20000 in
theorem ggX4_depth_X0_bookOf : GoodIn wsX4_depth wsX0_bookOf := goodIn_r _ [19] (by decide +kernel) (by decide +kernel)
set_option maxRecDepth 20000 in
theorem gX4_depth_X0_bookOf : GoodIn wsX4_depth (va_wsS RX4 158 yX0_bookOf wsX0_bookOf) := goodIn_app (goodIn_of _ (by decide +kernel)) ggX4_depth_X0_bookOf
set_option maxRecDepth 20000 in
theorem ggX4_depth_X0_countPrices : GoodIn wsX4_depth wsX0_countPrices := goodIn_r _ [23, 24, 25, 26, 27, 38, 39, 40, 41, 42, 43, 44, 45, 46, 47, 48, 49, 50, 51, 52, 53] (by decide +kernel) (by decide +kernel)
set_option maxRecDepth 20000 in
theorem gX4_depth_X0_countPrices : GoodIn wsX4_depth (wsV RX4 172 RX0 yX0_countPrices wsX0_countPrices) := goodIn_app (goodIn_of _ (by decide +kernel)) ggX4_depth_X0_countPrices
set_option maxRecDepth 20000 in
theorem ggX4_depth_X0_sumShown : GoodIn wsX4_depth wsX0_sumShown := goodIn_r _ [31, 24, 27, 25, 26, 32, 38, 39, 40, 41, 42, 43, 44, 45, 46, 47, 48, 49, 50, 51, 52, 53] (by decide +kernel) (by decide +kernel)
set_option maxRecDepth 20000 in
theorem gX4_depth_X0_sumShown : GoodIn wsX4_depth (wsV RX4 175 RX0 yX0_sumShown wsX0_sumShown) := goodIn_app (goodIn_of _ (by decide +kernel)) ggX4_depth_X0_sumShown
theorem dX4_depth_0 : decode cX4_depth 0 = .ok (.iload_n 1, 1) := by decide +kernel
theorem dX4_depth_1 : decode cX4_depth 1 = .ok (.invokestatic 74, 3) := by decide +kernel
theorem dX4_depth_4 : decode cX4_depth 4 = .ok (.iload_n 2, 1) := by decide +kernel
theorem dX4_depth_5 : decode cX4_depth 5 = .ok (.invokestatic 88, 3) := by decide +kernel
theorem dX4_depth_8 : decode cX4_depth 8 = .ok (.iload_n 3, 1) := by decide +kernel
theorem dX4_depth_9 : decode cX4_depth 9 = .ok (.iconst 0, 1) := by decide +kernel
theorem dX4_depth_10 : decode cX4_depth 10 = .ok (.sipush 10000, 3) := by decide +kernel
theorem dX4_depth_13 : decode cX4_depth 13 = .ok (.invokestatic 48, 3) := by decide +kernel
theorem dX4_depth_16 : decode cX4_depth 16 = .ok (.iload_n 1, 1) := by decide +kernel
theorem dX4_depth_17 : decode cX4_depth 17 = .ok (.iload_n 2, 1) := by decide +kernel
theorem dX4_depth_18 : decode cX4_depth 18 = .ok (.invokestatic 158, 3) := by decide +kernel
theorem dX4_depth_21 : decode cX4_depth 21 = .ok (.istore 4, 2) := by decide +kernel
theorem dX4_depth_23 : decode cX4_depth 23 = .ok (.iload_n 3, 1) := by decide +kernel
theorem dX4_depth_24 : decode cX4_depth 24 = .ok (.ifCond .ne 15, 3) := by decide +kernel
theorem dX4_depth_27 : decode cX4_depth 27 = .ok (.aload_n 0, 1) := by decide +kernel
theorem dX4_depth_28 : decode cX4_depth 28 = .ok (.getfield 28, 3) := by decide +kernel
theorem dX4_depth_31 : decode cX4_depth 31 = .ok (.iload 4, 2) := by decide +kernel
theorem dX4_depth_33 : decode cX4_depth 33 = .ok (.invokevirtual 172, 3) := by decide +kernel
theorem dX4_depth_36 : decode cX4_depth 36 = .ok (.goto 14, 3) := by decide +kernel
theorem dX4_depth_39 : decode cX4_depth 39 = .ok (.aload_n 0, 1) := by decide +kernel
theorem dX4_depth_40 : decode cX4_depth 40 = .ok (.getfield 28, 3) := by decide +kernel
theorem dX4_depth_43 : decode cX4_depth 43 = .ok (.iload 4, 2) := by decide +kernel
theorem dX4_depth_45 : decode cX4_depth 45 = .ok (.iload_n 3, 1) := by decide +kernel
theorem dX4_depth_46 : decode cX4_depth 46 = .ok (.iconst (-1), 1) := by decide +kernel
theorem dX4_depth_47 : decode cX4_depth 47 = .ok (.invokevirtual 175, 3) := by decide +kernel
theorem dX4_depth_50 : decode cX4_depth 50 = .ok (.ireturn, 1) := by decide +kernel
set_option maxRecDepth 20000 in
theorem ggX4_level_X4_needSymbol : GoodIn wsX4_level wsX4_needSymbol := goodIn_ca (goodIn_r _ [9, 1, 2] (by decide +kernel) (by decide +kernel)) (goodIn_sub (fun _ h => List.mem_cons_of_mem _ (List.mem_append_left _ (List.mem_append_right _ h))) (by decide +kernel))
set_option maxRecDepth 20000 in
theorem gX4_level_X4_needSymbol : GoodIn wsX4_level (va_wsS RX4 74 yX4_needSymbol wsX4_needSymbol) := goodIn_app (goodIn_of _ (by decide +kernel)) ggX4_level_X4_needSymbol
set_option maxRecDepth 20000 in
theorem ggX4_level_X4_needSide : GoodIn wsX4_level wsX4_needSide := goodIn_ca (goodIn_r _ [12, 3, 4] (by decide +kernel) (by decide +kernel)) (goodIn_sub (fun _ h => List.mem_cons_of_mem _ (List.mem_append_right _ h)) (by decide +kernel))
set_option maxRecDepth 20000 in
theorem gX4_level_X4_needSide : GoodIn wsX4_level (va_wsS RX4 88 yX4_needSide wsX4_needSide) := goodIn_app (goodIn_of _ (by decide +kernel)) ggX4_level_X4_needSide
set_option maxRecDepth 20000 in
theorem ggX4_level_X0_bookOf : GoodIn wsX4_level wsX0_bookOf := goodIn_r _ [16] (by decide +kernel) (by decide +kernel)
set_option maxRecDepth 20000 in
theorem gX4_level_X0_bookOf : GoodIn wsX4_level (va_wsS RX4 158 yX0_bookOf wsX0_bookOf) := goodIn_app (goodIn_of _ (by decide +kernel)) ggX4_level_X0_bookOf
set_option maxRecDepth 20000 in
theorem ggX4_level_X0_priceOfLevel : GoodIn wsX4_level wsX0_priceOfLevel := goodIn_r _ [20, 21, 22, 23, 24, 39, 40, 41, 42, 43, 44, 45, 46, 47, 48, 49, 50, 51, 52, 53, 54] (by decide +kernel) (by decide +kernel)
set_option maxRecDepth 20000 in
theorem gX4_level_X0_priceOfLevel : GoodIn wsX4_level (wsV RX4 184 RX0 yX0_priceOfLevel wsX0_priceOfLevel) := goodIn_app (goodIn_of _ (by decide +kernel)) ggX4_level_X0_priceOfLevel
set_option maxRecDepth 20000 in
theorem ggX4_level_X0_countOrders : GoodIn wsX4_level wsX0_countOrders := goodIn_r _ [28, 21, 22, 23, 24, 39, 40, 41, 42, 43, 44, 45, 46, 47, 48, 49, 50, 51, 52, 53, 54] (by decide +kernel) (by decide +kernel)
set_option maxRecDepth 20000 in
theorem gX4_level_X0_countOrders : GoodIn wsX4_level (wsV RX4 187 RX0 yX0_countOrders wsX0_countOrders) := goodIn_app (goodIn_of _ (by decide +kernel)) ggX4_level_X0_countOrders
set_option maxRecDepth 20000 in
theorem ggX4_level_X0_sumLeft : GoodIn wsX4_level wsX0_sumLeft := goodIn_r _ [32, 21, 24, 22, 23, 33, 39, 40, 41, 42, 43, 44, 45, 46, 47, 48, 49, 50, 51, 52, 53, 54] (by decide +kernel) (by decide +kernel)
set_option maxRecDepth 20000 in
theorem gX4_level_X0_sumLeft : GoodIn wsX4_level (wsV RX4 190 RX0 yX0_sumLeft wsX0_sumLeft) := goodIn_app (goodIn_of _ (by decide +kernel)) ggX4_level_X0_sumLeft
theorem dX4_level_0 : decode cX4_level 0 = .ok (.iload_n 1, 1) := by decide +kernel
theorem dX4_level_1 : decode cX4_level 1 = .ok (.invokestatic 74, 3) := by decide +kernel
theorem dX4_level_4 : decode cX4_level 4 = .ok (.iload_n 3, 1) := by decide +kernel
theorem dX4_level_5 : decode cX4_level 5 = .ok (.ifCond .ge 13, 3) := by decide +kernel
theorem dX4_level_8 : decode cX4_level 8 = .ok (.new 179, 3) := by decide +kernel
theorem dX4_level_11 : decode cX4_level 11 = .ok (.dup, 1) := by decide +kernel
theorem dX4_level_12 : decode cX4_level 12 = .ok (.ldc 181, 2) := by decide +kernel
theorem dX4_level_14 : decode cX4_level 14 = .ok (.invokespecial 183, 3) := by decide +kernel
theorem dX4_level_17 : decode cX4_level 17 = .ok (.athrow, 1) := by decide +kernel
theorem dX4_level_18 : decode cX4_level 18 = .ok (.iload_n 2, 1) := by decide +kernel
theorem dX4_level_19 : decode cX4_level 19 = .ok (.invokestatic 88, 3) := by decide +kernel
theorem dX4_level_22 : decode cX4_level 22 = .ok (.iload_n 1, 1) := by decide +kernel
theorem dX4_level_23 : decode cX4_level 23 = .ok (.iload_n 2, 1) := by decide +kernel
theorem dX4_level_24 : decode cX4_level 24 = .ok (.invokestatic 158, 3) := by decide +kernel
theorem dX4_level_27 : decode cX4_level 27 = .ok (.istore 5, 2) := by decide +kernel
theorem dX4_level_29 : decode cX4_level 29 = .ok (.aload_n 0, 1) := by decide +kernel
theorem dX4_level_30 : decode cX4_level 30 = .ok (.getfield 28, 3) := by decide +kernel
theorem dX4_level_33 : decode cX4_level 33 = .ok (.iload 5, 2) := by decide +kernel
theorem dX4_level_35 : decode cX4_level 35 = .ok (.iload_n 3, 1) := by decide +kernel
theorem dX4_level_36 : decode cX4_level 36 = .ok (.invokevirtual 184, 3) := by decide +kernel
theorem dX4_level_39 : decode cX4_level 39 = .ok (.istore 6, 2) := by decide +kernel
theorem dX4_level_41 : decode cX4_level 41 = .ok (.iload 6, 2) := by decide +kernel
theorem dX4_level_43 : decode cX4_level 43 = .ok (.iconst (-1), 1) := by decide +kernel
theorem dX4_level_44 : decode cX4_level 44 = .ok (.if_icmp .ne 13, 3) := by decide +kernel
theorem dX4_level_47 : decode cX4_level 47 = .ok (.new 179, 3) := by decide +kernel
theorem dX4_level_50 : decode cX4_level 50 = .ok (.dup, 1) := by decide +kernel
theorem dX4_level_51 : decode cX4_level 51 = .ok (.ldc 181, 2) := by decide +kernel
theorem dX4_level_53 : decode cX4_level 53 = .ok (.invokespecial 183, 3) := by decide +kernel
theorem dX4_level_56 : decode cX4_level 56 = .ok (.athrow, 1) := by decide +kernel
theorem dX4_level_57 : decode cX4_level 57 = .ok (.iload 4, 2) := by decide +kernel
theorem dX4_level_59 : decode cX4_level 59 = .ok (.tableswitch 52 0 2 #[25, 28, 40], 25) := by decide +kernel
theorem dX4_level_84 : decode cX4_level 84 = .ok (.iload 6, 2) := by decide +kernel
theorem dX4_level_86 : decode cX4_level 86 = .ok (.ireturn, 1) := by decide +kernel
theorem dX4_level_87 : decode cX4_level 87 = .ok (.aload_n 0, 1) := by decide +kernel
theorem dX4_level_88 : decode cX4_level 88 = .ok (.getfield 28, 3) := by decide +kernel
theorem dX4_level_91 : decode cX4_level 91 = .ok (.iload 5, 2) := by decide +kernel
theorem dX4_level_93 : decode cX4_level 93 = .ok (.iload 6, 2) := by decide +kernel
theorem dX4_level_95 : decode cX4_level 95 = .ok (.invokevirtual 187, 3) := by decide +kernel
theorem dX4_level_98 : decode cX4_level 98 = .ok (.ireturn, 1) := by decide +kernel
theorem dX4_level_99 : decode cX4_level 99 = .ok (.aload_n 0, 1) := by decide +kernel
theorem dX4_level_100 : decode cX4_level 100 = .ok (.getfield 28, 3) := by decide +kernel
theorem dX4_level_103 : decode cX4_level 103 = .ok (.iload 5, 2) := by decide +kernel
theorem dX4_level_105 : decode cX4_level 105 = .ok (.iload 6, 2) := by decide +kernel
theorem dX4_level_107 : decode cX4_level 107 = .ok (.invokevirtual 190, 3) := by decide +kernel
theorem dX4_level_110 : decode cX4_level 110 = .ok (.ireturn, 1) := by decide +kernel
theorem dX4_level_111 : decode cX4_level 111 = .ok (.new 132, 3) := by decide +kernel
theorem dX4_level_114 : decode cX4_level 114 = .ok (.dup, 1) := by decide +kernel
theorem dX4_level_115 : decode cX4_level 115 = .ok (.ldc 193, 2) := by decide +kernel
theorem dX4_level_117 : decode cX4_level 117 = .ok (.invokespecial 136, 3) := by decide +kernel
theorem dX4_level_120 : decode cX4_level 120 = .ok (.athrow, 1) := by decide +kernel
set_option maxRecDepth 20000 in
theorem ggX4_about_X4_needOrder : GoodIn wsX4_about wsX4_needOrder := goodIn_ca (goodIn_r _ [14, 15, 16, 3, 17, 18, 19, 20, 21, 22, 23, 24, 25, 26, 27, 28, 29, 30, 31, 32, 33, 34, 35] (by decide +kernel) (by decide +kernel)) (goodIn_sub (fun _ h => List.mem_cons_of_mem _ (List.mem_append_right _ h)) (by decide +kernel))
set_option maxRecDepth 20000 in
theorem gX4_about_X4_needOrder : GoodIn wsX4_about (wsV RX4 195 RX4 yX4_needOrder wsX4_needOrder) := goodIn_app (goodIn_of _ (by decide +kernel)) ggX4_about_X4_needOrder
theorem dX4_about_0 : decode cX4_about 0 = .ok (.aload_n 0, 1) := by decide +kernel
theorem dX4_about_1 : decode cX4_about 1 = .ok (.iload_n 1, 1) := by decide +kernel
theorem dX4_about_2 : decode cX4_about 2 = .ok (.invokevirtual 195, 3) := by decide +kernel
theorem dX4_about_5 : decode cX4_about 5 = .ok (.iload_n 2, 1) := by decide +kernel
theorem dX4_about_6 : decode cX4_about 6 = .ok (.tableswitch 98 0 5 #[38, 48, 58, 68, 78, 88], 38) := by decide +kernel
theorem dX4_about_44 : decode cX4_about 44 = .ok (.aload_n 0, 1) := by decide +kernel
theorem dX4_about_45 : decode cX4_about 45 = .ok (.getfield 19, 3) := by decide +kernel
theorem dX4_about_48 : decode cX4_about 48 = .ok (.getfield 198, 3) := by decide +kernel
theorem dX4_about_51 : decode cX4_about 51 = .ok (.iload_n 1, 1) := by decide +kernel
theorem dX4_about_52 : decode cX4_about 52 = .ok (.iaload, 1) := by decide +kernel
theorem dX4_about_53 : decode cX4_about 53 = .ok (.ireturn, 1) := by decide +kernel
theorem dX4_about_54 : decode cX4_about 54 = .ok (.aload_n 0, 1) := by decide +kernel
theorem dX4_about_55 : decode cX4_about 55 = .ok (.getfield 19, 3) := by decide +kernel
theorem dX4_about_58 : decode cX4_about 58 = .ok (.getfield 126, 3) := by decide +kernel
theorem dX4_about_61 : decode cX4_about 61 = .ok (.iload_n 1, 1) := by decide +kernel
theorem dX4_about_62 : decode cX4_about 62 = .ok (.iaload, 1) := by decide +kernel
theorem dX4_about_63 : decode cX4_about 63 = .ok (.ireturn, 1) := by decide +kernel
theorem dX4_about_64 : decode cX4_about 64 = .ok (.aload_n 0, 1) := by decide +kernel
theorem dX4_about_65 : decode cX4_about 65 = .ok (.getfield 19, 3) := by decide +kernel
theorem dX4_about_68 : decode cX4_about 68 = .ok (.getfield 139, 3) := by decide +kernel
theorem dX4_about_71 : decode cX4_about 71 = .ok (.iload_n 1, 1) := by decide +kernel
theorem dX4_about_72 : decode cX4_about 72 = .ok (.iaload, 1) := by decide +kernel
theorem dX4_about_73 : decode cX4_about 73 = .ok (.ireturn, 1) := by decide +kernel
theorem dX4_about_74 : decode cX4_about 74 = .ok (.aload_n 0, 1) := by decide +kernel
theorem dX4_about_75 : decode cX4_about 75 = .ok (.getfield 19, 3) := by decide +kernel
theorem dX4_about_78 : decode cX4_about 78 = .ok (.getfield 201, 3) := by decide +kernel
theorem dX4_about_81 : decode cX4_about 81 = .ok (.iload_n 1, 1) := by decide +kernel
theorem dX4_about_82 : decode cX4_about 82 = .ok (.iaload, 1) := by decide +kernel
theorem dX4_about_83 : decode cX4_about 83 = .ok (.ireturn, 1) := by decide +kernel
theorem dX4_about_84 : decode cX4_about 84 = .ok (.aload_n 0, 1) := by decide +kernel
theorem dX4_about_85 : decode cX4_about 85 = .ok (.getfield 19, 3) := by decide +kernel
theorem dX4_about_88 : decode cX4_about 88 = .ok (.getfield 151, 3) := by decide +kernel
theorem dX4_about_91 : decode cX4_about 91 = .ok (.iload_n 1, 1) := by decide +kernel
theorem dX4_about_92 : decode cX4_about 92 = .ok (.iaload, 1) := by decide +kernel
theorem dX4_about_93 : decode cX4_about 93 = .ok (.ireturn, 1) := by decide +kernel
theorem dX4_about_94 : decode cX4_about 94 = .ok (.aload_n 0, 1) := by decide +kernel
theorem dX4_about_95 : decode cX4_about 95 = .ok (.getfield 19, 3) := by decide +kernel
theorem dX4_about_98 : decode cX4_about 98 = .ok (.getfield 204, 3) := by decide +kernel
theorem dX4_about_101 : decode cX4_about 101 = .ok (.iload_n 1, 1) := by decide +kernel
theorem dX4_about_102 : decode cX4_about 102 = .ok (.iaload, 1) := by decide +kernel
theorem dX4_about_103 : decode cX4_about 103 = .ok (.ireturn, 1) := by decide +kernel
theorem dX4_about_104 : decode cX4_about 104 = .ok (.new 132, 3) := by decide +kernel
theorem dX4_about_107 : decode cX4_about 107 = .ok (.dup, 1) := by decide +kernel
theorem dX4_about_108 : decode cX4_about 108 = .ok (.ldc 207, 2) := by decide +kernel
theorem dX4_about_110 : decode cX4_about 110 = .ok (.invokespecial 136, 3) := by decide +kernel
theorem dX4_about_113 : decode cX4_about 113 = .ok (.athrow, 1) := by decide +kernel
set_option maxRecDepth 20000 in
theorem ggX4_ahead_X4_needOrder : GoodIn wsX4_ahead wsX4_needOrder := goodIn_ca (goodIn_r _ [13, 14, 15, 3, 16, 30, 31, 32, 33, 34, 35, 36, 37, 38, 39, 40, 41, 42, 43, 44, 45, 46, 47] (by decide +kernel) (by decide +kernel)) (goodIn_sub (fun _ h => List.mem_cons_of_mem _ (List.mem_append_right _ h)) (by decide +kernel))
set_option maxRecDepth 20000 in
theorem gX4_ahead_X4_needOrder : GoodIn wsX4_ahead (wsV RX4 195 RX4 yX4_needOrder wsX4_needOrder) := goodIn_app (goodIn_of _ (by decide +kernel)) ggX4_ahead_X4_needOrder
set_option maxRecDepth 20000 in
theorem ggX4_ahead_X0_bookOf : GoodIn wsX4_ahead wsX0_bookOf := goodIn_r _ [20] (by decide +kernel) (by decide +kernel)
set_option maxRecDepth 20000 in
theorem gX4_ahead_X0_bookOf : GoodIn wsX4_ahead (va_wsS RX4 158 yX0_bookOf wsX0_bookOf) := goodIn_app (goodIn_of _ (by decide +kernel)) ggX4_ahead_X0_bookOf
set_option maxRecDepth 20000 in
theorem ggX4_ahead_X0_sumShown : GoodIn wsX4_ahead wsX0_sumShown := goodIn_r _ [24, 25, 26, 27, 28, 29, 48, 49, 50, 35, 36, 37, 38, 39, 40, 41, 42, 43, 44, 45, 46, 47] (by decide +kernel) (by decide +kernel)
set_option maxRecDepth 20000 in
theorem gX4_ahead_X0_sumShown : GoodIn wsX4_ahead (wsV RX4 175 RX0 yX0_sumShown wsX0_sumShown) := goodIn_app (goodIn_of _ (by decide +kernel)) ggX4_ahead_X0_sumShown
theorem dX4_ahead_0 : decode cX4_ahead 0 = .ok (.aload_n 0, 1) := by decide +kernel
theorem dX4_ahead_1 : decode cX4_ahead 1 = .ok (.iload_n 1, 1) := by decide +kernel
theorem dX4_ahead_2 : decode cX4_ahead 2 = .ok (.invokevirtual 195, 3) := by decide +kernel
theorem dX4_ahead_5 : decode cX4_ahead 5 = .ok (.aload_n 0, 1) := by decide +kernel
theorem dX4_ahead_6 : decode cX4_ahead 6 = .ok (.getfield 19, 3) := by decide +kernel
theorem dX4_ahead_9 : decode cX4_ahead 9 = .ok (.getfield 201, 3) := by decide +kernel
theorem dX4_ahead_12 : decode cX4_ahead 12 = .ok (.iload_n 1, 1) := by decide +kernel
theorem dX4_ahead_13 : decode cX4_ahead 13 = .ok (.iaload, 1) := by decide +kernel
theorem dX4_ahead_14 : decode cX4_ahead 14 = .ok (.ifCond .eq 13, 3) := by decide +kernel
theorem dX4_ahead_17 : decode cX4_ahead 17 = .ok (.new 164, 3) := by decide +kernel
theorem dX4_ahead_20 : decode cX4_ahead 20 = .ok (.dup, 1) := by decide +kernel
theorem dX4_ahead_21 : decode cX4_ahead 21 = .ok (.ldc 209, 2) := by decide +kernel
theorem dX4_ahead_23 : decode cX4_ahead 23 = .ok (.invokespecial 168, 3) := by decide +kernel
theorem dX4_ahead_26 : decode cX4_ahead 26 = .ok (.athrow, 1) := by decide +kernel
theorem dX4_ahead_27 : decode cX4_ahead 27 = .ok (.aload_n 0, 1) := by decide +kernel
theorem dX4_ahead_28 : decode cX4_ahead 28 = .ok (.getfield 19, 3) := by decide +kernel
theorem dX4_ahead_31 : decode cX4_ahead 31 = .ok (.getfield 211, 3) := by decide +kernel
theorem dX4_ahead_34 : decode cX4_ahead 34 = .ok (.iload_n 1, 1) := by decide +kernel
theorem dX4_ahead_35 : decode cX4_ahead 35 = .ok (.iaload, 1) := by decide +kernel
theorem dX4_ahead_36 : decode cX4_ahead 36 = .ok (.aload_n 0, 1) := by decide +kernel
theorem dX4_ahead_37 : decode cX4_ahead 37 = .ok (.getfield 19, 3) := by decide +kernel
theorem dX4_ahead_40 : decode cX4_ahead 40 = .ok (.getfield 214, 3) := by decide +kernel
theorem dX4_ahead_43 : decode cX4_ahead 43 = .ok (.iload_n 1, 1) := by decide +kernel
theorem dX4_ahead_44 : decode cX4_ahead 44 = .ok (.iaload, 1) := by decide +kernel
theorem dX4_ahead_45 : decode cX4_ahead 45 = .ok (.invokestatic 158, 3) := by decide +kernel
theorem dX4_ahead_48 : decode cX4_ahead 48 = .ok (.istore_n 2, 1) := by decide +kernel
theorem dX4_ahead_49 : decode cX4_ahead 49 = .ok (.aload_n 0, 1) := by decide +kernel
theorem dX4_ahead_50 : decode cX4_ahead 50 = .ok (.getfield 28, 3) := by decide +kernel
theorem dX4_ahead_53 : decode cX4_ahead 53 = .ok (.iload_n 2, 1) := by decide +kernel
theorem dX4_ahead_54 : decode cX4_ahead 54 = .ok (.aload_n 0, 1) := by decide +kernel
theorem dX4_ahead_55 : decode cX4_ahead 55 = .ok (.getfield 19, 3) := by decide +kernel
theorem dX4_ahead_58 : decode cX4_ahead 58 = .ok (.getfield 169, 3) := by decide +kernel
theorem dX4_ahead_61 : decode cX4_ahead 61 = .ok (.iload_n 1, 1) := by decide +kernel
theorem dX4_ahead_62 : decode cX4_ahead 62 = .ok (.iaload, 1) := by decide +kernel
theorem dX4_ahead_63 : decode cX4_ahead 63 = .ok (.iload_n 1, 1) := by decide +kernel
theorem dX4_ahead_64 : decode cX4_ahead 64 = .ok (.invokevirtual 175, 3) := by decide +kernel
theorem dX4_ahead_67 : decode cX4_ahead 67 = .ok (.ireturn, 1) := by decide +kernel
set_option maxRecDepth 20000 in
theorem ggX4_cash_X4_needAccount : GoodIn wsX4_cash wsX4_needAccount := goodIn_ca (goodIn_r _ [9, 10, 11] (by decide +kernel) (by decide +kernel)) (goodIn_sub (fun _ h => List.mem_cons_of_mem _ (List.mem_append_right _ h)) (by decide +kernel))
set_option maxRecDepth 20000 in
theorem gX4_cash_X4_needAccount : GoodIn wsX4_cash (va_wsS RX4 43 yX4_needAccount wsX4_needAccount) := goodIn_app (goodIn_of _ (by decide +kernel)) ggX4_cash_X4_needAccount
theorem dX4_cash_0 : decode cX4_cash 0 = .ok (.iload_n 1, 1) := by decide +kernel
theorem dX4_cash_1 : decode cX4_cash 1 = .ok (.invokestatic 43, 3) := by decide +kernel
theorem dX4_cash_4 : decode cX4_cash 4 = .ok (.iload_n 2, 1) := by decide +kernel
theorem dX4_cash_5 : decode cX4_cash 5 = .ok (.lookupswitch 47 #[(0, 27), (1, 37)], 27) := by decide +kernel
theorem dX4_cash_32 : decode cX4_cash 32 = .ok (.aload_n 0, 1) := by decide +kernel
theorem dX4_cash_33 : decode cX4_cash 33 = .ok (.getfield 10, 3) := by decide +kernel
theorem dX4_cash_36 : decode cX4_cash 36 = .ok (.getfield 52, 3) := by decide +kernel
theorem dX4_cash_39 : decode cX4_cash 39 = .ok (.iload_n 1, 1) := by decide +kernel
theorem dX4_cash_40 : decode cX4_cash 40 = .ok (.laload, 1) := by decide +kernel
theorem dX4_cash_41 : decode cX4_cash 41 = .ok (.lreturn, 1) := by decide +kernel
theorem dX4_cash_42 : decode cX4_cash 42 = .ok (.aload_n 0, 1) := by decide +kernel
theorem dX4_cash_43 : decode cX4_cash 43 = .ok (.getfield 10, 3) := by decide +kernel
theorem dX4_cash_46 : decode cX4_cash 46 = .ok (.getfield 217, 3) := by decide +kernel
theorem dX4_cash_49 : decode cX4_cash 49 = .ok (.iload_n 1, 1) := by decide +kernel
theorem dX4_cash_50 : decode cX4_cash 50 = .ok (.laload, 1) := by decide +kernel
theorem dX4_cash_51 : decode cX4_cash 51 = .ok (.lreturn, 1) := by decide +kernel
theorem dX4_cash_52 : decode cX4_cash 52 = .ok (.new 132, 3) := by decide +kernel
theorem dX4_cash_55 : decode cX4_cash 55 = .ok (.dup, 1) := by decide +kernel
theorem dX4_cash_56 : decode cX4_cash 56 = .ok (.ldc 220, 2) := by decide +kernel
theorem dX4_cash_58 : decode cX4_cash 58 = .ok (.invokespecial 136, 3) := by decide +kernel
theorem dX4_cash_61 : decode cX4_cash 61 = .ok (.athrow, 1) := by decide +kernel
set_option maxRecDepth 20000 in
theorem ggX4_shares_X4_needAccount : GoodIn wsX4_shares wsX4_needAccount := goodIn_ca (goodIn_r _ [11, 12, 13] (by decide +kernel) (by decide +kernel)) (goodIn_sub (fun _ h => List.mem_cons_of_mem _ (List.mem_append_right _ h)) (by decide +kernel))
set_option maxRecDepth 20000 in
theorem gX4_shares_X4_needAccount : GoodIn wsX4_shares (va_wsS RX4 43 yX4_needAccount wsX4_needAccount) := goodIn_app (goodIn_of _ (by decide +kernel)) ggX4_shares_X4_needAccount
set_option maxRecDepth 20000 in
theorem ggX4_shares_X4_needSymbol : GoodIn wsX4_shares wsX4_needSymbol := goodIn_ca (goodIn_r _ [16, 12, 13] (by decide +kernel) (by decide +kernel)) (goodIn_sub (fun _ h => List.mem_cons_of_mem _ (List.mem_append_right _ h)) (by decide +kernel))
set_option maxRecDepth 20000 in
theorem gX4_shares_X4_needSymbol : GoodIn wsX4_shares (va_wsS RX4 74 yX4_needSymbol wsX4_needSymbol) := goodIn_app (goodIn_of _ (by decide +kernel)) ggX4_shares_X4_needSymbol
set_option maxRecDepth 20000 in
theorem ggX4_shares_X1_placeOf : GoodIn wsX4_shares wsX1_placeOf := goodIn_r _ [20] (by decide +kernel) (by decide +kernel)
set_option maxRecDepth 20000 in
theorem gX4_shares_X1_placeOf : GoodIn wsX4_shares (va_wsS RX4 78 yX1_placeOf wsX1_placeOf) := goodIn_app (goodIn_of _ (by decide +kernel)) ggX4_shares_X1_placeOf
theorem dX4_shares_0 : decode cX4_shares 0 = .ok (.iload_n 1, 1) := by decide +kernel
theorem dX4_shares_1 : decode cX4_shares 1 = .ok (.invokestatic 43, 3) := by decide +kernel
theorem dX4_shares_4 : decode cX4_shares 4 = .ok (.iload_n 2, 1) := by decide +kernel
theorem dX4_shares_5 : decode cX4_shares 5 = .ok (.invokestatic 74, 3) := by decide +kernel
theorem dX4_shares_8 : decode cX4_shares 8 = .ok (.iload_n 1, 1) := by decide +kernel
theorem dX4_shares_9 : decode cX4_shares 9 = .ok (.iload_n 2, 1) := by decide +kernel
theorem dX4_shares_10 : decode cX4_shares 10 = .ok (.invokestatic 78, 3) := by decide +kernel
theorem dX4_shares_13 : decode cX4_shares 13 = .ok (.istore 4, 2) := by decide +kernel
theorem dX4_shares_15 : decode cX4_shares 15 = .ok (.iload_n 3, 1) := by decide +kernel
theorem dX4_shares_16 : decode cX4_shares 16 = .ok (.tableswitch 76 0 3 #[32, 43, 54, 65], 32) := by decide +kernel
theorem dX4_shares_48 : decode cX4_shares 48 = .ok (.aload_n 0, 1) := by decide +kernel
theorem dX4_shares_49 : decode cX4_shares 49 = .ok (.getfield 10, 3) := by decide +kernel
theorem dX4_shares_52 : decode cX4_shares 52 = .ok (.getfield 82, 3) := by decide +kernel
theorem dX4_shares_55 : decode cX4_shares 55 = .ok (.iload 4, 2) := by decide +kernel
theorem dX4_shares_57 : decode cX4_shares 57 = .ok (.iaload, 1) := by decide +kernel
theorem dX4_shares_58 : decode cX4_shares 58 = .ok (.ireturn, 1) := by decide +kernel
theorem dX4_shares_59 : decode cX4_shares 59 = .ok (.aload_n 0, 1) := by decide +kernel
theorem dX4_shares_60 : decode cX4_shares 60 = .ok (.getfield 10, 3) := by decide +kernel
theorem dX4_shares_63 : decode cX4_shares 63 = .ok (.getfield 222, 3) := by decide +kernel
theorem dX4_shares_66 : decode cX4_shares 66 = .ok (.iload 4, 2) := by decide +kernel
theorem dX4_shares_68 : decode cX4_shares 68 = .ok (.iaload, 1) := by decide +kernel
theorem dX4_shares_69 : decode cX4_shares 69 = .ok (.ireturn, 1) := by decide +kernel
theorem dX4_shares_70 : decode cX4_shares 70 = .ok (.aload_n 0, 1) := by decide +kernel
theorem dX4_shares_71 : decode cX4_shares 71 = .ok (.getfield 10, 3) := by decide +kernel
theorem dX4_shares_74 : decode cX4_shares 74 = .ok (.getfield 225, 3) := by decide +kernel
theorem dX4_shares_77 : decode cX4_shares 77 = .ok (.iload 4, 2) := by decide +kernel
theorem dX4_shares_79 : decode cX4_shares 79 = .ok (.iaload, 1) := by decide +kernel
theorem dX4_shares_80 : decode cX4_shares 80 = .ok (.ireturn, 1) := by decide +kernel
theorem dX4_shares_81 : decode cX4_shares 81 = .ok (.aload_n 0, 1) := by decide +kernel
theorem dX4_shares_82 : decode cX4_shares 82 = .ok (.getfield 10, 3) := by decide +kernel
theorem dX4_shares_85 : decode cX4_shares 85 = .ok (.getfield 228, 3) := by decide +kernel
theorem dX4_shares_88 : decode cX4_shares 88 = .ok (.iload 4, 2) := by decide +kernel
theorem dX4_shares_90 : decode cX4_shares 90 = .ok (.iaload, 1) := by decide +kernel
theorem dX4_shares_91 : decode cX4_shares 91 = .ok (.ireturn, 1) := by decide +kernel
theorem dX4_shares_92 : decode cX4_shares 92 = .ok (.new 132, 3) := by decide +kernel
theorem dX4_shares_95 : decode cX4_shares 95 = .ok (.dup, 1) := by decide +kernel
theorem dX4_shares_96 : decode cX4_shares 96 = .ok (.ldc 231, 2) := by decide +kernel
theorem dX4_shares_98 : decode cX4_shares 98 = .ok (.invokespecial 136, 3) := by decide +kernel
theorem dX4_shares_101 : decode cX4_shares 101 = .ok (.athrow, 1) := by decide +kernel
theorem dX4_count_0 : decode cX4_count 0 = .ok (.iload_n 1, 1) := by decide +kernel
theorem dX4_count_1 : decode cX4_count 1 = .ok (.tableswitch 72 0 4 #[35, 43, 51, 59, 67], 35) := by decide +kernel
theorem dX4_count_36 : decode cX4_count 36 = .ok (.aload_n 0, 1) := by decide +kernel
theorem dX4_count_37 : decode cX4_count 37 = .ok (.getfield 35, 3) := by decide +kernel
theorem dX4_count_40 : decode cX4_count 40 = .ok (.getfield 233, 3) := by decide +kernel
theorem dX4_count_43 : decode cX4_count 43 = .ok (.ireturn, 1) := by decide +kernel
theorem dX4_count_44 : decode cX4_count 44 = .ok (.aload_n 0, 1) := by decide +kernel
theorem dX4_count_45 : decode cX4_count 45 = .ok (.getfield 19, 3) := by decide +kernel
theorem dX4_count_48 : decode cX4_count 48 = .ok (.getfield 100, 3) := by decide +kernel
theorem dX4_count_51 : decode cX4_count 51 = .ok (.ireturn, 1) := by decide +kernel
theorem dX4_count_52 : decode cX4_count 52 = .ok (.aload_n 0, 1) := by decide +kernel
theorem dX4_count_53 : decode cX4_count 53 = .ok (.getfield 19, 3) := by decide +kernel
theorem dX4_count_56 : decode cX4_count 56 = .ok (.getfield 97, 3) := by decide +kernel
theorem dX4_count_59 : decode cX4_count 59 = .ok (.ireturn, 1) := by decide +kernel
theorem dX4_count_60 : decode cX4_count 60 = .ok (.aload_n 0, 1) := by decide +kernel
theorem dX4_count_61 : decode cX4_count 61 = .ok (.getfield 10, 3) := by decide +kernel
theorem dX4_count_64 : decode cX4_count 64 = .ok (.getfield 236, 3) := by decide +kernel
theorem dX4_count_67 : decode cX4_count 67 = .ok (.ireturn, 1) := by decide +kernel
theorem dX4_count_68 : decode cX4_count 68 = .ok (.aload_n 0, 1) := by decide +kernel
theorem dX4_count_69 : decode cX4_count 69 = .ok (.getfield 39, 3) := by decide +kernel
theorem dX4_count_72 : decode cX4_count 72 = .ok (.ireturn, 1) := by decide +kernel
theorem dX4_count_73 : decode cX4_count 73 = .ok (.new 132, 3) := by decide +kernel
theorem dX4_count_76 : decode cX4_count 76 = .ok (.dup, 1) := by decide +kernel
theorem dX4_count_77 : decode cX4_count 77 = .ok (.ldc 239, 2) := by decide +kernel
theorem dX4_count_79 : decode cX4_count 79 = .ok (.invokespecial 136, 3) := by decide +kernel
theorem dX4_count_82 : decode cX4_count 82 = .ok (.athrow, 1) := by decide +kernel
theorem dX4_trade_0 : decode cX4_trade 0 = .ok (.iload_n 1, 1) := by decide +kernel
theorem dX4_trade_1 : decode cX4_trade 1 = .ok (.ifCond .lt 21, 3) := by decide +kernel
theorem dX4_trade_4 : decode cX4_trade 4 = .ok (.iload_n 1, 1) := by decide +kernel
theorem dX4_trade_5 : decode cX4_trade 5 = .ok (.aload_n 0, 1) := by decide +kernel
theorem dX4_trade_6 : decode cX4_trade 6 = .ok (.getfield 35, 3) := by decide +kernel
theorem dX4_trade_9 : decode cX4_trade 9 = .ok (.getfield 233, 3) := by decide +kernel
theorem dX4_trade_12 : decode cX4_trade 12 = .ok (.if_icmp .ge 10, 3) := by decide +kernel
theorem dX4_trade_15 : decode cX4_trade 15 = .ok (.iload_n 1, 1) := by decide +kernel
theorem dX4_trade_16 : decode cX4_trade 16 = .ok (.sipush 300, 3) := by decide +kernel
theorem dX4_trade_19 : decode cX4_trade 19 = .ok (.if_icmp .lt 13, 3) := by decide +kernel
theorem dX4_trade_22 : decode cX4_trade 22 = .ok (.new 179, 3) := by decide +kernel
theorem dX4_trade_25 : decode cX4_trade 25 = .ok (.dup, 1) := by decide +kernel
theorem dX4_trade_26 : decode cX4_trade 26 = .ok (.ldc 241, 2) := by decide +kernel
theorem dX4_trade_28 : decode cX4_trade 28 = .ok (.invokespecial 183, 3) := by decide +kernel
theorem dX4_trade_31 : decode cX4_trade 31 = .ok (.athrow, 1) := by decide +kernel
theorem dX4_trade_32 : decode cX4_trade 32 = .ok (.iload_n 2, 1) := by decide +kernel
theorem dX4_trade_33 : decode cX4_trade 33 = .ok (.tableswitch 71 0 3 #[31, 41, 51, 61], 31) := by decide +kernel
theorem dX4_trade_64 : decode cX4_trade 64 = .ok (.aload_n 0, 1) := by decide +kernel
theorem dX4_trade_65 : decode cX4_trade 65 = .ok (.getfield 35, 3) := by decide +kernel
theorem dX4_trade_68 : decode cX4_trade 68 = .ok (.getfield 243, 3) := by decide +kernel
theorem dX4_trade_71 : decode cX4_trade 71 = .ok (.iload_n 1, 1) := by decide +kernel
theorem dX4_trade_72 : decode cX4_trade 72 = .ok (.iaload, 1) := by decide +kernel
theorem dX4_trade_73 : decode cX4_trade 73 = .ok (.ireturn, 1) := by decide +kernel
theorem dX4_trade_74 : decode cX4_trade 74 = .ok (.aload_n 0, 1) := by decide +kernel
theorem dX4_trade_75 : decode cX4_trade 75 = .ok (.getfield 35, 3) := by decide +kernel
theorem dX4_trade_78 : decode cX4_trade 78 = .ok (.getfield 246, 3) := by decide +kernel
theorem dX4_trade_81 : decode cX4_trade 81 = .ok (.iload_n 1, 1) := by decide +kernel
theorem dX4_trade_82 : decode cX4_trade 82 = .ok (.iaload, 1) := by decide +kernel
theorem dX4_trade_83 : decode cX4_trade 83 = .ok (.ireturn, 1) := by decide +kernel
theorem dX4_trade_84 : decode cX4_trade 84 = .ok (.aload_n 0, 1) := by decide +kernel
theorem dX4_trade_85 : decode cX4_trade 85 = .ok (.getfield 35, 3) := by decide +kernel
theorem dX4_trade_88 : decode cX4_trade 88 = .ok (.getfield 249, 3) := by decide +kernel
theorem dX4_trade_91 : decode cX4_trade 91 = .ok (.iload_n 1, 1) := by decide +kernel
theorem dX4_trade_92 : decode cX4_trade 92 = .ok (.iaload, 1) := by decide +kernel
theorem dX4_trade_93 : decode cX4_trade 93 = .ok (.ireturn, 1) := by decide +kernel
theorem dX4_trade_94 : decode cX4_trade 94 = .ok (.aload_n 0, 1) := by decide +kernel
theorem dX4_trade_95 : decode cX4_trade 95 = .ok (.getfield 35, 3) := by decide +kernel
theorem dX4_trade_98 : decode cX4_trade 98 = .ok (.getfield 250, 3) := by decide +kernel
theorem dX4_trade_101 : decode cX4_trade 101 = .ok (.iload_n 1, 1) := by decide +kernel
theorem dX4_trade_102 : decode cX4_trade 102 = .ok (.iaload, 1) := by decide +kernel
theorem dX4_trade_103 : decode cX4_trade 103 = .ok (.ireturn, 1) := by decide +kernel
theorem dX4_trade_104 : decode cX4_trade 104 = .ok (.new 132, 3) := by decide +kernel
theorem dX4_trade_107 : decode cX4_trade 107 = .ok (.dup, 1) := by decide +kernel
theorem dX4_trade_108 : decode cX4_trade 108 = .ok (.ldc 253, 2) := by decide +kernel
theorem dX4_trade_110 : decode cX4_trade 110 = .ok (.invokespecial 136, 3) := by decide +kernel
theorem dX4_trade_113 : decode cX4_trade 113 = .ok (.athrow, 1) := by decide +kernel
set_option maxRecDepth 20000 in
theorem ggX4_symbol_X4_needSymbol : GoodIn wsX4_symbol wsX4_needSymbol := goodIn_ca (goodIn_r _ [11, 12, 13] (by decide +kernel) (by decide +kernel)) (goodIn_sub (fun _ h => List.mem_cons_of_mem _ (List.mem_append_right _ h)) (by decide +kernel))
set_option maxRecDepth 20000 in
theorem gX4_symbol_X4_needSymbol : GoodIn wsX4_symbol (va_wsS RX4 74 yX4_needSymbol wsX4_needSymbol) := goodIn_app (goodIn_of _ (by decide +kernel)) ggX4_symbol_X4_needSymbol
theorem dX4_symbol_0 : decode cX4_symbol 0 = .ok (.iload_n 1, 1) := by decide +kernel
theorem dX4_symbol_1 : decode cX4_symbol 1 = .ok (.invokestatic 74, 3) := by decide +kernel
theorem dX4_symbol_4 : decode cX4_symbol 4 = .ok (.iload_n 2, 1) := by decide +kernel
theorem dX4_symbol_5 : decode cX4_symbol 5 = .ok (.tableswitch 71 0 3 #[31, 41, 51, 61], 31) := by decide +kernel
theorem dX4_symbol_36 : decode cX4_symbol 36 = .ok (.aload_n 0, 1) := by decide +kernel
theorem dX4_symbol_37 : decode cX4_symbol 37 = .ok (.getfield 35, 3) := by decide +kernel
theorem dX4_symbol_40 : decode cX4_symbol 40 = .ok (.getfield 255, 3) := by decide +kernel
theorem dX4_symbol_43 : decode cX4_symbol 43 = .ok (.iload_n 1, 1) := by decide +kernel
theorem dX4_symbol_44 : decode cX4_symbol 44 = .ok (.iaload, 1) := by decide +kernel
theorem dX4_symbol_45 : decode cX4_symbol 45 = .ok (.ireturn, 1) := by decide +kernel
theorem dX4_symbol_46 : decode cX4_symbol 46 = .ok (.aload_n 0, 1) := by decide +kernel
theorem dX4_symbol_47 : decode cX4_symbol 47 = .ok (.getfield 35, 3) := by decide +kernel
theorem dX4_symbol_50 : decode cX4_symbol 50 = .ok (.getfield 258, 3) := by decide +kernel
theorem dX4_symbol_53 : decode cX4_symbol 53 = .ok (.iload_n 1, 1) := by decide +kernel
theorem dX4_symbol_54 : decode cX4_symbol 54 = .ok (.iaload, 1) := by decide +kernel
theorem dX4_symbol_55 : decode cX4_symbol 55 = .ok (.ireturn, 1) := by decide +kernel
theorem dX4_symbol_56 : decode cX4_symbol 56 = .ok (.aload_n 0, 1) := by decide +kernel
theorem dX4_symbol_57 : decode cX4_symbol 57 = .ok (.getfield 35, 3) := by decide +kernel
theorem dX4_symbol_60 : decode cX4_symbol 60 = .ok (.getfield 261, 3) := by decide +kernel
theorem dX4_symbol_63 : decode cX4_symbol 63 = .ok (.iload_n 1, 1) := by decide +kernel
theorem dX4_symbol_64 : decode cX4_symbol 64 = .ok (.iaload, 1) := by decide +kernel
theorem dX4_symbol_65 : decode cX4_symbol 65 = .ok (.ireturn, 1) := by decide +kernel
theorem dX4_symbol_66 : decode cX4_symbol 66 = .ok (.aload_n 0, 1) := by decide +kernel
theorem dX4_symbol_67 : decode cX4_symbol 67 = .ok (.getfield 35, 3) := by decide +kernel
theorem dX4_symbol_70 : decode cX4_symbol 70 = .ok (.getfield 264, 3) := by decide +kernel
theorem dX4_symbol_73 : decode cX4_symbol 73 = .ok (.iload_n 1, 1) := by decide +kernel
theorem dX4_symbol_74 : decode cX4_symbol 74 = .ok (.iaload, 1) := by decide +kernel
theorem dX4_symbol_75 : decode cX4_symbol 75 = .ok (.ireturn, 1) := by decide +kernel
theorem dX4_symbol_76 : decode cX4_symbol 76 = .ok (.new 132, 3) := by decide +kernel
theorem dX4_symbol_79 : decode cX4_symbol 79 = .ok (.dup, 1) := by decide +kernel
theorem dX4_symbol_80 : decode cX4_symbol 80 = .ok (.ldc_w 267, 3) := by decide +kernel
theorem dX4_symbol_83 : decode cX4_symbol 83 = .ok (.invokespecial 136, 3) := by decide +kernel
theorem dX4_symbol_86 : decode cX4_symbol 86 = .ok (.athrow, 1) := by decide +kernel
set_option maxRecDepth 20000 in
theorem ggX4_busiest_X4_needSymbol : GoodIn wsX4_busiest wsX4_needSymbol := goodIn_ca (goodIn_r _ [7, 1, 2] (by decide +kernel) (by decide +kernel)) (goodIn_sub (fun _ h => List.mem_cons_of_mem _ (List.mem_append_right _ h)) (by decide +kernel))
set_option maxRecDepth 20000 in
theorem gX4_busiest_X4_needSymbol : GoodIn wsX4_busiest (va_wsS RX4 74 yX4_needSymbol wsX4_needSymbol) := goodIn_app (goodIn_of _ (by decide +kernel)) ggX4_busiest_X4_needSymbol
set_option maxRecDepth 20000 in
theorem ggX4_busiest_X1_turnover : GoodIn wsX4_busiest wsX1_turnover := goodIn_r _ [12, 13, 14, 15, 16, 11, 17, 28, 29, 30, 31, 32, 33, 34, 35] (by decide +kernel) (by decide +kernel)
set_option maxRecDepth 20000 in
theorem gX4_busiest_X1_turnover : GoodIn wsX4_busiest (wsV RX4 269 RX1 yX1_turnover wsX1_turnover) := goodIn_app (goodIn_of _ (by decide +kernel)) ggX4_busiest_X1_turnover
set_option maxRecDepth 20000 in
theorem ggX4_busiest_X1_countBusier : GoodIn wsX4_busiest wsX1_countBusier := goodIn_r _ [21, 22, 9, 10, 11, 12, 13, 14, 15, 16, 17, 28, 29, 30, 31, 32, 33, 34, 35] (by decide +kernel) (by decide +kernel)
set_option maxRecDepth 20000 in
theorem gX4_busiest_X1_countBusier : GoodIn wsX4_busiest (wsV RX4 272 RX1 yX1_countBusier wsX1_countBusier) := goodIn_app (goodIn_of _ (by decide +kernel)) ggX4_busiest_X1_countBusier
theorem dX4_busiest_0 : decode cX4_busiest 0 = .ok (.iload_n 1, 1) := by decide +kernel
theorem dX4_busiest_1 : decode cX4_busiest 1 = .ok (.invokestatic 74, 3) := by decide +kernel
theorem dX4_busiest_4 : decode cX4_busiest 4 = .ok (.iconst 0, 1) := by decide +kernel
theorem dX4_busiest_5 : decode cX4_busiest 5 = .ok (.istore_n 3, 1) := by decide +kernel
theorem dX4_busiest_6 : decode cX4_busiest 6 = .ok (.iload_n 3, 1) := by decide +kernel
theorem dX4_busiest_7 : decode cX4_busiest 7 = .ok (.sipush 512, 3) := by decide +kernel
theorem dX4_busiest_10 : decode cX4_busiest 10 = .ok (.if_icmp .ge 36, 3) := by decide +kernel
theorem dX4_busiest_13 : decode cX4_busiest 13 = .ok (.aload_n 0, 1) := by decide +kernel
theorem dX4_busiest_14 : decode cX4_busiest 14 = .ok (.getfield 10, 3) := by decide +kernel
theorem dX4_busiest_17 : decode cX4_busiest 17 = .ok (.iload_n 3, 1) := by decide +kernel
theorem dX4_busiest_18 : decode cX4_busiest 18 = .ok (.iload_n 1, 1) := by decide +kernel
theorem dX4_busiest_19 : decode cX4_busiest 19 = .ok (.invokevirtual 269, 3) := by decide +kernel
theorem dX4_busiest_22 : decode cX4_busiest 22 = .ok (.ifCond .le 18, 3) := by decide +kernel
theorem dX4_busiest_25 : decode cX4_busiest 25 = .ok (.aload_n 0, 1) := by decide +kernel
theorem dX4_busiest_26 : decode cX4_busiest 26 = .ok (.getfield 10, 3) := by decide +kernel
theorem dX4_busiest_29 : decode cX4_busiest 29 = .ok (.iload_n 3, 1) := by decide +kernel
theorem dX4_busiest_30 : decode cX4_busiest 30 = .ok (.iload_n 1, 1) := by decide +kernel
theorem dX4_busiest_31 : decode cX4_busiest 31 = .ok (.invokevirtual 272, 3) := by decide +kernel
theorem dX4_busiest_34 : decode cX4_busiest 34 = .ok (.iload_n 2, 1) := by decide +kernel
theorem dX4_busiest_35 : decode cX4_busiest 35 = .ok (.if_icmp .ne 5, 3) := by decide +kernel
theorem dX4_busiest_38 : decode cX4_busiest 38 = .ok (.iload_n 3, 1) := by decide +kernel
theorem dX4_busiest_39 : decode cX4_busiest 39 = .ok (.ireturn, 1) := by decide +kernel
theorem dX4_busiest_40 : decode cX4_busiest 40 = .ok (.iinc 3 1, 3) := by decide +kernel
theorem dX4_busiest_43 : decode cX4_busiest 43 = .ok (.goto (-37), 3) := by decide +kernel
theorem dX4_busiest_46 : decode cX4_busiest 46 = .ok (.new 179, 3) := by decide +kernel
theorem dX4_busiest_49 : decode cX4_busiest 49 = .ok (.dup, 1) := by decide +kernel
theorem dX4_busiest_50 : decode cX4_busiest 50 = .ok (.ldc_w 275, 3) := by decide +kernel
theorem dX4_busiest_53 : decode cX4_busiest 53 = .ok (.invokespecial 183, 3) := by decide +kernel
theorem dX4_busiest_56 : decode cX4_busiest 56 = .ok (.athrow, 1) := by decide +kernel
theorem dX4_needAccount_0 : decode cX4_needAccount 0 = .ok (.iload_n 0, 1) := by decide +kernel
theorem dX4_needAccount_1 : decode cX4_needAccount 1 = .ok (.ifCond .lt 10, 3) := by decide +kernel
theorem dX4_needAccount_4 : decode cX4_needAccount 4 = .ok (.iload_n 0, 1) := by decide +kernel
theorem dX4_needAccount_5 : decode cX4_needAccount 5 = .ok (.sipush 512, 3) := by decide +kernel
theorem dX4_needAccount_8 : decode cX4_needAccount 8 = .ok (.if_icmp .lt 14, 3) := by decide +kernel
theorem dX4_needAccount_11 : decode cX4_needAccount 11 = .ok (.new 179, 3) := by decide +kernel
theorem dX4_needAccount_14 : decode cX4_needAccount 14 = .ok (.dup, 1) := by decide +kernel
theorem dX4_needAccount_15 : decode cX4_needAccount 15 = .ok (.ldc_w 277, 3) := by decide +kernel
theorem dX4_needAccount_18 : decode cX4_needAccount 18 = .ok (.invokespecial 183, 3) := by decide +kernel
theorem dX4_needAccount_21 : decode cX4_needAccount 21 = .ok (.athrow, 1) := by decide +kernel
theorem dX4_needAccount_22 : decode cX4_needAccount 22 = .ok (.return_, 1) := by decide +kernel
theorem dX4_needSymbol_0 : decode cX4_needSymbol 0 = .ok (.iload_n 0, 1) := by decide +kernel
theorem dX4_needSymbol_1 : decode cX4_needSymbol 1 = .ok (.ifCond .lt 8, 3) := by decide +kernel
theorem dX4_needSymbol_4 : decode cX4_needSymbol 4 = .ok (.iload_n 0, 1) := by decide +kernel
theorem dX4_needSymbol_5 : decode cX4_needSymbol 5 = .ok (.iconst 4, 1) := by decide +kernel
theorem dX4_needSymbol_6 : decode cX4_needSymbol 6 = .ok (.if_icmp .lt 14, 3) := by decide +kernel
theorem dX4_needSymbol_9 : decode cX4_needSymbol 9 = .ok (.new 179, 3) := by decide +kernel
theorem dX4_needSymbol_12 : decode cX4_needSymbol 12 = .ok (.dup, 1) := by decide +kernel
theorem dX4_needSymbol_13 : decode cX4_needSymbol 13 = .ok (.ldc_w 279, 3) := by decide +kernel
theorem dX4_needSymbol_16 : decode cX4_needSymbol 16 = .ok (.invokespecial 183, 3) := by decide +kernel
theorem dX4_needSymbol_19 : decode cX4_needSymbol 19 = .ok (.athrow, 1) := by decide +kernel
theorem dX4_needSymbol_20 : decode cX4_needSymbol 20 = .ok (.return_, 1) := by decide +kernel
theorem dX4_needSide_0 : decode cX4_needSide 0 = .ok (.iload_n 0, 1) := by decide +kernel
theorem dX4_needSide_1 : decode cX4_needSide 1 = .ok (.ifCond .eq 19, 3) := by decide +kernel
theorem dX4_needSide_4 : decode cX4_needSide 4 = .ok (.iload_n 0, 1) := by decide +kernel
theorem dX4_needSide_5 : decode cX4_needSide 5 = .ok (.iconst 1, 1) := by decide +kernel
theorem dX4_needSide_6 : decode cX4_needSide 6 = .ok (.if_icmp .eq 14, 3) := by decide +kernel
theorem dX4_needSide_9 : decode cX4_needSide 9 = .ok (.new 132, 3) := by decide +kernel
theorem dX4_needSide_12 : decode cX4_needSide 12 = .ok (.dup, 1) := by decide +kernel
theorem dX4_needSide_13 : decode cX4_needSide 13 = .ok (.ldc_w 281, 3) := by decide +kernel
theorem dX4_needSide_16 : decode cX4_needSide 16 = .ok (.invokespecial 136, 3) := by decide +kernel
theorem dX4_needSide_19 : decode cX4_needSide 19 = .ok (.athrow, 1) := by decide +kernel
theorem dX4_needSide_20 : decode cX4_needSide 20 = .ok (.return_, 1) := by decide +kernel
theorem dX4_needWithin_0 : decode cX4_needWithin 0 = .ok (.iload_n 0, 1) := by decide +kernel
theorem dX4_needWithin_1 : decode cX4_needWithin 1 = .ok (.iload_n 1, 1) := by decide +kernel
theorem dX4_needWithin_2 : decode cX4_needWithin 2 = .ok (.if_icmp .lt 8, 3) := by decide +kernel
theorem dX4_needWithin_5 : decode cX4_needWithin 5 = .ok (.iload_n 0, 1) := by decide +kernel
theorem dX4_needWithin_6 : decode cX4_needWithin 6 = .ok (.iload_n 2, 1) := by decide +kernel
theorem dX4_needWithin_7 : decode cX4_needWithin 7 = .ok (.if_icmp .le 14, 3) := by decide +kernel
theorem dX4_needWithin_10 : decode cX4_needWithin 10 = .ok (.new 132, 3) := by decide +kernel
theorem dX4_needWithin_13 : decode cX4_needWithin 13 = .ok (.dup, 1) := by decide +kernel
theorem dX4_needWithin_14 : decode cX4_needWithin 14 = .ok (.ldc_w 283, 3) := by decide +kernel
theorem dX4_needWithin_17 : decode cX4_needWithin 17 = .ok (.invokespecial 136, 3) := by decide +kernel
theorem dX4_needWithin_20 : decode cX4_needWithin 20 = .ok (.athrow, 1) := by decide +kernel
theorem dX4_needWithin_21 : decode cX4_needWithin 21 = .ok (.return_, 1) := by decide +kernel
theorem dX4_needOrder_0 : decode cX4_needOrder 0 = .ok (.iload_n 1, 1) := by decide +kernel
theorem dX4_needOrder_1 : decode cX4_needOrder 1 = .ok (.ifCond .lt 14, 3) := by decide +kernel
theorem dX4_needOrder_4 : decode cX4_needOrder 4 = .ok (.iload_n 1, 1) := by decide +kernel
theorem dX4_needOrder_5 : decode cX4_needOrder 5 = .ok (.aload_n 0, 1) := by decide +kernel
theorem dX4_needOrder_6 : decode cX4_needOrder 6 = .ok (.getfield 19, 3) := by decide +kernel
theorem dX4_needOrder_9 : decode cX4_needOrder 9 = .ok (.getfield 100, 3) := by decide +kernel
theorem dX4_needOrder_12 : decode cX4_needOrder 12 = .ok (.if_icmp .lt 14, 3) := by decide +kernel
theorem dX4_needOrder_15 : decode cX4_needOrder 15 = .ok (.new 179, 3) := by decide +kernel
theorem dX4_needOrder_18 : decode cX4_needOrder 18 = .ok (.dup, 1) := by decide +kernel
theorem dX4_needOrder_19 : decode cX4_needOrder 19 = .ok (.ldc_w 285, 3) := by decide +kernel
theorem dX4_needOrder_22 : decode cX4_needOrder 22 = .ok (.invokespecial 183, 3) := by decide +kernel
theorem dX4_needOrder_25 : decode cX4_needOrder 25 = .ok (.athrow, 1) := by decide +kernel
theorem dX4_needOrder_26 : decode cX4_needOrder 26 = .ok (.return_, 1) := by decide +kernel
set_option maxRecDepth 20000 in
theorem ggX4_needOwnOrder_X4_needAccount : GoodIn wsX4_needOwnOrder wsX4_needAccount := goodIn_ca (goodIn_r _ [8, 9, 10] (by decide +kernel) (by decide +kernel)) (goodIn_sub (fun _ h => List.mem_cons_of_mem _ (List.mem_append_right _ h)) (by decide +kernel))
set_option maxRecDepth 20000 in
theorem gX4_needOwnOrder_X4_needAccount : GoodIn wsX4_needOwnOrder (va_wsS RX4 43 yX4_needAccount wsX4_needAccount) := goodIn_app (goodIn_of _ (by decide +kernel)) ggX4_needOwnOrder_X4_needAccount
set_option maxRecDepth 20000 in
theorem ggX4_needOwnOrder_X4_needOrder : GoodIn wsX4_needOwnOrder wsX4_needOrder := goodIn_ca (goodIn_r _ [14, 9, 10, 3, 15, 16, 17, 18, 19, 20, 21, 22, 23, 24, 25, 26, 27, 28, 29, 30, 31, 32, 33] (by decide +kernel) (by decide +kernel)) (goodIn_sub (fun _ h => List.mem_cons_of_mem _ (List.mem_append_right _ h)) (by decide +kernel))
set_option maxRecDepth 20000 in
theorem gX4_needOwnOrder_X4_needOrder : GoodIn wsX4_needOwnOrder (wsV RX4 195 RX4 yX4_needOrder wsX4_needOrder) := goodIn_app (goodIn_of _ (by decide +kernel)) ggX4_needOwnOrder_X4_needOrder
theorem dX4_needOwnOrder_0 : decode cX4_needOwnOrder 0 = .ok (.iload_n 1, 1) := by decide +kernel
theorem dX4_needOwnOrder_1 : decode cX4_needOwnOrder 1 = .ok (.invokestatic 43, 3) := by decide +kernel
theorem dX4_needOwnOrder_4 : decode cX4_needOwnOrder 4 = .ok (.aload_n 0, 1) := by decide +kernel
theorem dX4_needOwnOrder_5 : decode cX4_needOwnOrder 5 = .ok (.iload_n 2, 1) := by decide +kernel
theorem dX4_needOwnOrder_6 : decode cX4_needOwnOrder 6 = .ok (.invokevirtual 195, 3) := by decide +kernel
theorem dX4_needOwnOrder_9 : decode cX4_needOwnOrder 9 = .ok (.aload_n 0, 1) := by decide +kernel
theorem dX4_needOwnOrder_10 : decode cX4_needOwnOrder 10 = .ok (.getfield 19, 3) := by decide +kernel
theorem dX4_needOwnOrder_13 : decode cX4_needOwnOrder 13 = .ok (.getfield 198, 3) := by decide +kernel
theorem dX4_needOwnOrder_16 : decode cX4_needOwnOrder 16 = .ok (.iload_n 2, 1) := by decide +kernel
theorem dX4_needOwnOrder_17 : decode cX4_needOwnOrder 17 = .ok (.iaload, 1) := by decide +kernel
theorem dX4_needOwnOrder_18 : decode cX4_needOwnOrder 18 = .ok (.iload_n 1, 1) := by decide +kernel
theorem dX4_needOwnOrder_19 : decode cX4_needOwnOrder 19 = .ok (.if_icmp .eq 14, 3) := by decide +kernel
theorem dX4_needOwnOrder_22 : decode cX4_needOwnOrder 22 = .ok (.new 132, 3) := by decide +kernel
theorem dX4_needOwnOrder_25 : decode cX4_needOwnOrder 25 = .ok (.dup, 1) := by decide +kernel
theorem dX4_needOwnOrder_26 : decode cX4_needOwnOrder 26 = .ok (.ldc_w 287, 3) := by decide +kernel
theorem dX4_needOwnOrder_29 : decode cX4_needOwnOrder 29 = .ok (.invokespecial 136, 3) := by decide +kernel
theorem dX4_needOwnOrder_32 : decode cX4_needOwnOrder 32 = .ok (.athrow, 1) := by decide +kernel
theorem dX4_needOwnOrder_33 : decode cX4_needOwnOrder 33 = .ok (.return_, 1) := by decide +kernel
set_option maxRecDepth 20000 in
theorem ggX4_needThere_X2_isThere : GoodIn wsX4_needThere wsX2_isThere := goodIn_r _ [8, 9, 15, 16, 17, 18, 19, 20, 21, 22, 23, 24, 25, 26, 27] (by decide +kernel) (by decide +kernel)
set_option maxRecDepth 20000 in
theorem gX4_needThere_X2_isThere : GoodIn wsX4_needThere (wsV RX4 154 RX2 yX2_isThere wsX2_isThere) := goodIn_app (goodIn_of _ (by decide +kernel)) ggX4_needThere_X2_isThere
theorem dX4_needThere_0 : decode cX4_needThere 0 = .ok (.aload_n 0, 1) := by decide +kernel
theorem dX4_needThere_1 : decode cX4_needThere 1 = .ok (.getfield 19, 3) := by decide +kernel
theorem dX4_needThere_4 : decode cX4_needThere 4 = .ok (.iload_n 1, 1) := by decide +kernel
theorem dX4_needThere_5 : decode cX4_needThere 5 = .ok (.invokevirtual 154, 3) := by decide +kernel
theorem dX4_needThere_8 : decode cX4_needThere 8 = .ok (.ifCond .ne 14, 3) := by decide +kernel
theorem dX4_needThere_11 : decode cX4_needThere 11 = .ok (.new 58, 3) := by decide +kernel
theorem dX4_needThere_14 : decode cX4_needThere 14 = .ok (.dup, 1) := by decide +kernel
theorem dX4_needThere_15 : decode cX4_needThere 15 = .ok (.ldc_w 289, 3) := by decide +kernel
theorem dX4_needThere_18 : decode cX4_needThere 18 = .ok (.invokespecial 62, 3) := by decide +kernel
theorem dX4_needThere_21 : decode cX4_needThere 21 = .ok (.athrow, 1) := by decide +kernel
theorem dX4_needThere_22 : decode cX4_needThere 22 = .ok (.return_, 1) := by decide +kernel
set_option maxRecDepth 20000 in
theorem ggX4_actByKind_X4_meetsOther : GoodIn wsX4_actByKind wsX4_meetsOther := goodIn_r _ [8, 9, 1, 10, 11, 12, 13, 14, 15, 16, 17, 18, 19, 20, 21, 22, 23, 24, 25, 26, 27, 28, 29, 30, 31, 32, 33, 125, 126, 127, 128, 129, 143, 144, 145, 130, 131, 132, 133, 134, 135, 136, 137, 138, 139, 140, 141, 142] (by decide +kernel) (by decide +kernel)
set_option maxRecDepth 20000 in
theorem gX4_actByKind_X4_meetsOther : GoodIn wsX4_actByKind (wsV RX4 294 RX4 yX4_meetsOther wsX4_meetsOther) := goodIn_app (goodIn_of _ (by decide +kernel)) ggX4_actByKind_X4_meetsOther
set_option maxRecDepth 20000 in
theorem ggX4_actByKind_X4_close : GoodIn wsX4_actByKind wsX4_close := goodIn_r _ [37, 1, 3, 38, 39, 40, 41, 42, 43, 7, 44, 45, 46, 47, 48, 49, 50, 51, 52, 53, 54, 55, 125, 126, 127, 128, 129, 130, 131, 132, 133, 134, 135, 136, 137, 138, 139, 140, 141, 142, 146, 147, 148, 149, 150, 151, 152, 153] (by decide +kernel) (by decide +kernel)
set_option maxRecDepth 20000 in
theorem gX4_actByKind_X4_close : GoodIn wsX4_actByKind (wsV RX4 297 RX4 yX4_close wsX4_close) := goodIn_app (goodIn_of _ (by decide +kernel)) ggX4_actByKind_X4_close
set_option maxRecDepth 20000 in
theorem ggX4_actByKind_X4_rest : GoodIn wsX4_actByKind wsX4_rest := goodIn_r _ [59, 1, 3, 38, 2, 60, 61, 62, 63, 64, 39, 9, 65, 66, 67, 13, 68, 15, 16, 17, 25, 69, 26, 18, 19, 20, 125, 126, 127, 128, 129, 130, 131, 132, 133, 134, 135, 136, 137, 138, 139, 140, 141, 142, 143, 144, 145] (by decide +kernel) (by decide +kernel)
set_option maxRecDepth 20000 in
theorem gX4_actByKind_X4_rest : GoodIn wsX4_actByKind (wsV RX4 300 RX4 yX4_rest wsX4_rest) := goodIn_app (goodIn_of _ (by decide +kernel)) ggX4_actByKind_X4_rest
set_option maxRecDepth 20000 in
theorem ggX4_actByKind_X4_wouldTradeWholly : GoodIn wsX4_actByKind wsX4_wouldTradeWholly := goodIn_r _ [73, 9, 74, 1, 49, 45, 3, 38, 10, 11, 12, 13, 14, 15, 16, 17, 18, 19, 20, 21, 22, 23, 24, 25, 26, 27, 28, 29, 30, 31, 32, 33, 125, 126, 127, 128, 129, 143, 144, 145, 130, 131, 132, 133, 134, 135, 136, 137, 138, 139, 140, 141, 142] (by decide +kernel) (by decide +kernel)
set_option maxRecDepth 20000 in
theorem gX4_actByKind_X4_wouldTradeWholly : GoodIn wsX4_actByKind (wsV RX4 303 RX4 yX4_wouldTradeWholly wsX4_wouldTradeWholly) := goodIn_app (goodIn_of _ (by decide +kernel)) ggX4_actByKind_X4_wouldTradeWholly
set_option maxRecDepth 20000 in
theorem ggX4_actByKind_X4_tradeUntilStopped : GoodIn wsX4_actByKind wsX4_tradeUntilStopped := goodIn_r _ [78, 9, 1, 3, 45, 38, 61, 62, 63, 64, 10, 11, 12, 13, 14, 15, 16, 17, 18, 19, 20, 21, 22, 23, 24, 25, 26, 27, 28, 29, 30, 31, 32, 33, 79, 80, 81, 7, 82, 49, 51, 46, 47, 83, 41, 42, 43, 44, 48, 50, 52, 53, 54, 55, 84, 85, 86, 87, 88, 89, 90, 91, 92, 93, 94, 95, 96, 97, 98, 99, 100, 101, 102, 103, 104, 105, 106, 107, 108, 109, 110, 111, 112, 113, 114, 115, 116, 117, 118, 119, 120, 121, 122, 123, 124, 34, 35, 36, 37, 39, 40, 56, 57, 58, 59, 2, 60, 65, 66, 67, 68, 69, 125, 126, 127, 128, 129, 130, 131, 132, 133, 134, 135, 136, 137, 138, 139, 140, 141, 142, 143, 144, 145, 146, 147, 148, 149, 150, 151, 152, 153, 154, 155, 156, 157, 158, 159, 160, 161, 162] (by decide +kernel) (by decide +kernel)
set_option maxRecDepth 20000 in
theorem gX4_actByKind_X4_tradeUntilStopped : GoodIn wsX4_actByKind (wsV RX4 306 RX4 yX4_tradeUntilStopped wsX4_tradeUntilStopped) := goodIn_app (goodIn_of _ (by decide +kernel)) ggX4_actByKind_X4_tradeUntilStopped
theorem dX4_actByKind_0 : decode cX4_actByKind 0 = .ok (.aload_n 0, 1) := by decide +kernel
theorem dX4_actByKind_1 : decode cX4_actByKind 1 = .ok (.getfield 19, 3) := by decide +kernel
theorem dX4_actByKind_4 : decode cX4_actByKind 4 = .ok (.getfield 291, 3) := by decide +kernel
theorem dX4_actByKind_7 : decode cX4_actByKind 7 = .ok (.iload_n 1, 1) := by decide +kernel
theorem dX4_actByKind_8 : decode cX4_actByKind 8 = .ok (.iaload, 1) := by decide +kernel
theorem dX4_actByKind_9 : decode cX4_actByKind 9 = .ok (.istore_n 2, 1) := by decide +kernel
theorem dX4_actByKind_10 : decode cX4_actByKind 10 = .ok (.iload_n 2, 1) := by decide +kernel
theorem dX4_actByKind_11 : decode cX4_actByKind 11 = .ok (.iconst 5, 1) := by decide +kernel
theorem dX4_actByKind_12 : decode cX4_actByKind 12 = .ok (.if_icmp .ne 4, 3) := by decide +kernel
theorem dX4_actByKind_15 : decode cX4_actByKind 15 = .ok (.return_, 1) := by decide +kernel
theorem dX4_actByKind_16 : decode cX4_actByKind 16 = .ok (.iload_n 2, 1) := by decide +kernel
theorem dX4_actByKind_17 : decode cX4_actByKind 17 = .ok (.iconst 3, 1) := by decide +kernel
theorem dX4_actByKind_18 : decode cX4_actByKind 18 = .ok (.if_icmp .ne 26, 3) := by decide +kernel
theorem dX4_actByKind_21 : decode cX4_actByKind 21 = .ok (.aload_n 0, 1) := by decide +kernel
theorem dX4_actByKind_22 : decode cX4_actByKind 22 = .ok (.iload_n 1, 1) := by decide +kernel
theorem dX4_actByKind_23 : decode cX4_actByKind 23 = .ok (.invokevirtual 294, 3) := by decide +kernel
theorem dX4_actByKind_26 : decode cX4_actByKind 26 = .ok (.ifCond .eq 12, 3) := by decide +kernel
theorem dX4_actByKind_29 : decode cX4_actByKind 29 = .ok (.aload_n 0, 1) := by decide +kernel
theorem dX4_actByKind_30 : decode cX4_actByKind 30 = .ok (.iload_n 1, 1) := by decide +kernel
theorem dX4_actByKind_31 : decode cX4_actByKind 31 = .ok (.iconst 3, 1) := by decide +kernel
theorem dX4_actByKind_32 : decode cX4_actByKind 32 = .ok (.invokevirtual 297, 3) := by decide +kernel
theorem dX4_actByKind_35 : decode cX4_actByKind 35 = .ok (.goto 8, 3) := by decide +kernel
theorem dX4_actByKind_38 : decode cX4_actByKind 38 = .ok (.aload_n 0, 1) := by decide +kernel
theorem dX4_actByKind_39 : decode cX4_actByKind 39 = .ok (.iload_n 1, 1) := by decide +kernel
theorem dX4_actByKind_40 : decode cX4_actByKind 40 = .ok (.invokevirtual 300, 3) := by decide +kernel
theorem dX4_actByKind_43 : decode cX4_actByKind 43 = .ok (.return_, 1) := by decide +kernel
theorem dX4_actByKind_44 : decode cX4_actByKind 44 = .ok (.iload_n 2, 1) := by decide +kernel
theorem dX4_actByKind_45 : decode cX4_actByKind 45 = .ok (.iconst 2, 1) := by decide +kernel
theorem dX4_actByKind_46 : decode cX4_actByKind 46 = .ok (.if_icmp .ne 18, 3) := by decide +kernel
theorem dX4_actByKind_49 : decode cX4_actByKind 49 = .ok (.aload_n 0, 1) := by decide +kernel
theorem dX4_actByKind_50 : decode cX4_actByKind 50 = .ok (.iload_n 1, 1) := by decide +kernel
theorem dX4_actByKind_51 : decode cX4_actByKind 51 = .ok (.invokevirtual 303, 3) := by decide +kernel
theorem dX4_actByKind_54 : decode cX4_actByKind 54 = .ok (.ifCond .ne 10, 3) := by decide +kernel
theorem dX4_actByKind_57 : decode cX4_actByKind 57 = .ok (.aload_n 0, 1) := by decide +kernel
theorem dX4_actByKind_58 : decode cX4_actByKind 58 = .ok (.iload_n 1, 1) := by decide +kernel
theorem dX4_actByKind_59 : decode cX4_actByKind 59 = .ok (.iconst 3, 1) := by decide +kernel
theorem dX4_actByKind_60 : decode cX4_actByKind 60 = .ok (.invokevirtual 297, 3) := by decide +kernel
theorem dX4_actByKind_63 : decode cX4_actByKind 63 = .ok (.return_, 1) := by decide +kernel
theorem dX4_actByKind_64 : decode cX4_actByKind 64 = .ok (.aload_n 0, 1) := by decide +kernel
theorem dX4_actByKind_65 : decode cX4_actByKind 65 = .ok (.iload_n 1, 1) := by decide +kernel
theorem dX4_actByKind_66 : decode cX4_actByKind 66 = .ok (.invokevirtual 306, 3) := by decide +kernel
theorem dX4_actByKind_69 : decode cX4_actByKind 69 = .ok (.istore_n 3, 1) := by decide +kernel
theorem dX4_actByKind_70 : decode cX4_actByKind 70 = .ok (.aload_n 0, 1) := by decide +kernel
theorem dX4_actByKind_71 : decode cX4_actByKind 71 = .ok (.getfield 19, 3) := by decide +kernel
theorem dX4_actByKind_74 : decode cX4_actByKind 74 = .ok (.getfield 126, 3) := by decide +kernel
theorem dX4_actByKind_77 : decode cX4_actByKind 77 = .ok (.iload_n 1, 1) := by decide +kernel
theorem dX4_actByKind_78 : decode cX4_actByKind 78 = .ok (.iaload, 1) := by decide +kernel
theorem dX4_actByKind_79 : decode cX4_actByKind 79 = .ok (.ifCond .ne 12, 3) := by decide +kernel
theorem dX4_actByKind_82 : decode cX4_actByKind 82 = .ok (.aload_n 0, 1) := by decide +kernel
theorem dX4_actByKind_83 : decode cX4_actByKind 83 = .ok (.iload_n 1, 1) := by decide +kernel
theorem dX4_actByKind_84 : decode cX4_actByKind 84 = .ok (.iconst 2, 1) := by decide +kernel
theorem dX4_actByKind_85 : decode cX4_actByKind 85 = .ok (.invokevirtual 297, 3) := by decide +kernel
theorem dX4_actByKind_88 : decode cX4_actByKind 88 = .ok (.goto 26, 3) := by decide +kernel
theorem dX4_actByKind_91 : decode cX4_actByKind 91 = .ok (.iload_n 3, 1) := by decide +kernel
theorem dX4_actByKind_92 : decode cX4_actByKind 92 = .ok (.ifCond .ne 8, 3) := by decide +kernel
theorem dX4_actByKind_95 : decode cX4_actByKind 95 = .ok (.iload_n 2, 1) := by decide +kernel
theorem dX4_actByKind_96 : decode cX4_actByKind 96 = .ok (.iconst 1, 1) := by decide +kernel
theorem dX4_actByKind_97 : decode cX4_actByKind 97 = .ok (.if_icmp .ne 12, 3) := by decide +kernel
theorem dX4_actByKind_100 : decode cX4_actByKind 100 = .ok (.aload_n 0, 1) := by decide +kernel
theorem dX4_actByKind_101 : decode cX4_actByKind 101 = .ok (.iload_n 1, 1) := by decide +kernel
theorem dX4_actByKind_102 : decode cX4_actByKind 102 = .ok (.iconst 3, 1) := by decide +kernel
theorem dX4_actByKind_103 : decode cX4_actByKind 103 = .ok (.invokevirtual 297, 3) := by decide +kernel
theorem dX4_actByKind_106 : decode cX4_actByKind 106 = .ok (.goto 8, 3) := by decide +kernel
theorem dX4_actByKind_109 : decode cX4_actByKind 109 = .ok (.aload_n 0, 1) := by decide +kernel
theorem dX4_actByKind_110 : decode cX4_actByKind 110 = .ok (.iload_n 1, 1) := by decide +kernel
theorem dX4_actByKind_111 : decode cX4_actByKind 111 = .ok (.invokevirtual 300, 3) := by decide +kernel
theorem dX4_actByKind_114 : decode cX4_actByKind 114 = .ok (.return_, 1) := by decide +kernel
set_option maxRecDepth 20000 in
theorem ggX4_wakeStop_X2_isWokenBy : GoodIn wsX4_wakeStop wsX2_isWokenBy := goodIn_r _ [11, 12, 13, 14, 29, 30, 31, 32, 33, 34, 35, 36, 37, 38, 39, 40, 41] (by decide +kernel) (by decide +kernel)
set_option maxRecDepth 20000 in
theorem gX4_wakeStop_X2_isWokenBy : GoodIn wsX4_wakeStop (wsV RX4 309 RX2 yX2_isWokenBy wsX2_isWokenBy) := goodIn_app (goodIn_of _ (by decide +kernel)) ggX4_wakeStop_X2_isWokenBy
theorem dX4_wakeStop_0 : decode cX4_wakeStop 0 = .ok (.aload_n 0, 1) := by decide +kernel
theorem dX4_wakeStop_1 : decode cX4_wakeStop 1 = .ok (.getfield 35, 3) := by decide +kernel
theorem dX4_wakeStop_4 : decode cX4_wakeStop 4 = .ok (.getfield 255, 3) := by decide +kernel
theorem dX4_wakeStop_7 : decode cX4_wakeStop 7 = .ok (.iload_n 1, 1) := by decide +kernel
theorem dX4_wakeStop_8 : decode cX4_wakeStop 8 = .ok (.iaload, 1) := by decide +kernel
theorem dX4_wakeStop_9 : decode cX4_wakeStop 9 = .ok (.istore_n 2, 1) := by decide +kernel
theorem dX4_wakeStop_10 : decode cX4_wakeStop 10 = .ok (.iload_n 2, 1) := by decide +kernel
theorem dX4_wakeStop_11 : decode cX4_wakeStop 11 = .ok (.ifCond .ne 5, 3) := by decide +kernel
theorem dX4_wakeStop_14 : decode cX4_wakeStop 14 = .ok (.iconst (-1), 1) := by decide +kernel
theorem dX4_wakeStop_15 : decode cX4_wakeStop 15 = .ok (.ireturn, 1) := by decide +kernel
theorem dX4_wakeStop_16 : decode cX4_wakeStop 16 = .ok (.iconst 0, 1) := by decide +kernel
theorem dX4_wakeStop_17 : decode cX4_wakeStop 17 = .ok (.istore_n 3, 1) := by decide +kernel
theorem dX4_wakeStop_18 : decode cX4_wakeStop 18 = .ok (.iload_n 3, 1) := by decide +kernel
theorem dX4_wakeStop_19 : decode cX4_wakeStop 19 = .ok (.aload_n 0, 1) := by decide +kernel
theorem dX4_wakeStop_20 : decode cX4_wakeStop 20 = .ok (.getfield 19, 3) := by decide +kernel
theorem dX4_wakeStop_23 : decode cX4_wakeStop 23 = .ok (.getfield 100, 3) := by decide +kernel
theorem dX4_wakeStop_26 : decode cX4_wakeStop 26 = .ok (.if_icmp .ge 46, 3) := by decide +kernel
theorem dX4_wakeStop_29 : decode cX4_wakeStop 29 = .ok (.aload_n 0, 1) := by decide +kernel
theorem dX4_wakeStop_30 : decode cX4_wakeStop 30 = .ok (.getfield 19, 3) := by decide +kernel
theorem dX4_wakeStop_33 : decode cX4_wakeStop 33 = .ok (.getfield 211, 3) := by decide +kernel
end
section
theorem dX4_wakeStop_36 : decode cX4_wakeStop 36 = .ok (.iload_n 3, 1) := by decide +kernel
theorem dX4_wakeStop_37 : decode cX4_wakeStop 37 = .ok (.iaload, 1) := by decide +kernel
theorem dX4_wakeStop_38 : decode cX4_wakeStop 38 = .ok (.iload_n 1, 1) := by decide +kernel
theorem dX4_wakeStop_39 : decode cX4_wakeStop 39 = .ok (.if_icmp .ne 27, 3) := by decide +kernel
theorem dX4_wakeStop_42 : decode cX4_wakeStop 42 = .ok (.aload_n 0, 1) := by decide +kernel
theorem dX4_wakeStop_43 : decode cX4_wakeStop 43 = .ok (.getfield 19, 3) := by decide +kernel
theorem dX4_wakeStop_46 : decode cX4_wakeStop 46 = .ok (.iload_n 3, 1) := by decide +kernel
theorem dX4_wakeStop_47 : decode cX4_wakeStop 47 = .ok (.iload_n 2, 1) := by decide +kernel
theorem dX4_wakeStop_48 : decode cX4_wakeStop 48 = .ok (.invokevirtual 309, 3) := by decide +kernel
theorem dX4_wakeStop_51 : decode cX4_wakeStop 51 = .ok (.ifCond .eq 15, 3) := by decide +kernel
theorem dX4_wakeStop_54 : decode cX4_wakeStop 54 = .ok (.aload_n 0, 1) := by decide +kernel
theorem dX4_wakeStop_55 : decode cX4_wakeStop 55 = .ok (.getfield 19, 3) := by decide +kernel
theorem dX4_wakeStop_58 : decode cX4_wakeStop 58 = .ok (.getfield 291, 3) := by decide +kernel
theorem dX4_wakeStop_61 : decode cX4_wakeStop 61 = .ok (.iload_n 3, 1) := by decide +kernel
theorem dX4_wakeStop_62 : decode cX4_wakeStop 62 = .ok (.iconst 0, 1) := by decide +kernel
theorem dX4_wakeStop_63 : decode cX4_wakeStop 63 = .ok (.iastore, 1) := by decide +kernel
theorem dX4_wakeStop_64 : decode cX4_wakeStop 64 = .ok (.iload_n 3, 1) := by decide +kernel
theorem dX4_wakeStop_65 : decode cX4_wakeStop 65 = .ok (.ireturn, 1) := by decide +kernel
theorem dX4_wakeStop_66 : decode cX4_wakeStop 66 = .ok (.iinc 3 1, 3) := by decide +kernel
theorem dX4_wakeStop_69 : decode cX4_wakeStop 69 = .ok (.goto (-51), 3) := by decide +kernel
theorem dX4_wakeStop_72 : decode cX4_wakeStop 72 = .ok (.iconst (-1), 1) := by decide +kernel
theorem dX4_wakeStop_73 : decode cX4_wakeStop 73 = .ok (.ireturn, 1) := by decide +kernel
set_option maxRecDepth 20000 in
theorem ggX4_meetsOther_X0_facing : GoodIn wsX4_meetsOther wsX0_facing := goodIn_r _ [7, 8, 9, 10, 11, 12, 6, 13, 32, 33, 34, 35, 36, 37, 38, 39, 40, 41, 42, 43, 44, 45, 46, 47] (by decide +kernel) (by decide +kernel)
set_option maxRecDepth 20000 in
theorem gX4_meetsOther_X0_facing : GoodIn wsX4_meetsOther (wsV RX4 313 RX0 yX0_facing wsX0_facing) := goodIn_app (goodIn_of _ (by decide +kernel)) ggX4_meetsOther_X0_facing
set_option maxRecDepth 20000 in
theorem ggX4_meetsOther_X0_orderAt : GoodIn wsX4_meetsOther wsX0_orderAt := goodIn_r _ [17, 18, 19, 32, 33, 34] (by decide +kernel) (by decide +kernel)
set_option maxRecDepth 20000 in
theorem gX4_meetsOther_X0_orderAt : GoodIn wsX4_meetsOther (wsV RX4 161 RX0 yX0_orderAt wsX0_orderAt) := goodIn_app (goodIn_of _ (by decide +kernel)) ggX4_meetsOther_X0_orderAt
set_option maxRecDepth 20000 in
theorem ggX4_meetsOther_X2_pricesAllow : GoodIn wsX4_meetsOther wsX2_pricesAllow := goodIn_r _ [24, 25, 26, 35, 36, 37, 38, 39, 40, 41, 42, 43, 44, 45, 46, 47] (by decide +kernel) (by decide +kernel)
set_option maxRecDepth 20000 in
theorem gX4_meetsOther_X2_pricesAllow : GoodIn wsX4_meetsOther (wsV RX4 316 RX2 yX2_pricesAllow wsX2_pricesAllow) := goodIn_app (goodIn_of _ (by decide +kernel)) ggX4_meetsOther_X2_pricesAllow
theorem dX4_meetsOther_0 : decode cX4_meetsOther 0 = .ok (.aload_n 0, 1) := by decide +kernel
theorem dX4_meetsOther_1 : decode cX4_meetsOther 1 = .ok (.getfield 28, 3) := by decide +kernel
theorem dX4_meetsOther_4 : decode cX4_meetsOther 4 = .ok (.aload_n 0, 1) := by decide +kernel
theorem dX4_meetsOther_5 : decode cX4_meetsOther 5 = .ok (.getfield 28, 3) := by decide +kernel
theorem dX4_meetsOther_8 : decode cX4_meetsOther 8 = .ok (.iload_n 1, 1) := by decide +kernel
theorem dX4_meetsOther_9 : decode cX4_meetsOther 9 = .ok (.invokevirtual 313, 3) := by decide +kernel
theorem dX4_meetsOther_12 : decode cX4_meetsOther 12 = .ok (.iconst 0, 1) := by decide +kernel
theorem dX4_meetsOther_13 : decode cX4_meetsOther 13 = .ok (.invokevirtual 161, 3) := by decide +kernel
theorem dX4_meetsOther_16 : decode cX4_meetsOther 16 = .ok (.istore_n 2, 1) := by decide +kernel
theorem dX4_meetsOther_17 : decode cX4_meetsOther 17 = .ok (.iload_n 2, 1) := by decide +kernel
theorem dX4_meetsOther_18 : decode cX4_meetsOther 18 = .ok (.iconst (-1), 1) := by decide +kernel
theorem dX4_meetsOther_19 : decode cX4_meetsOther 19 = .ok (.if_icmp .eq 19, 3) := by decide +kernel
theorem dX4_meetsOther_22 : decode cX4_meetsOther 22 = .ok (.aload_n 0, 1) := by decide +kernel
theorem dX4_meetsOther_23 : decode cX4_meetsOther 23 = .ok (.getfield 19, 3) := by decide +kernel
theorem dX4_meetsOther_26 : decode cX4_meetsOther 26 = .ok (.iload_n 1, 1) := by decide +kernel
theorem dX4_meetsOther_27 : decode cX4_meetsOther 27 = .ok (.iload_n 2, 1) := by decide +kernel
theorem dX4_meetsOther_28 : decode cX4_meetsOther 28 = .ok (.invokevirtual 316, 3) := by decide +kernel
theorem dX4_meetsOther_31 : decode cX4_meetsOther 31 = .ok (.ifCond .eq 7, 3) := by decide +kernel
theorem dX4_meetsOther_34 : decode cX4_meetsOther 34 = .ok (.iconst 1, 1) := by decide +kernel
theorem dX4_meetsOther_35 : decode cX4_meetsOther 35 = .ok (.goto 4, 3) := by decide +kernel
theorem dX4_meetsOther_38 : decode cX4_meetsOther 38 = .ok (.iconst 0, 1) := by decide +kernel
theorem dX4_meetsOther_39 : decode cX4_meetsOther 39 = .ok (.ireturn, 1) := by decide +kernel
set_option maxRecDepth 20000 in
theorem ggX4_wouldTradeWholly_X0_facing : GoodIn wsX4_wouldTradeWholly wsX0_facing := goodIn_r _ [12, 13, 14, 15, 16, 17, 11, 18, 37, 38, 39, 40, 41, 42, 43, 44, 45, 46, 47, 48, 49, 50, 51, 52] (by decide +kernel) (by decide +kernel)
set_option maxRecDepth 20000 in
theorem gX4_wouldTradeWholly_X0_facing : GoodIn wsX4_wouldTradeWholly (wsV RX4 313 RX0 yX0_facing wsX0_facing) := goodIn_app (goodIn_of _ (by decide +kernel)) ggX4_wouldTradeWholly_X0_facing
set_option maxRecDepth 20000 in
theorem ggX4_wouldTradeWholly_X0_orderAt : GoodIn wsX4_wouldTradeWholly wsX0_orderAt := goodIn_r _ [22, 23, 24, 37, 38, 39] (by decide +kernel) (by decide +kernel)
set_option maxRecDepth 20000 in
theorem gX4_wouldTradeWholly_X0_orderAt : GoodIn wsX4_wouldTradeWholly (wsV RX4 161 RX0 yX0_orderAt wsX0_orderAt) := goodIn_app (goodIn_of _ (by decide +kernel)) ggX4_wouldTradeWholly_X0_orderAt
set_option maxRecDepth 20000 in
theorem ggX4_wouldTradeWholly_X2_pricesAllow : GoodIn wsX4_wouldTradeWholly wsX2_pricesAllow := goodIn_r _ [29, 30, 31, 40, 41, 42, 43, 44, 45, 46, 47, 48, 49, 50, 51, 52] (by decide +kernel) (by decide +kernel)
set_option maxRecDepth 20000 in
theorem gX4_wouldTradeWholly_X2_pricesAllow : GoodIn wsX4_wouldTradeWholly (wsV RX4 316 RX2 yX2_pricesAllow wsX2_pricesAllow) := goodIn_app (goodIn_of _ (by decide +kernel)) ggX4_wouldTradeWholly_X2_pricesAllow
theorem dX4_wouldTradeWholly_0 : decode cX4_wouldTradeWholly 0 = .ok (.aload_n 0, 1) := by decide +kernel
theorem dX4_wouldTradeWholly_1 : decode cX4_wouldTradeWholly 1 = .ok (.getfield 28, 3) := by decide +kernel
theorem dX4_wouldTradeWholly_4 : decode cX4_wouldTradeWholly 4 = .ok (.iload_n 1, 1) := by decide +kernel
theorem dX4_wouldTradeWholly_5 : decode cX4_wouldTradeWholly 5 = .ok (.invokevirtual 313, 3) := by decide +kernel
theorem dX4_wouldTradeWholly_8 : decode cX4_wouldTradeWholly 8 = .ok (.istore_n 2, 1) := by decide +kernel
theorem dX4_wouldTradeWholly_9 : decode cX4_wouldTradeWholly 9 = .ok (.iconst 0, 1) := by decide +kernel
theorem dX4_wouldTradeWholly_10 : decode cX4_wouldTradeWholly 10 = .ok (.istore_n 3, 1) := by decide +kernel
theorem dX4_wouldTradeWholly_11 : decode cX4_wouldTradeWholly 11 = .ok (.iconst 0, 1) := by decide +kernel
theorem dX4_wouldTradeWholly_12 : decode cX4_wouldTradeWholly 12 = .ok (.istore 4, 2) := by decide +kernel
theorem dX4_wouldTradeWholly_14 : decode cX4_wouldTradeWholly 14 = .ok (.iconst 0, 1) := by decide +kernel
theorem dX4_wouldTradeWholly_15 : decode cX4_wouldTradeWholly 15 = .ok (.istore 5, 2) := by decide +kernel
theorem dX4_wouldTradeWholly_17 : decode cX4_wouldTradeWholly 17 = .ok (.iconst 0, 1) := by decide +kernel
theorem dX4_wouldTradeWholly_18 : decode cX4_wouldTradeWholly 18 = .ok (.istore 6, 2) := by decide +kernel
theorem dX4_wouldTradeWholly_20 : decode cX4_wouldTradeWholly 20 = .ok (.iconst 0, 1) := by decide +kernel
theorem dX4_wouldTradeWholly_21 : decode cX4_wouldTradeWholly 21 = .ok (.istore 7, 2) := by decide +kernel
theorem dX4_wouldTradeWholly_23 : decode cX4_wouldTradeWholly 23 = .ok (.iload 7, 2) := by decide +kernel
theorem dX4_wouldTradeWholly_25 : decode cX4_wouldTradeWholly 25 = .ok (.aload_n 0, 1) := by decide +kernel
theorem dX4_wouldTradeWholly_26 : decode cX4_wouldTradeWholly 26 = .ok (.getfield 28, 3) := by decide +kernel
theorem dX4_wouldTradeWholly_29 : decode cX4_wouldTradeWholly 29 = .ok (.getfield 319, 3) := by decide +kernel
theorem dX4_wouldTradeWholly_32 : decode cX4_wouldTradeWholly 32 = .ok (.iload_n 2, 1) := by decide +kernel
theorem dX4_wouldTradeWholly_33 : decode cX4_wouldTradeWholly 33 = .ok (.iaload, 1) := by decide +kernel
theorem dX4_wouldTradeWholly_34 : decode cX4_wouldTradeWholly 34 = .ok (.if_icmp .ge 155, 3) := by decide +kernel
theorem dX4_wouldTradeWholly_37 : decode cX4_wouldTradeWholly 37 = .ok (.aload_n 0, 1) := by decide +kernel
theorem dX4_wouldTradeWholly_38 : decode cX4_wouldTradeWholly 38 = .ok (.getfield 28, 3) := by decide +kernel
theorem dX4_wouldTradeWholly_41 : decode cX4_wouldTradeWholly 41 = .ok (.iload_n 2, 1) := by decide +kernel
theorem dX4_wouldTradeWholly_42 : decode cX4_wouldTradeWholly 42 = .ok (.iload 7, 2) := by decide +kernel
theorem dX4_wouldTradeWholly_44 : decode cX4_wouldTradeWholly 44 = .ok (.invokevirtual 161, 3) := by decide +kernel
theorem dX4_wouldTradeWholly_47 : decode cX4_wouldTradeWholly 47 = .ok (.istore 8, 2) := by decide +kernel
theorem dX4_wouldTradeWholly_49 : decode cX4_wouldTradeWholly 49 = .ok (.iload 8, 2) := by decide +kernel
theorem dX4_wouldTradeWholly_51 : decode cX4_wouldTradeWholly 51 = .ok (.iconst (-1), 1) := by decide +kernel
theorem dX4_wouldTradeWholly_52 : decode cX4_wouldTradeWholly 52 = .ok (.if_icmp .eq 137, 3) := by decide +kernel
theorem dX4_wouldTradeWholly_55 : decode cX4_wouldTradeWholly 55 = .ok (.aload_n 0, 1) := by decide +kernel
theorem dX4_wouldTradeWholly_56 : decode cX4_wouldTradeWholly 56 = .ok (.getfield 19, 3) := by decide +kernel
theorem dX4_wouldTradeWholly_59 : decode cX4_wouldTradeWholly 59 = .ok (.iload_n 1, 1) := by decide +kernel
theorem dX4_wouldTradeWholly_60 : decode cX4_wouldTradeWholly 60 = .ok (.iload 8, 2) := by decide +kernel
theorem dX4_wouldTradeWholly_62 : decode cX4_wouldTradeWholly 62 = .ok (.invokevirtual 316, 3) := by decide +kernel
theorem dX4_wouldTradeWholly_65 : decode cX4_wouldTradeWholly 65 = .ok (.ifCond .ne 6, 3) := by decide +kernel
theorem dX4_wouldTradeWholly_68 : decode cX4_wouldTradeWholly 68 = .ok (.goto 121, 3) := by decide +kernel
theorem dX4_wouldTradeWholly_71 : decode cX4_wouldTradeWholly 71 = .ok (.aload_n 0, 1) := by decide +kernel
theorem dX4_wouldTradeWholly_72 : decode cX4_wouldTradeWholly 72 = .ok (.getfield 19, 3) := by decide +kernel
theorem dX4_wouldTradeWholly_75 : decode cX4_wouldTradeWholly 75 = .ok (.getfield 169, 3) := by decide +kernel
theorem dX4_wouldTradeWholly_78 : decode cX4_wouldTradeWholly 78 = .ok (.iload 8, 2) := by decide +kernel
theorem dX4_wouldTradeWholly_80 : decode cX4_wouldTradeWholly 80 = .ok (.iaload, 1) := by decide +kernel
theorem dX4_wouldTradeWholly_81 : decode cX4_wouldTradeWholly 81 = .ok (.iload 6, 2) := by decide +kernel
theorem dX4_wouldTradeWholly_83 : decode cX4_wouldTradeWholly 83 = .ok (.if_icmp .eq 26, 3) := by decide +kernel
theorem dX4_wouldTradeWholly_86 : decode cX4_wouldTradeWholly 86 = .ok (.iload_n 3, 1) := by decide +kernel
theorem dX4_wouldTradeWholly_87 : decode cX4_wouldTradeWholly 87 = .ok (.iload 4, 2) := by decide +kernel
theorem dX4_wouldTradeWholly_89 : decode cX4_wouldTradeWholly 89 = .ok (.iadd, 1) := by decide +kernel
theorem dX4_wouldTradeWholly_90 : decode cX4_wouldTradeWholly 90 = .ok (.istore_n 3, 1) := by decide +kernel
theorem dX4_wouldTradeWholly_91 : decode cX4_wouldTradeWholly 91 = .ok (.iconst 0, 1) := by decide +kernel
theorem dX4_wouldTradeWholly_92 : decode cX4_wouldTradeWholly 92 = .ok (.istore 4, 2) := by decide +kernel
theorem dX4_wouldTradeWholly_94 : decode cX4_wouldTradeWholly 94 = .ok (.iconst 0, 1) := by decide +kernel
theorem dX4_wouldTradeWholly_95 : decode cX4_wouldTradeWholly 95 = .ok (.istore 5, 2) := by decide +kernel
theorem dX4_wouldTradeWholly_97 : decode cX4_wouldTradeWholly 97 = .ok (.aload_n 0, 1) := by decide +kernel
theorem dX4_wouldTradeWholly_98 : decode cX4_wouldTradeWholly 98 = .ok (.getfield 19, 3) := by decide +kernel
theorem dX4_wouldTradeWholly_101 : decode cX4_wouldTradeWholly 101 = .ok (.getfield 169, 3) := by decide +kernel
theorem dX4_wouldTradeWholly_104 : decode cX4_wouldTradeWholly 104 = .ok (.iload 8, 2) := by decide +kernel
theorem dX4_wouldTradeWholly_106 : decode cX4_wouldTradeWholly 106 = .ok (.iaload, 1) := by decide +kernel
theorem dX4_wouldTradeWholly_107 : decode cX4_wouldTradeWholly 107 = .ok (.istore 6, 2) := by decide +kernel
theorem dX4_wouldTradeWholly_109 : decode cX4_wouldTradeWholly 109 = .ok (.aload_n 0, 1) := by decide +kernel
theorem dX4_wouldTradeWholly_110 : decode cX4_wouldTradeWholly 110 = .ok (.getfield 19, 3) := by decide +kernel
theorem dX4_wouldTradeWholly_113 : decode cX4_wouldTradeWholly 113 = .ok (.getfield 198, 3) := by decide +kernel
theorem dX4_wouldTradeWholly_116 : decode cX4_wouldTradeWholly 116 = .ok (.iload 8, 2) := by decide +kernel
theorem dX4_wouldTradeWholly_118 : decode cX4_wouldTradeWholly 118 = .ok (.iaload, 1) := by decide +kernel
theorem dX4_wouldTradeWholly_119 : decode cX4_wouldTradeWholly 119 = .ok (.aload_n 0, 1) := by decide +kernel
theorem dX4_wouldTradeWholly_120 : decode cX4_wouldTradeWholly 120 = .ok (.getfield 19, 3) := by decide +kernel
theorem dX4_wouldTradeWholly_123 : decode cX4_wouldTradeWholly 123 = .ok (.getfield 198, 3) := by decide +kernel
theorem dX4_wouldTradeWholly_126 : decode cX4_wouldTradeWholly 126 = .ok (.iload_n 1, 1) := by decide +kernel
theorem dX4_wouldTradeWholly_127 : decode cX4_wouldTradeWholly 127 = .ok (.iaload, 1) := by decide +kernel
theorem dX4_wouldTradeWholly_128 : decode cX4_wouldTradeWholly 128 = .ok (.if_icmp .ne 25, 3) := by decide +kernel
theorem dX4_wouldTradeWholly_131 : decode cX4_wouldTradeWholly 131 = .ok (.iload_n 3, 1) := by decide +kernel
theorem dX4_wouldTradeWholly_132 : decode cX4_wouldTradeWholly 132 = .ok (.iload 5, 2) := by decide +kernel
theorem dX4_wouldTradeWholly_134 : decode cX4_wouldTradeWholly 134 = .ok (.iadd, 1) := by decide +kernel
theorem dX4_wouldTradeWholly_135 : decode cX4_wouldTradeWholly 135 = .ok (.aload_n 0, 1) := by decide +kernel
theorem dX4_wouldTradeWholly_136 : decode cX4_wouldTradeWholly 136 = .ok (.getfield 19, 3) := by decide +kernel
theorem dX4_wouldTradeWholly_139 : decode cX4_wouldTradeWholly 139 = .ok (.getfield 126, 3) := by decide +kernel
theorem dX4_wouldTradeWholly_142 : decode cX4_wouldTradeWholly 142 = .ok (.iload_n 1, 1) := by decide +kernel
theorem dX4_wouldTradeWholly_143 : decode cX4_wouldTradeWholly 143 = .ok (.iaload, 1) := by decide +kernel
theorem dX4_wouldTradeWholly_144 : decode cX4_wouldTradeWholly 144 = .ok (.if_icmp .lt 7, 3) := by decide +kernel
theorem dX4_wouldTradeWholly_147 : decode cX4_wouldTradeWholly 147 = .ok (.iconst 1, 1) := by decide +kernel
theorem dX4_wouldTradeWholly_148 : decode cX4_wouldTradeWholly 148 = .ok (.goto 4, 3) := by decide +kernel
theorem dX4_wouldTradeWholly_151 : decode cX4_wouldTradeWholly 151 = .ok (.iconst 0, 1) := by decide +kernel
theorem dX4_wouldTradeWholly_152 : decode cX4_wouldTradeWholly 152 = .ok (.ireturn, 1) := by decide +kernel
theorem dX4_wouldTradeWholly_153 : decode cX4_wouldTradeWholly 153 = .ok (.iload 4, 2) := by decide +kernel
theorem dX4_wouldTradeWholly_155 : decode cX4_wouldTradeWholly 155 = .ok (.aload_n 0, 1) := by decide +kernel
theorem dX4_wouldTradeWholly_156 : decode cX4_wouldTradeWholly 156 = .ok (.getfield 19, 3) := by decide +kernel
theorem dX4_wouldTradeWholly_159 : decode cX4_wouldTradeWholly 159 = .ok (.getfield 126, 3) := by decide +kernel
theorem dX4_wouldTradeWholly_162 : decode cX4_wouldTradeWholly 162 = .ok (.iload 8, 2) := by decide +kernel
theorem dX4_wouldTradeWholly_164 : decode cX4_wouldTradeWholly 164 = .ok (.iaload, 1) := by decide +kernel
theorem dX4_wouldTradeWholly_165 : decode cX4_wouldTradeWholly 165 = .ok (.iadd, 1) := by decide +kernel
theorem dX4_wouldTradeWholly_166 : decode cX4_wouldTradeWholly 166 = .ok (.istore 4, 2) := by decide +kernel
theorem dX4_wouldTradeWholly_168 : decode cX4_wouldTradeWholly 168 = .ok (.iload 5, 2) := by decide +kernel
theorem dX4_wouldTradeWholly_170 : decode cX4_wouldTradeWholly 170 = .ok (.aload_n 0, 1) := by decide +kernel
theorem dX4_wouldTradeWholly_171 : decode cX4_wouldTradeWholly 171 = .ok (.getfield 19, 3) := by decide +kernel
theorem dX4_wouldTradeWholly_174 : decode cX4_wouldTradeWholly 174 = .ok (.getfield 139, 3) := by decide +kernel
theorem dX4_wouldTradeWholly_177 : decode cX4_wouldTradeWholly 177 = .ok (.iload 8, 2) := by decide +kernel
theorem dX4_wouldTradeWholly_179 : decode cX4_wouldTradeWholly 179 = .ok (.iaload, 1) := by decide +kernel
theorem dX4_wouldTradeWholly_180 : decode cX4_wouldTradeWholly 180 = .ok (.iadd, 1) := by decide +kernel
theorem dX4_wouldTradeWholly_181 : decode cX4_wouldTradeWholly 181 = .ok (.istore 5, 2) := by decide +kernel
theorem dX4_wouldTradeWholly_183 : decode cX4_wouldTradeWholly 183 = .ok (.iinc 7 1, 3) := by decide +kernel
theorem dX4_wouldTradeWholly_186 : decode cX4_wouldTradeWholly 186 = .ok (.goto (-163), 3) := by decide +kernel
theorem dX4_wouldTradeWholly_189 : decode cX4_wouldTradeWholly 189 = .ok (.iload_n 3, 1) := by decide +kernel
theorem dX4_wouldTradeWholly_190 : decode cX4_wouldTradeWholly 190 = .ok (.iload 4, 2) := by decide +kernel
theorem dX4_wouldTradeWholly_192 : decode cX4_wouldTradeWholly 192 = .ok (.iadd, 1) := by decide +kernel
theorem dX4_wouldTradeWholly_193 : decode cX4_wouldTradeWholly 193 = .ok (.aload_n 0, 1) := by decide +kernel
theorem dX4_wouldTradeWholly_194 : decode cX4_wouldTradeWholly 194 = .ok (.getfield 19, 3) := by decide +kernel
theorem dX4_wouldTradeWholly_197 : decode cX4_wouldTradeWholly 197 = .ok (.getfield 126, 3) := by decide +kernel
theorem dX4_wouldTradeWholly_200 : decode cX4_wouldTradeWholly 200 = .ok (.iload_n 1, 1) := by decide +kernel
theorem dX4_wouldTradeWholly_201 : decode cX4_wouldTradeWholly 201 = .ok (.iaload, 1) := by decide +kernel
theorem dX4_wouldTradeWholly_202 : decode cX4_wouldTradeWholly 202 = .ok (.if_icmp .lt 7, 3) := by decide +kernel
theorem dX4_wouldTradeWholly_205 : decode cX4_wouldTradeWholly 205 = .ok (.iconst 1, 1) := by decide +kernel
theorem dX4_wouldTradeWholly_206 : decode cX4_wouldTradeWholly 206 = .ok (.goto 4, 3) := by decide +kernel
theorem dX4_wouldTradeWholly_209 : decode cX4_wouldTradeWholly 209 = .ok (.iconst 0, 1) := by decide +kernel
theorem dX4_wouldTradeWholly_210 : decode cX4_wouldTradeWholly 210 = .ok (.ireturn, 1) := by decide +kernel
set_option maxRecDepth 20000 in
theorem ggX4_tradeUntilStopped_X0_facing : GoodIn wsX4_tradeUntilStopped wsX0_facing := goodIn_r _ [14, 15, 16, 17, 18, 19, 13, 20, 130, 131, 132, 117, 118, 119, 120, 121, 122, 123, 124, 125, 126, 127, 128, 129] (by decide +kernel) (by decide +kernel)
set_option maxRecDepth 20000 in
theorem gX4_tradeUntilStopped_X0_facing : GoodIn wsX4_tradeUntilStopped (wsV RX4 313 RX0 yX0_facing wsX0_facing) := goodIn_app (goodIn_of _ (by decide +kernel)) ggX4_tradeUntilStopped_X0_facing
set_option maxRecDepth 20000 in
theorem ggX4_tradeUntilStopped_X0_orderAt : GoodIn wsX4_tradeUntilStopped wsX0_orderAt := goodIn_r _ [24, 25, 26, 130, 131, 132] (by decide +kernel) (by decide +kernel)
set_option maxRecDepth 20000 in
theorem gX4_tradeUntilStopped_X0_orderAt : GoodIn wsX4_tradeUntilStopped (wsV RX4 161 RX0 yX0_orderAt wsX0_orderAt) := goodIn_app (goodIn_of _ (by decide +kernel)) ggX4_tradeUntilStopped_X0_orderAt
set_option maxRecDepth 20000 in
theorem ggX4_tradeUntilStopped_X2_pricesAllow : GoodIn wsX4_tradeUntilStopped wsX2_pricesAllow := goodIn_r _ [31, 32, 33, 117, 118, 119, 120, 121, 122, 123, 124, 125, 126, 127, 128, 129] (by decide +kernel) (by decide +kernel)
set_option maxRecDepth 20000 in
theorem gX4_tradeUntilStopped_X2_pricesAllow : GoodIn wsX4_tradeUntilStopped (wsV RX4 316 RX2 yX2_pricesAllow wsX2_pricesAllow) := goodIn_app (goodIn_of _ (by decide +kernel)) ggX4_tradeUntilStopped_X2_pricesAllow
set_option maxRecDepth 20000 in
theorem ggX4_tradeUntilStopped_X4_makeTrade : GoodIn wsX4_tradeUntilStopped wsX4_makeTrade := goodIn_r _ [38, 2, 39, 40, 41, 4, 42, 43, 44, 45, 46, 37, 47, 48, 49, 50, 51, 52, 53, 54, 55, 56, 57, 58, 59, 60, 61, 62, 63, 64, 65, 30, 66, 67, 68, 69, 70, 71, 72, 73, 74, 75, 76, 77, 78, 79, 80, 81, 7, 8, 9, 82, 83, 84, 85, 86, 112, 113, 114, 115, 116, 117, 118, 119, 120, 121, 122, 123, 124, 125, 126, 127, 128, 129, 133, 134, 135, 136, 137, 138, 139, 140, 141, 142, 143, 144, 145, 146, 147, 148, 149] (by decide +kernel) (by decide +kernel)
set_option maxRecDepth 20000 in
theorem gX4_tradeUntilStopped_X4_makeTrade : GoodIn wsX4_tradeUntilStopped (wsV RX4 322 RX4 yX4_makeTrade wsX4_makeTrade) := goodIn_app (goodIn_of _ (by decide +kernel)) ggX4_tradeUntilStopped_X4_makeTrade
set_option maxRecDepth 20000 in
theorem ggX4_tradeUntilStopped_X4_showLess : GoodIn wsX4_tradeUntilStopped wsX4_showLess := goodIn_r _ [90, 2, 5, 1, 3, 91, 92, 93, 13, 94, 15, 16, 17, 25, 26, 18, 19, 20, 95, 96, 97, 37, 98, 99, 100, 44, 45, 46, 47, 4, 41, 42, 48, 39, 49, 40, 50, 51, 52, 53, 101, 102, 103, 104, 105, 106, 6, 7, 8, 9, 107, 108, 109, 110, 111, 112, 113, 114, 115, 116, 117, 118, 119, 120, 121, 122, 123, 124, 125, 126, 127, 128, 129, 130, 131, 132, 133, 134, 135, 136, 137, 138, 139, 140] (by decide +kernel) (by decide +kernel)
set_option maxRecDepth 20000 in
theorem gX4_tradeUntilStopped_X4_showLess : GoodIn wsX4_tradeUntilStopped (wsV RX4 325 RX4 yX4_showLess wsX4_showLess) := goodIn_app (goodIn_of _ (by decide +kernel)) ggX4_tradeUntilStopped_X4_showLess
theorem dX4_tradeUntilStopped_0 : decode cX4_tradeUntilStopped 0 = .ok (.aload_n 0, 1) := by decide +kernel
theorem dX4_tradeUntilStopped_1 : decode cX4_tradeUntilStopped 1 = .ok (.getfield 28, 3) := by decide +kernel
theorem dX4_tradeUntilStopped_4 : decode cX4_tradeUntilStopped 4 = .ok (.iload_n 1, 1) := by decide +kernel
theorem dX4_tradeUntilStopped_5 : decode cX4_tradeUntilStopped 5 = .ok (.invokevirtual 313, 3) := by decide +kernel
theorem dX4_tradeUntilStopped_8 : decode cX4_tradeUntilStopped 8 = .ok (.istore_n 2, 1) := by decide +kernel
theorem dX4_tradeUntilStopped_9 : decode cX4_tradeUntilStopped 9 = .ok (.iconst 0, 1) := by decide +kernel
theorem dX4_tradeUntilStopped_10 : decode cX4_tradeUntilStopped 10 = .ok (.istore_n 3, 1) := by decide +kernel
theorem dX4_tradeUntilStopped_11 : decode cX4_tradeUntilStopped 11 = .ok (.iload_n 3, 1) := by decide +kernel
theorem dX4_tradeUntilStopped_12 : decode cX4_tradeUntilStopped 12 = .ok (.sipush 10000, 3) := by decide +kernel
theorem dX4_tradeUntilStopped_15 : decode cX4_tradeUntilStopped 15 = .ok (.if_icmp .ge 118, 3) := by decide +kernel
theorem dX4_tradeUntilStopped_18 : decode cX4_tradeUntilStopped 18 = .ok (.aload_n 0, 1) := by decide +kernel
theorem dX4_tradeUntilStopped_19 : decode cX4_tradeUntilStopped 19 = .ok (.getfield 19, 3) := by decide +kernel
theorem dX4_tradeUntilStopped_22 : decode cX4_tradeUntilStopped 22 = .ok (.getfield 126, 3) := by decide +kernel
theorem dX4_tradeUntilStopped_25 : decode cX4_tradeUntilStopped 25 = .ok (.iload_n 1, 1) := by decide +kernel
theorem dX4_tradeUntilStopped_26 : decode cX4_tradeUntilStopped 26 = .ok (.iaload, 1) := by decide +kernel
theorem dX4_tradeUntilStopped_27 : decode cX4_tradeUntilStopped 27 = .ok (.ifCond .le 106, 3) := by decide +kernel
theorem dX4_tradeUntilStopped_30 : decode cX4_tradeUntilStopped 30 = .ok (.aload_n 0, 1) := by decide +kernel
theorem dX4_tradeUntilStopped_31 : decode cX4_tradeUntilStopped 31 = .ok (.getfield 28, 3) := by decide +kernel
theorem dX4_tradeUntilStopped_34 : decode cX4_tradeUntilStopped 34 = .ok (.iload_n 2, 1) := by decide +kernel
theorem dX4_tradeUntilStopped_35 : decode cX4_tradeUntilStopped 35 = .ok (.iconst 0, 1) := by decide +kernel
theorem dX4_tradeUntilStopped_36 : decode cX4_tradeUntilStopped 36 = .ok (.invokevirtual 161, 3) := by decide +kernel
theorem dX4_tradeUntilStopped_39 : decode cX4_tradeUntilStopped 39 = .ok (.istore 4, 2) := by decide +kernel
theorem dX4_tradeUntilStopped_41 : decode cX4_tradeUntilStopped 41 = .ok (.iload 4, 2) := by decide +kernel
theorem dX4_tradeUntilStopped_43 : decode cX4_tradeUntilStopped 43 = .ok (.iconst (-1), 1) := by decide +kernel
theorem dX4_tradeUntilStopped_44 : decode cX4_tradeUntilStopped 44 = .ok (.if_icmp .eq 16, 3) := by decide +kernel
theorem dX4_tradeUntilStopped_47 : decode cX4_tradeUntilStopped 47 = .ok (.aload_n 0, 1) := by decide +kernel
theorem dX4_tradeUntilStopped_48 : decode cX4_tradeUntilStopped 48 = .ok (.getfield 19, 3) := by decide +kernel
theorem dX4_tradeUntilStopped_51 : decode cX4_tradeUntilStopped 51 = .ok (.iload_n 1, 1) := by decide +kernel
theorem dX4_tradeUntilStopped_52 : decode cX4_tradeUntilStopped 52 = .ok (.iload 4, 2) := by decide +kernel
theorem dX4_tradeUntilStopped_54 : decode cX4_tradeUntilStopped 54 = .ok (.invokevirtual 316, 3) := by decide +kernel
theorem dX4_tradeUntilStopped_57 : decode cX4_tradeUntilStopped 57 = .ok (.ifCond .ne 5, 3) := by decide +kernel
theorem dX4_tradeUntilStopped_60 : decode cX4_tradeUntilStopped 60 = .ok (.iconst 0, 1) := by decide +kernel
theorem dX4_tradeUntilStopped_61 : decode cX4_tradeUntilStopped 61 = .ok (.ireturn, 1) := by decide +kernel
theorem dX4_tradeUntilStopped_62 : decode cX4_tradeUntilStopped 62 = .ok (.aload_n 0, 1) := by decide +kernel
theorem dX4_tradeUntilStopped_63 : decode cX4_tradeUntilStopped 63 = .ok (.getfield 19, 3) := by decide +kernel
theorem dX4_tradeUntilStopped_66 : decode cX4_tradeUntilStopped 66 = .ok (.getfield 198, 3) := by decide +kernel
theorem dX4_tradeUntilStopped_69 : decode cX4_tradeUntilStopped 69 = .ok (.iload 4, 2) := by decide +kernel
theorem dX4_tradeUntilStopped_71 : decode cX4_tradeUntilStopped 71 = .ok (.iaload, 1) := by decide +kernel
theorem dX4_tradeUntilStopped_72 : decode cX4_tradeUntilStopped 72 = .ok (.aload_n 0, 1) := by decide +kernel
theorem dX4_tradeUntilStopped_73 : decode cX4_tradeUntilStopped 73 = .ok (.getfield 19, 3) := by decide +kernel
theorem dX4_tradeUntilStopped_76 : decode cX4_tradeUntilStopped 76 = .ok (.getfield 198, 3) := by decide +kernel
theorem dX4_tradeUntilStopped_79 : decode cX4_tradeUntilStopped 79 = .ok (.iload_n 1, 1) := by decide +kernel
theorem dX4_tradeUntilStopped_80 : decode cX4_tradeUntilStopped 80 = .ok (.iaload, 1) := by decide +kernel
theorem dX4_tradeUntilStopped_81 : decode cX4_tradeUntilStopped 81 = .ok (.if_icmp .ne 5, 3) := by decide +kernel
theorem dX4_tradeUntilStopped_84 : decode cX4_tradeUntilStopped 84 = .ok (.iconst 1, 1) := by decide +kernel
theorem dX4_tradeUntilStopped_85 : decode cX4_tradeUntilStopped 85 = .ok (.ireturn, 1) := by decide +kernel
theorem dX4_tradeUntilStopped_86 : decode cX4_tradeUntilStopped 86 = .ok (.aload_n 0, 1) := by decide +kernel
theorem dX4_tradeUntilStopped_87 : decode cX4_tradeUntilStopped 87 = .ok (.getfield 19, 3) := by decide +kernel
theorem dX4_tradeUntilStopped_90 : decode cX4_tradeUntilStopped 90 = .ok (.getfield 126, 3) := by decide +kernel
theorem dX4_tradeUntilStopped_93 : decode cX4_tradeUntilStopped 93 = .ok (.iload_n 1, 1) := by decide +kernel
theorem dX4_tradeUntilStopped_94 : decode cX4_tradeUntilStopped 94 = .ok (.iaload, 1) := by decide +kernel
theorem dX4_tradeUntilStopped_95 : decode cX4_tradeUntilStopped 95 = .ok (.aload_n 0, 1) := by decide +kernel
theorem dX4_tradeUntilStopped_96 : decode cX4_tradeUntilStopped 96 = .ok (.getfield 19, 3) := by decide +kernel
theorem dX4_tradeUntilStopped_99 : decode cX4_tradeUntilStopped 99 = .ok (.getfield 139, 3) := by decide +kernel
theorem dX4_tradeUntilStopped_102 : decode cX4_tradeUntilStopped 102 = .ok (.iload 4, 2) := by decide +kernel
theorem dX4_tradeUntilStopped_104 : decode cX4_tradeUntilStopped 104 = .ok (.iaload, 1) := by decide +kernel
theorem dX4_tradeUntilStopped_105 : decode cX4_tradeUntilStopped 105 = .ok (.invokestatic 142, 3) := by decide +kernel
theorem dX4_tradeUntilStopped_108 : decode cX4_tradeUntilStopped 108 = .ok (.istore 5, 2) := by decide +kernel
theorem dX4_tradeUntilStopped_110 : decode cX4_tradeUntilStopped 110 = .ok (.aload_n 0, 1) := by decide +kernel
theorem dX4_tradeUntilStopped_111 : decode cX4_tradeUntilStopped 111 = .ok (.iload_n 1, 1) := by decide +kernel
theorem dX4_tradeUntilStopped_112 : decode cX4_tradeUntilStopped 112 = .ok (.iload 4, 2) := by decide +kernel
theorem dX4_tradeUntilStopped_114 : decode cX4_tradeUntilStopped 114 = .ok (.iload 5, 2) := by decide +kernel
theorem dX4_tradeUntilStopped_116 : decode cX4_tradeUntilStopped 116 = .ok (.invokevirtual 322, 3) := by decide +kernel
theorem dX4_tradeUntilStopped_119 : decode cX4_tradeUntilStopped 119 = .ok (.aload_n 0, 1) := by decide +kernel
theorem dX4_tradeUntilStopped_120 : decode cX4_tradeUntilStopped 120 = .ok (.iload 4, 2) := by decide +kernel
theorem dX4_tradeUntilStopped_122 : decode cX4_tradeUntilStopped 122 = .ok (.iload 5, 2) := by decide +kernel
theorem dX4_tradeUntilStopped_124 : decode cX4_tradeUntilStopped 124 = .ok (.invokevirtual 325, 3) := by decide +kernel
theorem dX4_tradeUntilStopped_127 : decode cX4_tradeUntilStopped 127 = .ok (.iinc 3 1, 3) := by decide +kernel
theorem dX4_tradeUntilStopped_130 : decode cX4_tradeUntilStopped 130 = .ok (.goto (-119), 3) := by decide +kernel
theorem dX4_tradeUntilStopped_133 : decode cX4_tradeUntilStopped 133 = .ok (.iconst 0, 1) := by decide +kernel
theorem dX4_tradeUntilStopped_134 : decode cX4_tradeUntilStopped 134 = .ok (.ireturn, 1) := by decide +kernel
set_option maxRecDepth 20000 in
theorem ggX4_makeTrade_X4_hold : GoodIn wsX4_makeTrade wsX4_hold := goodIn_r _ [12, 1, 5, 4, 6, 13, 2, 14, 3, 15, 16, 17, 18, 56, 57, 58, 59, 60, 61, 62, 63, 64, 65, 66, 67, 68, 69, 70, 71, 72, 73, 74, 75, 76, 77, 78, 79, 80, 81] (by decide +kernel) (by decide +kernel)
set_option maxRecDepth 20000 in
theorem gX4_makeTrade_X4_hold : GoodIn wsX4_makeTrade (wsV RX4 109 RX4 yX4_hold wsX4_hold) := goodIn_app (goodIn_of _ (by decide +kernel)) ggX4_makeTrade_X4_hold
set_option maxRecDepth 20000 in
theorem ggX4_makeTrade_X1_handOver : GoodIn wsX4_makeTrade wsX1_handOver := goodIn_r _ [22, 23, 24, 25, 26, 27, 16, 17, 18, 74, 75, 76, 77, 78, 79, 80, 81] (by decide +kernel) (by decide +kernel)
set_option maxRecDepth 20000 in
theorem gX4_makeTrade_X1_handOver : GoodIn wsX4_makeTrade (wsV RX4 328 RX1 yX1_handOver wsX1_handOver) := goodIn_app (goodIn_of _ (by decide +kernel)) ggX4_makeTrade_X1_handOver
set_option maxRecDepth 20000 in
theorem ggX4_makeTrade_X2_fill : GoodIn wsX4_makeTrade wsX2_fill := goodIn_r _ [32, 33, 34, 61, 62, 63, 64, 65, 66, 67, 68, 69, 70, 71, 72, 73] (by decide +kernel) (by decide +kernel)
set_option maxRecDepth 20000 in
theorem gX4_makeTrade_X2_fill : GoodIn wsX4_makeTrade (wsV RX4 332 RX2 yX2_fill wsX2_fill) := goodIn_app (goodIn_of _ (by decide +kernel)) ggX4_makeTrade_X2_fill
set_option maxRecDepth 20000 in
theorem ggX4_makeTrade_X3_note : GoodIn wsX4_makeTrade wsX3_note := goodIn_r _ [39, 40, 41, 42, 43, 44, 45, 46, 47, 48, 49, 50, 51, 52, 53, 54, 55, 82, 83, 84, 85, 86, 87, 88, 89, 90] (by decide +kernel) (by decide +kernel)
set_option maxRecDepth 20000 in
theorem gX4_makeTrade_X3_note : GoodIn wsX4_makeTrade (wsV RX4 335 RX3 yX3_note wsX3_note) := goodIn_app (goodIn_of _ (by decide +kernel)) ggX4_makeTrade_X3_note
theorem dX4_makeTrade_0 : decode cX4_makeTrade 0 = .ok (.aload_n 0, 1) := by decide +kernel
theorem dX4_makeTrade_1 : decode cX4_makeTrade 1 = .ok (.getfield 19, 3) := by decide +kernel
theorem dX4_makeTrade_4 : decode cX4_makeTrade 4 = .ok (.getfield 169, 3) := by decide +kernel
theorem dX4_makeTrade_7 : decode cX4_makeTrade 7 = .ok (.iload_n 2, 1) := by decide +kernel
theorem dX4_makeTrade_8 : decode cX4_makeTrade 8 = .ok (.iaload, 1) := by decide +kernel
theorem dX4_makeTrade_9 : decode cX4_makeTrade 9 = .ok (.istore 4, 2) := by decide +kernel
theorem dX4_makeTrade_11 : decode cX4_makeTrade 11 = .ok (.aload_n 0, 1) := by decide +kernel
theorem dX4_makeTrade_12 : decode cX4_makeTrade 12 = .ok (.getfield 19, 3) := by decide +kernel
theorem dX4_makeTrade_15 : decode cX4_makeTrade 15 = .ok (.getfield 211, 3) := by decide +kernel
theorem dX4_makeTrade_18 : decode cX4_makeTrade 18 = .ok (.iload_n 2, 1) := by decide +kernel
theorem dX4_makeTrade_19 : decode cX4_makeTrade 19 = .ok (.iaload, 1) := by decide +kernel
theorem dX4_makeTrade_20 : decode cX4_makeTrade 20 = .ok (.istore 5, 2) := by decide +kernel
theorem dX4_makeTrade_22 : decode cX4_makeTrade 22 = .ok (.aload_n 0, 1) := by decide +kernel
theorem dX4_makeTrade_23 : decode cX4_makeTrade 23 = .ok (.getfield 19, 3) := by decide +kernel
theorem dX4_makeTrade_26 : decode cX4_makeTrade 26 = .ok (.getfield 214, 3) := by decide +kernel
theorem dX4_makeTrade_29 : decode cX4_makeTrade 29 = .ok (.iload_n 1, 1) := by decide +kernel
theorem dX4_makeTrade_30 : decode cX4_makeTrade 30 = .ok (.iaload, 1) := by decide +kernel
theorem dX4_makeTrade_31 : decode cX4_makeTrade 31 = .ok (.ifCond .ne 7, 3) := by decide +kernel
theorem dX4_makeTrade_34 : decode cX4_makeTrade 34 = .ok (.iconst 1, 1) := by decide +kernel
theorem dX4_makeTrade_35 : decode cX4_makeTrade 35 = .ok (.goto 4, 3) := by decide +kernel
theorem dX4_makeTrade_38 : decode cX4_makeTrade 38 = .ok (.iconst 0, 1) := by decide +kernel
theorem dX4_makeTrade_39 : decode cX4_makeTrade 39 = .ok (.istore 6, 2) := by decide +kernel
theorem dX4_makeTrade_41 : decode cX4_makeTrade 41 = .ok (.aload_n 0, 1) := by decide +kernel
theorem dX4_makeTrade_42 : decode cX4_makeTrade 42 = .ok (.getfield 19, 3) := by decide +kernel
theorem dX4_makeTrade_45 : decode cX4_makeTrade 45 = .ok (.getfield 198, 3) := by decide +kernel
theorem dX4_makeTrade_48 : decode cX4_makeTrade 48 = .ok (.iload 6, 2) := by decide +kernel
theorem dX4_makeTrade_50 : decode cX4_makeTrade 50 = .ok (.ifCond .eq 7, 3) := by decide +kernel
theorem dX4_makeTrade_53 : decode cX4_makeTrade 53 = .ok (.iload_n 1, 1) := by decide +kernel
theorem dX4_makeTrade_54 : decode cX4_makeTrade 54 = .ok (.goto 4, 3) := by decide +kernel
theorem dX4_makeTrade_57 : decode cX4_makeTrade 57 = .ok (.iload_n 2, 1) := by decide +kernel
theorem dX4_makeTrade_58 : decode cX4_makeTrade 58 = .ok (.iaload, 1) := by decide +kernel
theorem dX4_makeTrade_59 : decode cX4_makeTrade 59 = .ok (.istore 7, 2) := by decide +kernel
theorem dX4_makeTrade_61 : decode cX4_makeTrade 61 = .ok (.aload_n 0, 1) := by decide +kernel
theorem dX4_makeTrade_62 : decode cX4_makeTrade 62 = .ok (.getfield 19, 3) := by decide +kernel
theorem dX4_makeTrade_65 : decode cX4_makeTrade 65 = .ok (.getfield 198, 3) := by decide +kernel
theorem dX4_makeTrade_68 : decode cX4_makeTrade 68 = .ok (.iload 6, 2) := by decide +kernel
theorem dX4_makeTrade_70 : decode cX4_makeTrade 70 = .ok (.ifCond .eq 7, 3) := by decide +kernel
theorem dX4_makeTrade_73 : decode cX4_makeTrade 73 = .ok (.iload_n 2, 1) := by decide +kernel
theorem dX4_makeTrade_74 : decode cX4_makeTrade 74 = .ok (.goto 4, 3) := by decide +kernel
theorem dX4_makeTrade_77 : decode cX4_makeTrade 77 = .ok (.iload_n 1, 1) := by decide +kernel
theorem dX4_makeTrade_78 : decode cX4_makeTrade 78 = .ok (.iaload, 1) := by decide +kernel
theorem dX4_makeTrade_79 : decode cX4_makeTrade 79 = .ok (.istore 8, 2) := by decide +kernel
theorem dX4_makeTrade_81 : decode cX4_makeTrade 81 = .ok (.aload_n 0, 1) := by decide +kernel
theorem dX4_makeTrade_82 : decode cX4_makeTrade 82 = .ok (.iload_n 1, 1) := by decide +kernel
theorem dX4_makeTrade_83 : decode cX4_makeTrade 83 = .ok (.iload_n 3, 1) := by decide +kernel
theorem dX4_makeTrade_84 : decode cX4_makeTrade 84 = .ok (.ineg, 1) := by decide +kernel
theorem dX4_makeTrade_85 : decode cX4_makeTrade 85 = .ok (.invokevirtual 109, 3) := by decide +kernel
theorem dX4_makeTrade_88 : decode cX4_makeTrade 88 = .ok (.aload_n 0, 1) := by decide +kernel
theorem dX4_makeTrade_89 : decode cX4_makeTrade 89 = .ok (.iload_n 2, 1) := by decide +kernel
theorem dX4_makeTrade_90 : decode cX4_makeTrade 90 = .ok (.iload_n 3, 1) := by decide +kernel
theorem dX4_makeTrade_91 : decode cX4_makeTrade 91 = .ok (.ineg, 1) := by decide +kernel
theorem dX4_makeTrade_92 : decode cX4_makeTrade 92 = .ok (.invokevirtual 109, 3) := by decide +kernel
theorem dX4_makeTrade_95 : decode cX4_makeTrade 95 = .ok (.aload_n 0, 1) := by decide +kernel
theorem dX4_makeTrade_96 : decode cX4_makeTrade 96 = .ok (.getfield 10, 3) := by decide +kernel
theorem dX4_makeTrade_99 : decode cX4_makeTrade 99 = .ok (.iload 7, 2) := by decide +kernel
theorem dX4_makeTrade_101 : decode cX4_makeTrade 101 = .ok (.iload 8, 2) := by decide +kernel
theorem dX4_makeTrade_103 : decode cX4_makeTrade 103 = .ok (.iload 5, 2) := by decide +kernel
theorem dX4_makeTrade_105 : decode cX4_makeTrade 105 = .ok (.iload 4, 2) := by decide +kernel
theorem dX4_makeTrade_107 : decode cX4_makeTrade 107 = .ok (.iload_n 3, 1) := by decide +kernel
theorem dX4_makeTrade_108 : decode cX4_makeTrade 108 = .ok (.invokevirtual 328, 3) := by decide +kernel
theorem dX4_makeTrade_111 : decode cX4_makeTrade 111 = .ok (.aload_n 0, 1) := by decide +kernel
theorem dX4_makeTrade_112 : decode cX4_makeTrade 112 = .ok (.getfield 19, 3) := by decide +kernel
theorem dX4_makeTrade_115 : decode cX4_makeTrade 115 = .ok (.iload_n 1, 1) := by decide +kernel
theorem dX4_makeTrade_116 : decode cX4_makeTrade 116 = .ok (.iload_n 3, 1) := by decide +kernel
theorem dX4_makeTrade_117 : decode cX4_makeTrade 117 = .ok (.invokevirtual 332, 3) := by decide +kernel
theorem dX4_makeTrade_120 : decode cX4_makeTrade 120 = .ok (.aload_n 0, 1) := by decide +kernel
theorem dX4_makeTrade_121 : decode cX4_makeTrade 121 = .ok (.getfield 19, 3) := by decide +kernel
theorem dX4_makeTrade_124 : decode cX4_makeTrade 124 = .ok (.iload_n 2, 1) := by decide +kernel
theorem dX4_makeTrade_125 : decode cX4_makeTrade 125 = .ok (.iload_n 3, 1) := by decide +kernel
theorem dX4_makeTrade_126 : decode cX4_makeTrade 126 = .ok (.invokevirtual 332, 3) := by decide +kernel
theorem dX4_makeTrade_129 : decode cX4_makeTrade 129 = .ok (.aload_n 0, 1) := by decide +kernel
theorem dX4_makeTrade_130 : decode cX4_makeTrade 130 = .ok (.getfield 35, 3) := by decide +kernel
theorem dX4_makeTrade_133 : decode cX4_makeTrade 133 = .ok (.iload 5, 2) := by decide +kernel
theorem dX4_makeTrade_135 : decode cX4_makeTrade 135 = .ok (.iload_n 1, 1) := by decide +kernel
theorem dX4_makeTrade_136 : decode cX4_makeTrade 136 = .ok (.iload_n 2, 1) := by decide +kernel
theorem dX4_makeTrade_137 : decode cX4_makeTrade 137 = .ok (.iload 4, 2) := by decide +kernel
theorem dX4_makeTrade_139 : decode cX4_makeTrade 139 = .ok (.iload_n 3, 1) := by decide +kernel
theorem dX4_makeTrade_140 : decode cX4_makeTrade 140 = .ok (.invokevirtual 335, 3) := by decide +kernel
theorem dX4_makeTrade_143 : decode cX4_makeTrade 143 = .ok (.return_, 1) := by decide +kernel
set_option maxRecDepth 20000 in
theorem ggX4_showLess_X0_drop : GoodIn wsX4_showLess wsX0_drop := goodIn_r _ [9, 10, 11, 12, 13, 14, 15, 16, 8, 17, 73, 74, 75, 60, 61, 62, 63, 64, 65, 66, 67, 68, 69, 70, 71, 72] (by decide +kernel) (by decide +kernel)
set_option maxRecDepth 20000 in
theorem gX4_showLess_X0_drop : GoodIn wsX4_showLess (wsV RX4 338 RX0 yX0_drop wsX0_drop) := goodIn_app (goodIn_of _ (by decide +kernel)) ggX4_showLess_X0_drop
set_option maxRecDepth 20000 in
theorem ggX4_showLess_X4_close : GoodIn wsX4_showLess wsX4_close := goodIn_r _ [22, 1, 4, 2, 23, 24, 25, 26, 27, 21, 28, 29, 30, 31, 32, 33, 34, 35, 36, 37, 38, 39, 55, 56, 57, 58, 59, 60, 61, 62, 63, 64, 65, 66, 67, 68, 69, 70, 71, 72, 76, 77, 78, 79, 80, 81, 82, 83] (by decide +kernel) (by decide +kernel)
set_option maxRecDepth 20000 in
theorem gX4_showLess_X4_close : GoodIn wsX4_showLess (wsV RX4 297 RX4 yX4_close wsX4_close) := goodIn_app (goodIn_of _ (by decide +kernel)) ggX4_showLess_X4_close
set_option maxRecDepth 20000 in
theorem ggX4_showLess_X4_rest : GoodIn wsX4_showLess wsX4_rest := goodIn_r _ [43, 1, 4, 2, 44, 45, 46, 47, 48, 49, 23, 3, 50, 51, 52, 8, 53, 10, 11, 12, 13, 54, 14, 15, 16, 17, 55, 56, 57, 58, 59, 60, 61, 62, 63, 64, 65, 66, 67, 68, 69, 70, 71, 72, 73, 74, 75] (by decide +kernel) (by decide +kernel)
set_option maxRecDepth 20000 in
theorem gX4_showLess_X4_rest : GoodIn wsX4_showLess (wsV RX4 300 RX4 yX4_rest wsX4_rest) := goodIn_app (goodIn_of _ (by decide +kernel)) ggX4_showLess_X4_rest
theorem dX4_showLess_0 : decode cX4_showLess 0 = .ok (.aload_n 0, 1) := by decide +kernel
theorem dX4_showLess_1 : decode cX4_showLess 1 = .ok (.getfield 19, 3) := by decide +kernel
theorem dX4_showLess_4 : decode cX4_showLess 4 = .ok (.getfield 139, 3) := by decide +kernel
theorem dX4_showLess_7 : decode cX4_showLess 7 = .ok (.iload_n 1, 1) := by decide +kernel
theorem dX4_showLess_8 : decode cX4_showLess 8 = .ok (.dup2, 1) := by decide +kernel
theorem dX4_showLess_9 : decode cX4_showLess 9 = .ok (.iaload, 1) := by decide +kernel
theorem dX4_showLess_10 : decode cX4_showLess 10 = .ok (.iload_n 2, 1) := by decide +kernel
theorem dX4_showLess_11 : decode cX4_showLess 11 = .ok (.isub, 1) := by decide +kernel
theorem dX4_showLess_12 : decode cX4_showLess 12 = .ok (.iastore, 1) := by decide +kernel
theorem dX4_showLess_13 : decode cX4_showLess 13 = .ok (.aload_n 0, 1) := by decide +kernel
theorem dX4_showLess_14 : decode cX4_showLess 14 = .ok (.getfield 19, 3) := by decide +kernel
theorem dX4_showLess_17 : decode cX4_showLess 17 = .ok (.getfield 139, 3) := by decide +kernel
theorem dX4_showLess_20 : decode cX4_showLess 20 = .ok (.iload_n 1, 1) := by decide +kernel
theorem dX4_showLess_21 : decode cX4_showLess 21 = .ok (.iaload, 1) := by decide +kernel
theorem dX4_showLess_22 : decode cX4_showLess 22 = .ok (.ifCond .le 4, 3) := by decide +kernel
theorem dX4_showLess_25 : decode cX4_showLess 25 = .ok (.return_, 1) := by decide +kernel
theorem dX4_showLess_26 : decode cX4_showLess 26 = .ok (.aload_n 0, 1) := by decide +kernel
theorem dX4_showLess_27 : decode cX4_showLess 27 = .ok (.getfield 28, 3) := by decide +kernel
theorem dX4_showLess_30 : decode cX4_showLess 30 = .ok (.iload_n 1, 1) := by decide +kernel
theorem dX4_showLess_31 : decode cX4_showLess 31 = .ok (.invokevirtual 338, 3) := by decide +kernel
theorem dX4_showLess_34 : decode cX4_showLess 34 = .ok (.aload_n 0, 1) := by decide +kernel
theorem dX4_showLess_35 : decode cX4_showLess 35 = .ok (.getfield 19, 3) := by decide +kernel
theorem dX4_showLess_38 : decode cX4_showLess 38 = .ok (.getfield 126, 3) := by decide +kernel
theorem dX4_showLess_41 : decode cX4_showLess 41 = .ok (.iload_n 1, 1) := by decide +kernel
theorem dX4_showLess_42 : decode cX4_showLess 42 = .ok (.iaload, 1) := by decide +kernel
theorem dX4_showLess_43 : decode cX4_showLess 43 = .ok (.ifCond .ne 12, 3) := by decide +kernel
theorem dX4_showLess_46 : decode cX4_showLess 46 = .ok (.aload_n 0, 1) := by decide +kernel
theorem dX4_showLess_47 : decode cX4_showLess 47 = .ok (.iload_n 1, 1) := by decide +kernel
theorem dX4_showLess_48 : decode cX4_showLess 48 = .ok (.iconst 2, 1) := by decide +kernel
theorem dX4_showLess_49 : decode cX4_showLess 49 = .ok (.invokevirtual 297, 3) := by decide +kernel
theorem dX4_showLess_52 : decode cX4_showLess 52 = .ok (.goto 8, 3) := by decide +kernel
theorem dX4_showLess_55 : decode cX4_showLess 55 = .ok (.aload_n 0, 1) := by decide +kernel
theorem dX4_showLess_56 : decode cX4_showLess 56 = .ok (.iload_n 1, 1) := by decide +kernel
theorem dX4_showLess_57 : decode cX4_showLess 57 = .ok (.invokevirtual 300, 3) := by decide +kernel
theorem dX4_showLess_60 : decode cX4_showLess 60 = .ok (.return_, 1) := by decide +kernel
set_option maxRecDepth 20000 in
theorem ggX4_rest_X0_putLast : GoodIn wsX4_rest wsX0_putLast := goodIn_r _ [16, 17, 18, 19, 20, 21, 22, 23, 24, 15, 25, 44, 45, 46, 31, 32, 33, 34, 35, 36, 37, 38, 39, 40, 41, 42, 43] (by decide +kernel) (by decide +kernel)
set_option maxRecDepth 20000 in
theorem gX4_rest_X0_putLast : GoodIn wsX4_rest (wsV RX4 344 RX0 yX0_putLast wsX0_putLast) := goodIn_app (goodIn_of _ (by decide +kernel)) ggX4_rest_X0_putLast
theorem dX4_rest_0 : decode cX4_rest 0 = .ok (.aload_n 0, 1) := by decide +kernel
theorem dX4_rest_1 : decode cX4_rest 1 = .ok (.getfield 19, 3) := by decide +kernel
theorem dX4_rest_4 : decode cX4_rest 4 = .ok (.getfield 126, 3) := by decide +kernel
theorem dX4_rest_7 : decode cX4_rest 7 = .ok (.iload_n 1, 1) := by decide +kernel
theorem dX4_rest_8 : decode cX4_rest 8 = .ok (.iaload, 1) := by decide +kernel
theorem dX4_rest_9 : decode cX4_rest 9 = .ok (.istore_n 2, 1) := by decide +kernel
theorem dX4_rest_10 : decode cX4_rest 10 = .ok (.aload_n 0, 1) := by decide +kernel
theorem dX4_rest_11 : decode cX4_rest 11 = .ok (.getfield 19, 3) := by decide +kernel
theorem dX4_rest_14 : decode cX4_rest 14 = .ok (.getfield 139, 3) := by decide +kernel
theorem dX4_rest_17 : decode cX4_rest 17 = .ok (.iload_n 1, 1) := by decide +kernel
theorem dX4_rest_18 : decode cX4_rest 18 = .ok (.aload_n 0, 1) := by decide +kernel
theorem dX4_rest_19 : decode cX4_rest 19 = .ok (.getfield 19, 3) := by decide +kernel
theorem dX4_rest_22 : decode cX4_rest 22 = .ok (.getfield 291, 3) := by decide +kernel
theorem dX4_rest_25 : decode cX4_rest 25 = .ok (.iload_n 1, 1) := by decide +kernel
theorem dX4_rest_26 : decode cX4_rest 26 = .ok (.iaload, 1) := by decide +kernel
theorem dX4_rest_27 : decode cX4_rest 27 = .ok (.iconst 4, 1) := by decide +kernel
theorem dX4_rest_28 : decode cX4_rest 28 = .ok (.if_icmp .ne 19, 3) := by decide +kernel
theorem dX4_rest_31 : decode cX4_rest 31 = .ok (.aload_n 0, 1) := by decide +kernel
theorem dX4_rest_32 : decode cX4_rest 32 = .ok (.getfield 19, 3) := by decide +kernel
theorem dX4_rest_35 : decode cX4_rest 35 = .ok (.getfield 341, 3) := by decide +kernel
theorem dX4_rest_38 : decode cX4_rest 38 = .ok (.iload_n 1, 1) := by decide +kernel
theorem dX4_rest_39 : decode cX4_rest 39 = .ok (.iaload, 1) := by decide +kernel
theorem dX4_rest_40 : decode cX4_rest 40 = .ok (.iload_n 2, 1) := by decide +kernel
theorem dX4_rest_41 : decode cX4_rest 41 = .ok (.invokestatic 142, 3) := by decide +kernel
theorem dX4_rest_44 : decode cX4_rest 44 = .ok (.goto 4, 3) := by decide +kernel
theorem dX4_rest_47 : decode cX4_rest 47 = .ok (.iload_n 2, 1) := by decide +kernel
theorem dX4_rest_48 : decode cX4_rest 48 = .ok (.iastore, 1) := by decide +kernel
theorem dX4_rest_49 : decode cX4_rest 49 = .ok (.aload_n 0, 1) := by decide +kernel
theorem dX4_rest_50 : decode cX4_rest 50 = .ok (.getfield 19, 3) := by decide +kernel
theorem dX4_rest_53 : decode cX4_rest 53 = .ok (.getfield 201, 3) := by decide +kernel
theorem dX4_rest_56 : decode cX4_rest 56 = .ok (.iload_n 1, 1) := by decide +kernel
theorem dX4_rest_57 : decode cX4_rest 57 = .ok (.iconst 0, 1) := by decide +kernel
theorem dX4_rest_58 : decode cX4_rest 58 = .ok (.iastore, 1) := by decide +kernel
theorem dX4_rest_59 : decode cX4_rest 59 = .ok (.aload_n 0, 1) := by decide +kernel
theorem dX4_rest_60 : decode cX4_rest 60 = .ok (.getfield 28, 3) := by decide +kernel
theorem dX4_rest_63 : decode cX4_rest 63 = .ok (.iload_n 1, 1) := by decide +kernel
theorem dX4_rest_64 : decode cX4_rest 64 = .ok (.invokevirtual 344, 3) := by decide +kernel
theorem dX4_rest_67 : decode cX4_rest 67 = .ok (.return_, 1) := by decide +kernel
set_option maxRecDepth 20000 in
theorem ggX4_takeAway_X0_drop : GoodIn wsX4_takeAway wsX0_drop := goodIn_r _ [8, 9, 10, 11, 12, 13, 14, 15, 7, 16, 58, 59, 60, 45, 46, 47, 48, 49, 50, 51, 52, 53, 54, 55, 56, 57] (by decide +kernel) (by decide +kernel)
set_option maxRecDepth 20000 in
theorem gX4_takeAway_X0_drop : GoodIn wsX4_takeAway (wsV RX4 338 RX0 yX0_drop wsX0_drop) := goodIn_app (goodIn_of _ (by decide +kernel)) ggX4_takeAway_X0_drop
set_option maxRecDepth 20000 in
theorem ggX4_takeAway_X4_close : GoodIn wsX4_takeAway wsX4_close := goodIn_r _ [21, 1, 22, 23, 2, 24, 25, 26, 27, 20, 28, 29, 30, 31, 32, 33, 34, 35, 36, 37, 38, 39, 40, 41, 42, 43, 44, 45, 46, 47, 48, 49, 50, 51, 52, 53, 54, 55, 56, 57, 61, 62, 63, 64, 65, 66, 67, 68] (by decide +kernel) (by decide +kernel)
set_option maxRecDepth 20000 in
theorem gX4_takeAway_X4_close : GoodIn wsX4_takeAway (wsV RX4 297 RX4 yX4_close wsX4_close) := goodIn_app (goodIn_of _ (by decide +kernel)) ggX4_takeAway_X4_close
theorem dX4_takeAway_0 : decode cX4_takeAway 0 = .ok (.aload_n 0, 1) := by decide +kernel
theorem dX4_takeAway_1 : decode cX4_takeAway 1 = .ok (.getfield 19, 3) := by decide +kernel
theorem dX4_takeAway_4 : decode cX4_takeAway 4 = .ok (.getfield 201, 3) := by decide +kernel
theorem dX4_takeAway_7 : decode cX4_takeAway 7 = .ok (.iload_n 1, 1) := by decide +kernel
theorem dX4_takeAway_8 : decode cX4_takeAway 8 = .ok (.iaload, 1) := by decide +kernel
theorem dX4_takeAway_9 : decode cX4_takeAway 9 = .ok (.ifCond .ne 11, 3) := by decide +kernel
theorem dX4_takeAway_12 : decode cX4_takeAway 12 = .ok (.aload_n 0, 1) := by decide +kernel
theorem dX4_takeAway_13 : decode cX4_takeAway 13 = .ok (.getfield 28, 3) := by decide +kernel
theorem dX4_takeAway_16 : decode cX4_takeAway 16 = .ok (.iload_n 1, 1) := by decide +kernel
theorem dX4_takeAway_17 : decode cX4_takeAway 17 = .ok (.invokevirtual 338, 3) := by decide +kernel
theorem dX4_takeAway_20 : decode cX4_takeAway 20 = .ok (.aload_n 0, 1) := by decide +kernel
theorem dX4_takeAway_21 : decode cX4_takeAway 21 = .ok (.iload_n 1, 1) := by decide +kernel
theorem dX4_takeAway_22 : decode cX4_takeAway 22 = .ok (.iconst 3, 1) := by decide +kernel
theorem dX4_takeAway_23 : decode cX4_takeAway 23 = .ok (.invokevirtual 297, 3) := by decide +kernel
theorem dX4_takeAway_26 : decode cX4_takeAway 26 = .ok (.return_, 1) := by decide +kernel
set_option maxRecDepth 20000 in
theorem ggX4_close_X4_hold : GoodIn wsX4_close wsX4_hold := goodIn_r _ [10, 1, 11, 12, 13, 14, 15, 16, 17, 18, 19, 20, 21, 22, 23, 24, 25, 26, 27, 28, 29, 30, 31, 32, 33, 34, 35, 36, 37, 38, 39, 40, 41, 42, 43, 44, 45, 46, 47] (by decide +kernel) (by decide +kernel)
set_option maxRecDepth 20000 in
theorem gX4_close_X4_hold : GoodIn wsX4_close (wsV RX4 109 RX4 yX4_hold wsX4_hold) := goodIn_app (goodIn_of _ (by decide +kernel)) ggX4_close_X4_hold
theorem dX4_close_0 : decode cX4_close 0 = .ok (.aload_n 0, 1) := by decide +kernel
theorem dX4_close_1 : decode cX4_close 1 = .ok (.iload_n 1, 1) := by decide +kernel
theorem dX4_close_2 : decode cX4_close 2 = .ok (.aload_n 0, 1) := by decide +kernel
theorem dX4_close_3 : decode cX4_close 3 = .ok (.getfield 19, 3) := by decide +kernel
theorem dX4_close_6 : decode cX4_close 6 = .ok (.getfield 126, 3) := by decide +kernel
theorem dX4_close_9 : decode cX4_close 9 = .ok (.iload_n 1, 1) := by decide +kernel
theorem dX4_close_10 : decode cX4_close 10 = .ok (.iaload, 1) := by decide +kernel
theorem dX4_close_11 : decode cX4_close 11 = .ok (.ineg, 1) := by decide +kernel
theorem dX4_close_12 : decode cX4_close 12 = .ok (.invokevirtual 109, 3) := by decide +kernel
theorem dX4_close_15 : decode cX4_close 15 = .ok (.aload_n 0, 1) := by decide +kernel
theorem dX4_close_16 : decode cX4_close 16 = .ok (.getfield 19, 3) := by decide +kernel
theorem dX4_close_19 : decode cX4_close 19 = .ok (.getfield 126, 3) := by decide +kernel
theorem dX4_close_22 : decode cX4_close 22 = .ok (.iload_n 1, 1) := by decide +kernel
theorem dX4_close_23 : decode cX4_close 23 = .ok (.iconst 0, 1) := by decide +kernel
theorem dX4_close_24 : decode cX4_close 24 = .ok (.iastore, 1) := by decide +kernel
theorem dX4_close_25 : decode cX4_close 25 = .ok (.aload_n 0, 1) := by decide +kernel
theorem dX4_close_26 : decode cX4_close 26 = .ok (.getfield 19, 3) := by decide +kernel
theorem dX4_close_29 : decode cX4_close 29 = .ok (.getfield 139, 3) := by decide +kernel
theorem dX4_close_32 : decode cX4_close 32 = .ok (.iload_n 1, 1) := by decide +kernel
theorem dX4_close_33 : decode cX4_close 33 = .ok (.iconst 0, 1) := by decide +kernel
theorem dX4_close_34 : decode cX4_close 34 = .ok (.iastore, 1) := by decide +kernel
theorem dX4_close_35 : decode cX4_close 35 = .ok (.aload_n 0, 1) := by decide +kernel
theorem dX4_close_36 : decode cX4_close 36 = .ok (.getfield 19, 3) := by decide +kernel
theorem dX4_close_39 : decode cX4_close 39 = .ok (.getfield 201, 3) := by decide +kernel
theorem dX4_close_42 : decode cX4_close 42 = .ok (.iload_n 1, 1) := by decide +kernel
theorem dX4_close_43 : decode cX4_close 43 = .ok (.iload_n 2, 1) := by decide +kernel
theorem dX4_close_44 : decode cX4_close 44 = .ok (.iastore, 1) := by decide +kernel
theorem dX4_close_45 : decode cX4_close 45 = .ok (.aload_n 0, 1) := by decide +kernel
theorem dX4_close_46 : decode cX4_close 46 = .ok (.getfield 19, 3) := by decide +kernel
theorem dX4_close_49 : decode cX4_close 49 = .ok (.dup, 1) := by decide +kernel
theorem dX4_close_50 : decode cX4_close 50 = .ok (.getfield 97, 3) := by decide +kernel
theorem dX4_close_53 : decode cX4_close 53 = .ok (.iconst 1, 1) := by decide +kernel
theorem dX4_close_54 : decode cX4_close 54 = .ok (.isub, 1) := by decide +kernel
theorem dX4_close_55 : decode cX4_close 55 = .ok (.putfield 97, 3) := by decide +kernel
theorem dX4_close_58 : decode cX4_close 58 = .ok (.return_, 1) := by decide +kernel
set_option maxRecDepth 20000 in
theorem ggX4_hold_X1_placeOf : GoodIn wsX4_hold wsX1_placeOf := goodIn_r _ [12] (by decide +kernel) (by decide +kernel)
set_option maxRecDepth 20000 in
theorem gX4_hold_X1_placeOf : GoodIn wsX4_hold (va_wsS RX4 78 yX1_placeOf wsX1_placeOf) := goodIn_app (goodIn_of _ (by decide +kernel)) ggX4_hold_X1_placeOf
theorem dX4_hold_0 : decode cX4_hold 0 = .ok (.aload_n 0, 1) := by decide +kernel
theorem dX4_hold_1 : decode cX4_hold 1 = .ok (.getfield 19, 3) := by decide +kernel
theorem dX4_hold_4 : decode cX4_hold 4 = .ok (.getfield 198, 3) := by decide +kernel
theorem dX4_hold_7 : decode cX4_hold 7 = .ok (.iload_n 1, 1) := by decide +kernel
theorem dX4_hold_8 : decode cX4_hold 8 = .ok (.iaload, 1) := by decide +kernel
theorem dX4_hold_9 : decode cX4_hold 9 = .ok (.istore_n 3, 1) := by decide +kernel
theorem dX4_hold_10 : decode cX4_hold 10 = .ok (.aload_n 0, 1) := by decide +kernel
theorem dX4_hold_11 : decode cX4_hold 11 = .ok (.getfield 19, 3) := by decide +kernel
theorem dX4_hold_14 : decode cX4_hold 14 = .ok (.getfield 214, 3) := by decide +kernel
theorem dX4_hold_17 : decode cX4_hold 17 = .ok (.iload_n 1, 1) := by decide +kernel
theorem dX4_hold_18 : decode cX4_hold 18 = .ok (.iaload, 1) := by decide +kernel
theorem dX4_hold_19 : decode cX4_hold 19 = .ok (.ifCond .ne 31, 3) := by decide +kernel
theorem dX4_hold_22 : decode cX4_hold 22 = .ok (.aload_n 0, 1) := by decide +kernel
theorem dX4_hold_23 : decode cX4_hold 23 = .ok (.getfield 10, 3) := by decide +kernel
theorem dX4_hold_26 : decode cX4_hold 26 = .ok (.getfield 217, 3) := by decide +kernel
theorem dX4_hold_29 : decode cX4_hold 29 = .ok (.iload_n 3, 1) := by decide +kernel
theorem dX4_hold_30 : decode cX4_hold 30 = .ok (.dup2, 1) := by decide +kernel
theorem dX4_hold_31 : decode cX4_hold 31 = .ok (.laload, 1) := by decide +kernel
theorem dX4_hold_32 : decode cX4_hold 32 = .ok (.aload_n 0, 1) := by decide +kernel
theorem dX4_hold_33 : decode cX4_hold 33 = .ok (.getfield 19, 3) := by decide +kernel
theorem dX4_hold_36 : decode cX4_hold 36 = .ok (.getfield 169, 3) := by decide +kernel
theorem dX4_hold_39 : decode cX4_hold 39 = .ok (.iload_n 1, 1) := by decide +kernel
theorem dX4_hold_40 : decode cX4_hold 40 = .ok (.iaload, 1) := by decide +kernel
theorem dX4_hold_41 : decode cX4_hold 41 = .ok (.i2l, 1) := by decide +kernel
theorem dX4_hold_42 : decode cX4_hold 42 = .ok (.iload_n 2, 1) := by decide +kernel
theorem dX4_hold_43 : decode cX4_hold 43 = .ok (.i2l, 1) := by decide +kernel
theorem dX4_hold_44 : decode cX4_hold 44 = .ok (.lmul, 1) := by decide +kernel
theorem dX4_hold_45 : decode cX4_hold 45 = .ok (.ladd, 1) := by decide +kernel
theorem dX4_hold_46 : decode cX4_hold 46 = .ok (.lastore, 1) := by decide +kernel
theorem dX4_hold_47 : decode cX4_hold 47 = .ok (.goto 28, 3) := by decide +kernel
theorem dX4_hold_50 : decode cX4_hold 50 = .ok (.aload_n 0, 1) := by decide +kernel
theorem dX4_hold_51 : decode cX4_hold 51 = .ok (.getfield 10, 3) := by decide +kernel
theorem dX4_hold_54 : decode cX4_hold 54 = .ok (.getfield 222, 3) := by decide +kernel
theorem dX4_hold_57 : decode cX4_hold 57 = .ok (.iload_n 3, 1) := by decide +kernel
theorem dX4_hold_58 : decode cX4_hold 58 = .ok (.aload_n 0, 1) := by decide +kernel
theorem dX4_hold_59 : decode cX4_hold 59 = .ok (.getfield 19, 3) := by decide +kernel
theorem dX4_hold_62 : decode cX4_hold 62 = .ok (.getfield 211, 3) := by decide +kernel
theorem dX4_hold_65 : decode cX4_hold 65 = .ok (.iload_n 1, 1) := by decide +kernel
theorem dX4_hold_66 : decode cX4_hold 66 = .ok (.iaload, 1) := by decide +kernel
theorem dX4_hold_67 : decode cX4_hold 67 = .ok (.invokestatic 78, 3) := by decide +kernel
theorem dX4_hold_70 : decode cX4_hold 70 = .ok (.dup2, 1) := by decide +kernel
theorem dX4_hold_71 : decode cX4_hold 71 = .ok (.iaload, 1) := by decide +kernel
theorem dX4_hold_72 : decode cX4_hold 72 = .ok (.iload_n 2, 1) := by decide +kernel
theorem dX4_hold_73 : decode cX4_hold 73 = .ok (.iadd, 1) := by decide +kernel
theorem dX4_hold_74 : decode cX4_hold 74 = .ok (.iastore, 1) := by decide +kernel
theorem dX4_hold_75 : decode cX4_hold 75 = .ok (.return_, 1) := by decide +kernel
theorem dX5_init_0 : decode cX5_init 0 = .ok (.aload_n 0, 1) := by decide +kernel
theorem dX5_init_1 : decode cX5_init 1 = .ok (.invokespecial 1, 3) := by decide +kernel
theorem dX5_init_4 : decode cX5_init 4 = .ok (.aload_n 0, 1) := by decide +kernel
theorem dX5_init_5 : decode cX5_init 5 = .ok (.sipush 512, 3) := by decide +kernel
theorem dX5_init_8 : decode cX5_init 8 = .ok (.newarray .long, 2) := by decide +kernel
theorem dX5_init_10 : decode cX5_init 10 = .ok (.putfield 7, 3) := by decide +kernel
theorem dX5_init_13 : decode cX5_init 13 = .ok (.aload_n 0, 1) := by decide +kernel
theorem dX5_init_14 : decode cX5_init 14 = .ok (.sipush 512, 3) := by decide +kernel
theorem dX5_init_17 : decode cX5_init 17 = .ok (.newarray .long, 2) := by decide +kernel
theorem dX5_init_19 : decode cX5_init 19 = .ok (.putfield 13, 3) := by decide +kernel
theorem dX5_init_22 : decode cX5_init 22 = .ok (.aload_n 0, 1) := by decide +kernel
theorem dX5_init_23 : decode cX5_init 23 = .ok (.sipush 2048, 3) := by decide +kernel
theorem dX5_init_26 : decode cX5_init 26 = .ok (.newarray .int, 2) := by decide +kernel
theorem dX5_init_28 : decode cX5_init 28 = .ok (.putfield 16, 3) := by decide +kernel
theorem dX5_init_31 : decode cX5_init 31 = .ok (.aload_n 0, 1) := by decide +kernel
theorem dX5_init_32 : decode cX5_init 32 = .ok (.sipush 2048, 3) := by decide +kernel
theorem dX5_init_35 : decode cX5_init 35 = .ok (.newarray .int, 2) := by decide +kernel
theorem dX5_init_37 : decode cX5_init 37 = .ok (.putfield 20, 3) := by decide +kernel
theorem dX5_init_40 : decode cX5_init 40 = .ok (.aload_n 0, 1) := by decide +kernel
theorem dX5_init_41 : decode cX5_init 41 = .ok (.sipush 2048, 3) := by decide +kernel
theorem dX5_init_44 : decode cX5_init 44 = .ok (.newarray .int, 2) := by decide +kernel
theorem dX5_init_46 : decode cX5_init 46 = .ok (.putfield 23, 3) := by decide +kernel
theorem dX5_init_49 : decode cX5_init 49 = .ok (.aload_n 0, 1) := by decide +kernel
theorem dX5_init_50 : decode cX5_init 50 = .ok (.sipush 2048, 3) := by decide +kernel
theorem dX5_init_53 : decode cX5_init 53 = .ok (.newarray .int, 2) := by decide +kernel
theorem dX5_init_55 : decode cX5_init 55 = .ok (.putfield 26, 3) := by decide +kernel
theorem dX5_init_58 : decode cX5_init 58 = .ok (.aload_n 0, 1) := by decide +kernel
theorem dX5_init_59 : decode cX5_init 59 = .ok (.sipush 512, 3) := by decide +kernel
theorem dX5_init_62 : decode cX5_init 62 = .ok (.newarray .boolean, 2) := by decide +kernel
theorem dX5_init_64 : decode cX5_init 64 = .ok (.putfield 29, 3) := by decide +kernel
theorem dX5_init_67 : decode cX5_init 67 = .ok (.aload_n 0, 1) := by decide +kernel
theorem dX5_init_68 : decode cX5_init 68 = .ok (.sipush 520, 3) := by decide +kernel
theorem dX5_init_71 : decode cX5_init 71 = .ok (.newarray .int, 2) := by decide +kernel
theorem dX5_init_73 : decode cX5_init 73 = .ok (.putfield 33, 3) := by decide +kernel
theorem dX5_init_76 : decode cX5_init 76 = .ok (.aload_n 0, 1) := by decide +kernel
theorem dX5_init_77 : decode cX5_init 77 = .ok (.sipush 520, 3) := by decide +kernel
theorem dX5_init_80 : decode cX5_init 80 = .ok (.newarray .int, 2) := by decide +kernel
theorem dX5_init_82 : decode cX5_init 82 = .ok (.putfield 36, 3) := by decide +kernel
theorem dX5_init_85 : decode cX5_init 85 = .ok (.aload_n 0, 1) := by decide +kernel
theorem dX5_init_86 : decode cX5_init 86 = .ok (.sipush 520, 3) := by decide +kernel
theorem dX5_init_89 : decode cX5_init 89 = .ok (.newarray .int, 2) := by decide +kernel
theorem dX5_init_91 : decode cX5_init 91 = .ok (.putfield 39, 3) := by decide +kernel
theorem dX5_init_94 : decode cX5_init 94 = .ok (.aload_n 0, 1) := by decide +kernel
theorem dX5_init_95 : decode cX5_init 95 = .ok (.sipush 520, 3) := by decide +kernel
theorem dX5_init_98 : decode cX5_init 98 = .ok (.newarray .int, 2) := by decide +kernel
theorem dX5_init_100 : decode cX5_init 100 = .ok (.putfield 42, 3) := by decide +kernel
theorem dX5_init_103 : decode cX5_init 103 = .ok (.aload_n 0, 1) := by decide +kernel
theorem dX5_init_104 : decode cX5_init 104 = .ok (.sipush 520, 3) := by decide +kernel
theorem dX5_init_107 : decode cX5_init 107 = .ok (.newarray .int, 2) := by decide +kernel
theorem dX5_init_109 : decode cX5_init 109 = .ok (.putfield 45, 3) := by decide +kernel
theorem dX5_init_112 : decode cX5_init 112 = .ok (.aload_n 0, 1) := by decide +kernel
theorem dX5_init_113 : decode cX5_init 113 = .ok (.sipush 520, 3) := by decide +kernel
theorem dX5_init_116 : decode cX5_init 116 = .ok (.newarray .int, 2) := by decide +kernel
theorem dX5_init_118 : decode cX5_init 118 = .ok (.putfield 48, 3) := by decide +kernel
theorem dX5_init_121 : decode cX5_init 121 = .ok (.aload_n 0, 1) := by decide +kernel
theorem dX5_init_122 : decode cX5_init 122 = .ok (.sipush 520, 3) := by decide +kernel
theorem dX5_init_125 : decode cX5_init 125 = .ok (.newarray .int, 2) := by decide +kernel
theorem dX5_init_127 : decode cX5_init 127 = .ok (.putfield 51, 3) := by decide +kernel
theorem dX5_init_130 : decode cX5_init 130 = .ok (.aload_n 0, 1) := by decide +kernel
theorem dX5_init_131 : decode cX5_init 131 = .ok (.sipush 520, 3) := by decide +kernel
theorem dX5_init_134 : decode cX5_init 134 = .ok (.newarray .int, 2) := by decide +kernel
theorem dX5_init_136 : decode cX5_init 136 = .ok (.putfield 54, 3) := by decide +kernel
theorem dX5_init_139 : decode cX5_init 139 = .ok (.aload_n 0, 1) := by decide +kernel
theorem dX5_init_140 : decode cX5_init 140 = .ok (.sipush 520, 3) := by decide +kernel
theorem dX5_init_143 : decode cX5_init 143 = .ok (.newarray .int, 2) := by decide +kernel
theorem dX5_init_145 : decode cX5_init 145 = .ok (.putfield 57, 3) := by decide +kernel
theorem dX5_init_148 : decode cX5_init 148 = .ok (.aload_n 0, 1) := by decide +kernel
theorem dX5_init_149 : decode cX5_init 149 = .ok (.sipush 520, 3) := by decide +kernel
theorem dX5_init_152 : decode cX5_init 152 = .ok (.newarray .int, 2) := by decide +kernel
theorem dX5_init_154 : decode cX5_init 154 = .ok (.putfield 60, 3) := by decide +kernel
theorem dX5_init_157 : decode cX5_init 157 = .ok (.aload_n 0, 1) := by decide +kernel
theorem dX5_init_158 : decode cX5_init 158 = .ok (.sipush 520, 3) := by decide +kernel
theorem dX5_init_161 : decode cX5_init 161 = .ok (.newarray .int, 2) := by decide +kernel
theorem dX5_init_163 : decode cX5_init 163 = .ok (.putfield 63, 3) := by decide +kernel
theorem dX5_init_166 : decode cX5_init 166 = .ok (.aload_n 0, 1) := by decide +kernel
theorem dX5_init_167 : decode cX5_init 167 = .ok (.sipush 520, 3) := by decide +kernel
theorem dX5_init_170 : decode cX5_init 170 = .ok (.newarray .int, 2) := by decide +kernel
theorem dX5_init_172 : decode cX5_init 172 = .ok (.putfield 66, 3) := by decide +kernel
theorem dX5_init_175 : decode cX5_init 175 = .ok (.aload_n 0, 1) := by decide +kernel
theorem dX5_init_176 : decode cX5_init 176 = .ok (.sipush 520, 3) := by decide +kernel
theorem dX5_init_179 : decode cX5_init 179 = .ok (.newarray .int, 2) := by decide +kernel
theorem dX5_init_181 : decode cX5_init 181 = .ok (.putfield 69, 3) := by decide +kernel
theorem dX5_init_184 : decode cX5_init 184 = .ok (.aload_n 0, 1) := by decide +kernel
theorem dX5_init_185 : decode cX5_init 185 = .ok (.sipush 520, 3) := by decide +kernel
theorem dX5_init_188 : decode cX5_init 188 = .ok (.newarray .int, 2) := by decide +kernel
theorem dX5_init_190 : decode cX5_init 190 = .ok (.putfield 72, 3) := by decide +kernel
theorem dX5_init_193 : decode cX5_init 193 = .ok (.aload_n 0, 1) := by decide +kernel
theorem dX5_init_194 : decode cX5_init 194 = .ok (.sipush 520, 3) := by decide +kernel
theorem dX5_init_197 : decode cX5_init 197 = .ok (.newarray .int, 2) := by decide +kernel
theorem dX5_init_199 : decode cX5_init 199 = .ok (.putfield 75, 3) := by decide +kernel
theorem dX5_init_202 : decode cX5_init 202 = .ok (.aload_n 0, 1) := by decide +kernel
theorem dX5_init_203 : decode cX5_init 203 = .ok (.sipush 1200, 3) := by decide +kernel
theorem dX5_init_206 : decode cX5_init 206 = .ok (.newarray .int, 2) := by decide +kernel
theorem dX5_init_208 : decode cX5_init 208 = .ok (.putfield 78, 3) := by decide +kernel
theorem dX5_init_211 : decode cX5_init 211 = .ok (.aload_n 0, 1) := by decide +kernel
theorem dX5_init_212 : decode cX5_init 212 = .ok (.iconst 4, 1) := by decide +kernel
theorem dX5_init_213 : decode cX5_init 213 = .ok (.newarray .int, 2) := by decide +kernel
theorem dX5_init_215 : decode cX5_init 215 = .ok (.putfield 81, 3) := by decide +kernel
theorem dX5_init_218 : decode cX5_init 218 = .ok (.aload_n 0, 1) := by decide +kernel
theorem dX5_init_219 : decode cX5_init 219 = .ok (.iconst 4, 1) := by decide +kernel
theorem dX5_init_220 : decode cX5_init 220 = .ok (.newarray .int, 2) := by decide +kernel
theorem dX5_init_222 : decode cX5_init 222 = .ok (.putfield 84, 3) := by decide +kernel
theorem dX5_init_225 : decode cX5_init 225 = .ok (.aload_n 0, 1) := by decide +kernel
theorem dX5_init_226 : decode cX5_init 226 = .ok (.iconst 4, 1) := by decide +kernel
theorem dX5_init_227 : decode cX5_init 227 = .ok (.newarray .int, 2) := by decide +kernel
theorem dX5_init_229 : decode cX5_init 229 = .ok (.putfield 87, 3) := by decide +kernel
theorem dX5_init_232 : decode cX5_init 232 = .ok (.aload_n 0, 1) := by decide +kernel
theorem dX5_init_233 : decode cX5_init 233 = .ok (.iconst 4, 1) := by decide +kernel
theorem dX5_init_234 : decode cX5_init 234 = .ok (.newarray .int, 2) := by decide +kernel
theorem dX5_init_236 : decode cX5_init 236 = .ok (.putfield 90, 3) := by decide +kernel
theorem dX5_init_239 : decode cX5_init 239 = .ok (.return_, 1) := by decide +kernel
theorem dX5_thrown_0 : decode cX5_thrown 0 = .ok (.aload_n 0, 1) := by decide +kernel
theorem dX5_thrown_1 : decode cX5_thrown 1 = .ok (.getfield 93, 3) := by decide +kernel
theorem dX5_thrown_4 : decode cX5_thrown 4 = .ok (.ireturn, 1) := by decide +kernel
theorem dX5_isIn_0 : decode cX5_isIn 0 = .ok (.iload_n 0, 1) := by decide +kernel
theorem dX5_isIn_1 : decode cX5_isIn 1 = .ok (.iload_n 1, 1) := by decide +kernel
theorem dX5_isIn_2 : decode cX5_isIn 2 = .ok (.if_icmp .lt 12, 3) := by decide +kernel
theorem dX5_isIn_5 : decode cX5_isIn 5 = .ok (.iload_n 0, 1) := by decide +kernel
theorem dX5_isIn_6 : decode cX5_isIn 6 = .ok (.iload_n 2, 1) := by decide +kernel
theorem dX5_isIn_7 : decode cX5_isIn 7 = .ok (.if_icmp .gt 7, 3) := by decide +kernel
theorem dX5_isIn_10 : decode cX5_isIn 10 = .ok (.iconst 1, 1) := by decide +kernel
theorem dX5_isIn_11 : decode cX5_isIn 11 = .ok (.goto 4, 3) := by decide +kernel
theorem dX5_isIn_14 : decode cX5_isIn 14 = .ok (.iconst 0, 1) := by decide +kernel
theorem dX5_isIn_15 : decode cX5_isIn 15 = .ok (.ireturn, 1) := by decide +kernel
set_option maxRecDepth 20000 in
theorem ggX5_isAccount_X5_isIn : GoodIn wsX5_isAccount wsX5_isIn := goodIn_r _ [4] (by decide +kernel) (by decide +kernel)
set_option maxRecDepth 20000 in
theorem gX5_isAccount_X5_isIn : GoodIn wsX5_isAccount (va_wsS RX5 97 yX5_isIn wsX5_isIn) := goodIn_app (goodIn_of _ (by decide +kernel)) ggX5_isAccount_X5_isIn
theorem dX5_isAccount_0 : decode cX5_isAccount 0 = .ok (.iload_n 0, 1) := by decide +kernel
theorem dX5_isAccount_1 : decode cX5_isAccount 1 = .ok (.iconst 0, 1) := by decide +kernel
theorem dX5_isAccount_2 : decode cX5_isAccount 2 = .ok (.sipush 511, 3) := by decide +kernel
theorem dX5_isAccount_5 : decode cX5_isAccount 5 = .ok (.invokestatic 97, 3) := by decide +kernel
theorem dX5_isAccount_8 : decode cX5_isAccount 8 = .ok (.ireturn, 1) := by decide +kernel
set_option maxRecDepth 20000 in
theorem ggX5_isSymbol_X5_isIn : GoodIn wsX5_isSymbol wsX5_isIn := goodIn_r _ [4] (by decide +kernel) (by decide +kernel)
set_option maxRecDepth 20000 in
theorem gX5_isSymbol_X5_isIn : GoodIn wsX5_isSymbol (va_wsS RX5 97 yX5_isIn wsX5_isIn) := goodIn_app (goodIn_of _ (by decide +kernel)) ggX5_isSymbol_X5_isIn
theorem dX5_isSymbol_0 : decode cX5_isSymbol 0 = .ok (.iload_n 0, 1) := by decide +kernel
theorem dX5_isSymbol_1 : decode cX5_isSymbol 1 = .ok (.iconst 0, 1) := by decide +kernel
theorem dX5_isSymbol_2 : decode cX5_isSymbol 2 = .ok (.iconst 3, 1) := by decide +kernel
theorem dX5_isSymbol_3 : decode cX5_isSymbol 3 = .ok (.invokestatic 97, 3) := by decide +kernel
theorem dX5_isSymbol_6 : decode cX5_isSymbol 6 = .ok (.ireturn, 1) := by decide +kernel
set_option maxRecDepth 20000 in
theorem ggX5_deposit_X5_isAccount : GoodIn wsX5_deposit wsX5_isAccount := goodIn_r _ [9, 10, 11, 8, 12] (by decide +kernel) (by decide +kernel)
set_option maxRecDepth 20000 in
theorem gX5_deposit_X5_isAccount : GoodIn wsX5_deposit (va_wsS RX5 101 yX5_isAccount wsX5_isAccount) := goodIn_app (goodIn_of _ (by decide +kernel)) ggX5_deposit_X5_isAccount
set_option maxRecDepth 20000 in
theorem ggX5_deposit_X5_isIn : GoodIn wsX5_deposit wsX5_isIn := goodIn_r _ [12] (by decide +kernel) (by decide +kernel)
set_option maxRecDepth 20000 in
theorem gX5_deposit_X5_isIn : GoodIn wsX5_deposit (va_wsS RX5 97 yX5_isIn wsX5_isIn) := goodIn_app (goodIn_of _ (by decide +kernel)) ggX5_deposit_X5_isIn
theorem dX5_deposit_0 : decode cX5_deposit 0 = .ok (.aload_n 0, 1) := by decide +kernel
theorem dX5_deposit_1 : decode cX5_deposit 1 = .ok (.iload_n 1, 1) := by decide +kernel
theorem dX5_deposit_2 : decode cX5_deposit 2 = .ok (.invokestatic 101, 3) := by decide +kernel
theorem dX5_deposit_5 : decode cX5_deposit 5 = .ok (.ifCond .ne 7, 3) := by decide +kernel
theorem dX5_deposit_8 : decode cX5_deposit 8 = .ok (.iconst 1, 1) := by decide +kernel
theorem dX5_deposit_9 : decode cX5_deposit 9 = .ok (.goto 38, 3) := by decide +kernel
theorem dX5_deposit_12 : decode cX5_deposit 12 = .ok (.iload_n 2, 1) := by decide +kernel
theorem dX5_deposit_13 : decode cX5_deposit 13 = .ok (.iconst 1, 1) := by decide +kernel
theorem dX5_deposit_14 : decode cX5_deposit 14 = .ok (.ldc 105, 2) := by decide +kernel
theorem dX5_deposit_16 : decode cX5_deposit 16 = .ok (.invokestatic 97, 3) := by decide +kernel
theorem dX5_deposit_19 : decode cX5_deposit 19 = .ok (.ifCond .ne 7, 3) := by decide +kernel
theorem dX5_deposit_22 : decode cX5_deposit 22 = .ok (.iconst 2, 1) := by decide +kernel
theorem dX5_deposit_23 : decode cX5_deposit 23 = .ok (.goto 24, 3) := by decide +kernel
theorem dX5_deposit_26 : decode cX5_deposit 26 = .ok (.aload_n 0, 1) := by decide +kernel
theorem dX5_deposit_27 : decode cX5_deposit 27 = .ok (.getfield 7, 3) := by decide +kernel
theorem dX5_deposit_30 : decode cX5_deposit 30 = .ok (.iload_n 1, 1) := by decide +kernel
theorem dX5_deposit_31 : decode cX5_deposit 31 = .ok (.laload, 1) := by decide +kernel
theorem dX5_deposit_32 : decode cX5_deposit 32 = .ok (.iload_n 2, 1) := by decide +kernel
theorem dX5_deposit_33 : decode cX5_deposit 33 = .ok (.i2l, 1) := by decide +kernel
theorem dX5_deposit_34 : decode cX5_deposit 34 = .ok (.ladd, 1) := by decide +kernel
theorem dX5_deposit_35 : decode cX5_deposit 35 = .ok (.ldc2_w 106, 3) := by decide +kernel
theorem dX5_deposit_38 : decode cX5_deposit 38 = .ok (.lcmp, 1) := by decide +kernel
theorem dX5_deposit_39 : decode cX5_deposit 39 = .ok (.ifCond .le 7, 3) := by decide +kernel
theorem dX5_deposit_42 : decode cX5_deposit 42 = .ok (.iconst 3, 1) := by decide +kernel
theorem dX5_deposit_43 : decode cX5_deposit 43 = .ok (.goto 4, 3) := by decide +kernel
theorem dX5_deposit_46 : decode cX5_deposit 46 = .ok (.iconst 0, 1) := by decide +kernel
theorem dX5_deposit_47 : decode cX5_deposit 47 = .ok (.putfield 93, 3) := by decide +kernel
theorem dX5_deposit_50 : decode cX5_deposit 50 = .ok (.aload_n 0, 1) := by decide +kernel
theorem dX5_deposit_51 : decode cX5_deposit 51 = .ok (.getfield 93, 3) := by decide +kernel
theorem dX5_deposit_54 : decode cX5_deposit 54 = .ok (.ifCond .le 5, 3) := by decide +kernel
theorem dX5_deposit_57 : decode cX5_deposit 57 = .ok (.lconst 0, 1) := by decide +kernel
theorem dX5_deposit_58 : decode cX5_deposit 58 = .ok (.lreturn, 1) := by decide +kernel
theorem dX5_deposit_59 : decode cX5_deposit 59 = .ok (.aload_n 0, 1) := by decide +kernel
theorem dX5_deposit_60 : decode cX5_deposit 60 = .ok (.getfield 7, 3) := by decide +kernel
theorem dX5_deposit_63 : decode cX5_deposit 63 = .ok (.iload_n 1, 1) := by decide +kernel
theorem dX5_deposit_64 : decode cX5_deposit 64 = .ok (.dup2, 1) := by decide +kernel
theorem dX5_deposit_65 : decode cX5_deposit 65 = .ok (.laload, 1) := by decide +kernel
theorem dX5_deposit_66 : decode cX5_deposit 66 = .ok (.iload_n 2, 1) := by decide +kernel
theorem dX5_deposit_67 : decode cX5_deposit 67 = .ok (.i2l, 1) := by decide +kernel
theorem dX5_deposit_68 : decode cX5_deposit 68 = .ok (.ladd, 1) := by decide +kernel
theorem dX5_deposit_69 : decode cX5_deposit 69 = .ok (.lastore, 1) := by decide +kernel
theorem dX5_deposit_70 : decode cX5_deposit 70 = .ok (.aload_n 0, 1) := by decide +kernel
theorem dX5_deposit_71 : decode cX5_deposit 71 = .ok (.getfield 29, 3) := by decide +kernel
theorem dX5_deposit_74 : decode cX5_deposit 74 = .ok (.iload_n 1, 1) := by decide +kernel
theorem dX5_deposit_75 : decode cX5_deposit 75 = .ok (.iconst 1, 1) := by decide +kernel
theorem dX5_deposit_76 : decode cX5_deposit 76 = .ok (.bastore, 1) := by decide +kernel
theorem dX5_deposit_77 : decode cX5_deposit 77 = .ok (.aload_n 0, 1) := by decide +kernel
theorem dX5_deposit_78 : decode cX5_deposit 78 = .ok (.getfield 7, 3) := by decide +kernel
theorem dX5_deposit_81 : decode cX5_deposit 81 = .ok (.iload_n 1, 1) := by decide +kernel
theorem dX5_deposit_82 : decode cX5_deposit 82 = .ok (.laload, 1) := by decide +kernel
theorem dX5_deposit_83 : decode cX5_deposit 83 = .ok (.lreturn, 1) := by decide +kernel
set_option maxRecDepth 20000 in
theorem ggX5_withdraw_X5_isAccount : GoodIn wsX5_withdraw wsX5_isAccount := goodIn_r _ [8, 9, 10, 7, 11] (by decide +kernel) (by decide +kernel)
set_option maxRecDepth 20000 in
theorem gX5_withdraw_X5_isAccount : GoodIn wsX5_withdraw (va_wsS RX5 101 yX5_isAccount wsX5_isAccount) := goodIn_app (goodIn_of _ (by decide +kernel)) ggX5_withdraw_X5_isAccount
set_option maxRecDepth 20000 in
theorem ggX5_withdraw_X5_isIn : GoodIn wsX5_withdraw wsX5_isIn := goodIn_r _ [11] (by decide +kernel) (by decide +kernel)
set_option maxRecDepth 20000 in
theorem gX5_withdraw_X5_isIn : GoodIn wsX5_withdraw (va_wsS RX5 97 yX5_isIn wsX5_isIn) := goodIn_app (goodIn_of _ (by decide +kernel)) ggX5_withdraw_X5_isIn
theorem dX5_withdraw_0 : decode cX5_withdraw 0 = .ok (.aload_n 0, 1) := by decide +kernel
theorem dX5_withdraw_1 : decode cX5_withdraw 1 = .ok (.iload_n 1, 1) := by decide +kernel
theorem dX5_withdraw_2 : decode cX5_withdraw 2 = .ok (.invokestatic 101, 3) := by decide +kernel
theorem dX5_withdraw_5 : decode cX5_withdraw 5 = .ok (.ifCond .ne 7, 3) := by decide +kernel
theorem dX5_withdraw_8 : decode cX5_withdraw 8 = .ok (.iconst 1, 1) := by decide +kernel
theorem dX5_withdraw_9 : decode cX5_withdraw 9 = .ok (.goto 41, 3) := by decide +kernel
theorem dX5_withdraw_12 : decode cX5_withdraw 12 = .ok (.iload_n 2, 1) := by decide +kernel
theorem dX5_withdraw_13 : decode cX5_withdraw 13 = .ok (.iconst 1, 1) := by decide +kernel
theorem dX5_withdraw_14 : decode cX5_withdraw 14 = .ok (.ldc 105, 2) := by decide +kernel
theorem dX5_withdraw_16 : decode cX5_withdraw 16 = .ok (.invokestatic 97, 3) := by decide +kernel
theorem dX5_withdraw_19 : decode cX5_withdraw 19 = .ok (.ifCond .ne 7, 3) := by decide +kernel
theorem dX5_withdraw_22 : decode cX5_withdraw 22 = .ok (.iconst 2, 1) := by decide +kernel
theorem dX5_withdraw_23 : decode cX5_withdraw 23 = .ok (.goto 27, 3) := by decide +kernel
theorem dX5_withdraw_26 : decode cX5_withdraw 26 = .ok (.aload_n 0, 1) := by decide +kernel
theorem dX5_withdraw_27 : decode cX5_withdraw 27 = .ok (.getfield 7, 3) := by decide +kernel
theorem dX5_withdraw_30 : decode cX5_withdraw 30 = .ok (.iload_n 1, 1) := by decide +kernel
theorem dX5_withdraw_31 : decode cX5_withdraw 31 = .ok (.laload, 1) := by decide +kernel
theorem dX5_withdraw_32 : decode cX5_withdraw 32 = .ok (.aload_n 0, 1) := by decide +kernel
theorem dX5_withdraw_33 : decode cX5_withdraw 33 = .ok (.getfield 13, 3) := by decide +kernel
theorem dX5_withdraw_36 : decode cX5_withdraw 36 = .ok (.iload_n 1, 1) := by decide +kernel
theorem dX5_withdraw_37 : decode cX5_withdraw 37 = .ok (.laload, 1) := by decide +kernel
theorem dX5_withdraw_38 : decode cX5_withdraw 38 = .ok (.lsub, 1) := by decide +kernel
theorem dX5_withdraw_39 : decode cX5_withdraw 39 = .ok (.iload_n 2, 1) := by decide +kernel
theorem dX5_withdraw_40 : decode cX5_withdraw 40 = .ok (.i2l, 1) := by decide +kernel
theorem dX5_withdraw_41 : decode cX5_withdraw 41 = .ok (.lcmp, 1) := by decide +kernel
theorem dX5_withdraw_42 : decode cX5_withdraw 42 = .ok (.ifCond .ge 7, 3) := by decide +kernel
theorem dX5_withdraw_45 : decode cX5_withdraw 45 = .ok (.iconst 3, 1) := by decide +kernel
theorem dX5_withdraw_46 : decode cX5_withdraw 46 = .ok (.goto 4, 3) := by decide +kernel
theorem dX5_withdraw_49 : decode cX5_withdraw 49 = .ok (.iconst 0, 1) := by decide +kernel
theorem dX5_withdraw_50 : decode cX5_withdraw 50 = .ok (.putfield 93, 3) := by decide +kernel
theorem dX5_withdraw_53 : decode cX5_withdraw 53 = .ok (.aload_n 0, 1) := by decide +kernel
theorem dX5_withdraw_54 : decode cX5_withdraw 54 = .ok (.getfield 93, 3) := by decide +kernel
theorem dX5_withdraw_57 : decode cX5_withdraw 57 = .ok (.ifCond .le 5, 3) := by decide +kernel
theorem dX5_withdraw_60 : decode cX5_withdraw 60 = .ok (.lconst 0, 1) := by decide +kernel
theorem dX5_withdraw_61 : decode cX5_withdraw 61 = .ok (.lreturn, 1) := by decide +kernel
theorem dX5_withdraw_62 : decode cX5_withdraw 62 = .ok (.aload_n 0, 1) := by decide +kernel
theorem dX5_withdraw_63 : decode cX5_withdraw 63 = .ok (.getfield 7, 3) := by decide +kernel
theorem dX5_withdraw_66 : decode cX5_withdraw 66 = .ok (.iload_n 1, 1) := by decide +kernel
theorem dX5_withdraw_67 : decode cX5_withdraw 67 = .ok (.dup2, 1) := by decide +kernel
theorem dX5_withdraw_68 : decode cX5_withdraw 68 = .ok (.laload, 1) := by decide +kernel
theorem dX5_withdraw_69 : decode cX5_withdraw 69 = .ok (.iload_n 2, 1) := by decide +kernel
theorem dX5_withdraw_70 : decode cX5_withdraw 70 = .ok (.i2l, 1) := by decide +kernel
theorem dX5_withdraw_71 : decode cX5_withdraw 71 = .ok (.lsub, 1) := by decide +kernel
theorem dX5_withdraw_72 : decode cX5_withdraw 72 = .ok (.lastore, 1) := by decide +kernel
theorem dX5_withdraw_73 : decode cX5_withdraw 73 = .ok (.aload_n 0, 1) := by decide +kernel
theorem dX5_withdraw_74 : decode cX5_withdraw 74 = .ok (.getfield 7, 3) := by decide +kernel
theorem dX5_withdraw_77 : decode cX5_withdraw 77 = .ok (.iload_n 1, 1) := by decide +kernel
theorem dX5_withdraw_78 : decode cX5_withdraw 78 = .ok (.laload, 1) := by decide +kernel
theorem dX5_withdraw_79 : decode cX5_withdraw 79 = .ok (.lreturn, 1) := by decide +kernel
theorem dX5_cell_0 : decode cX5_cell 0 = .ok (.iconst 4, 1) := by decide +kernel
theorem dX5_cell_1 : decode cX5_cell 1 = .ok (.iload_n 0, 1) := by decide +kernel
theorem dX5_cell_2 : decode cX5_cell 2 = .ok (.imul, 1) := by decide +kernel
theorem dX5_cell_3 : decode cX5_cell 3 = .ok (.iload_n 1, 1) := by decide +kernel
theorem dX5_cell_4 : decode cX5_cell 4 = .ok (.iadd, 1) := by decide +kernel
theorem dX5_cell_5 : decode cX5_cell 5 = .ok (.ireturn, 1) := by decide +kernel
set_option maxRecDepth 20000 in
theorem ggX5_grant_X5_isAccount : GoodIn wsX5_grant wsX5_isAccount := goodIn_r _ [9, 10, 11, 8, 12] (by decide +kernel) (by decide +kernel)
set_option maxRecDepth 20000 in
theorem gX5_grant_X5_isAccount : GoodIn wsX5_grant (va_wsS RX5 101 yX5_isAccount wsX5_isAccount) := goodIn_app (goodIn_of _ (by decide +kernel)) ggX5_grant_X5_isAccount
set_option maxRecDepth 20000 in
theorem ggX5_grant_X5_isSymbol : GoodIn wsX5_grant wsX5_isSymbol := goodIn_r _ [15, 10, 11, 8, 12] (by decide +kernel) (by decide +kernel)
set_option maxRecDepth 20000 in
theorem gX5_grant_X5_isSymbol : GoodIn wsX5_grant (va_wsS RX5 108 yX5_isSymbol wsX5_isSymbol) := goodIn_app (goodIn_of _ (by decide +kernel)) ggX5_grant_X5_isSymbol
set_option maxRecDepth 20000 in
theorem ggX5_grant_X5_isIn : GoodIn wsX5_grant wsX5_isIn := goodIn_r _ [12] (by decide +kernel) (by decide +kernel)
set_option maxRecDepth 20000 in
theorem gX5_grant_X5_isIn : GoodIn wsX5_grant (va_wsS RX5 97 yX5_isIn wsX5_isIn) := goodIn_app (goodIn_of _ (by decide +kernel)) ggX5_grant_X5_isIn
set_option maxRecDepth 20000 in
theorem ggX5_grant_X5_cell : GoodIn wsX5_grant wsX5_cell := goodIn_r _ [18] (by decide +kernel) (by decide +kernel)
set_option maxRecDepth 20000 in
theorem gX5_grant_X5_cell : GoodIn wsX5_grant (va_wsS RX5 112 yX5_cell wsX5_cell) := goodIn_app (goodIn_of _ (by decide +kernel)) ggX5_grant_X5_cell
theorem dX5_grant_0 : decode cX5_grant 0 = .ok (.iload_n 1, 1) := by decide +kernel
theorem dX5_grant_1 : decode cX5_grant 1 = .ok (.invokestatic 101, 3) := by decide +kernel
theorem dX5_grant_4 : decode cX5_grant 4 = .ok (.ifCond .eq 14, 3) := by decide +kernel
theorem dX5_grant_7 : decode cX5_grant 7 = .ok (.iload_n 2, 1) := by decide +kernel
theorem dX5_grant_8 : decode cX5_grant 8 = .ok (.invokestatic 108, 3) := by decide +kernel
theorem dX5_grant_11 : decode cX5_grant 11 = .ok (.ifCond .eq 7, 3) := by decide +kernel
theorem dX5_grant_14 : decode cX5_grant 14 = .ok (.iconst 1, 1) := by decide +kernel
theorem dX5_grant_15 : decode cX5_grant 15 = .ok (.goto 4, 3) := by decide +kernel
theorem dX5_grant_18 : decode cX5_grant 18 = .ok (.iconst 0, 1) := by decide +kernel
theorem dX5_grant_19 : decode cX5_grant 19 = .ok (.istore 4, 2) := by decide +kernel
theorem dX5_grant_21 : decode cX5_grant 21 = .ok (.aload_n 0, 1) := by decide +kernel
theorem dX5_grant_22 : decode cX5_grant 22 = .ok (.iload 4, 2) := by decide +kernel
theorem dX5_grant_24 : decode cX5_grant 24 = .ok (.ifCond .ne 7, 3) := by decide +kernel
theorem dX5_grant_27 : decode cX5_grant 27 = .ok (.iconst 1, 1) := by decide +kernel
theorem dX5_grant_28 : decode cX5_grant 28 = .ok (.goto 39, 3) := by decide +kernel
theorem dX5_grant_31 : decode cX5_grant 31 = .ok (.iload_n 3, 1) := by decide +kernel
theorem dX5_grant_32 : decode cX5_grant 32 = .ok (.iconst 1, 1) := by decide +kernel
theorem dX5_grant_33 : decode cX5_grant 33 = .ok (.ldc 111, 2) := by decide +kernel
theorem dX5_grant_35 : decode cX5_grant 35 = .ok (.invokestatic 97, 3) := by decide +kernel
theorem dX5_grant_38 : decode cX5_grant 38 = .ok (.ifCond .ne 7, 3) := by decide +kernel
theorem dX5_grant_41 : decode cX5_grant 41 = .ok (.iconst 2, 1) := by decide +kernel
theorem dX5_grant_42 : decode cX5_grant 42 = .ok (.goto 25, 3) := by decide +kernel
theorem dX5_grant_45 : decode cX5_grant 45 = .ok (.aload_n 0, 1) := by decide +kernel
theorem dX5_grant_46 : decode cX5_grant 46 = .ok (.getfield 16, 3) := by decide +kernel
theorem dX5_grant_49 : decode cX5_grant 49 = .ok (.iload_n 1, 1) := by decide +kernel
theorem dX5_grant_50 : decode cX5_grant 50 = .ok (.iload_n 2, 1) := by decide +kernel
theorem dX5_grant_51 : decode cX5_grant 51 = .ok (.invokestatic 112, 3) := by decide +kernel
theorem dX5_grant_54 : decode cX5_grant 54 = .ok (.iaload, 1) := by decide +kernel
theorem dX5_grant_55 : decode cX5_grant 55 = .ok (.iload_n 3, 1) := by decide +kernel
theorem dX5_grant_56 : decode cX5_grant 56 = .ok (.iadd, 1) := by decide +kernel
theorem dX5_grant_57 : decode cX5_grant 57 = .ok (.ldc 105, 2) := by decide +kernel
theorem dX5_grant_59 : decode cX5_grant 59 = .ok (.if_icmp .le 7, 3) := by decide +kernel
theorem dX5_grant_62 : decode cX5_grant 62 = .ok (.iconst 3, 1) := by decide +kernel
theorem dX5_grant_63 : decode cX5_grant 63 = .ok (.goto 4, 3) := by decide +kernel
theorem dX5_grant_66 : decode cX5_grant 66 = .ok (.iconst 0, 1) := by decide +kernel
theorem dX5_grant_67 : decode cX5_grant 67 = .ok (.putfield 93, 3) := by decide +kernel
theorem dX5_grant_70 : decode cX5_grant 70 = .ok (.aload_n 0, 1) := by decide +kernel
theorem dX5_grant_71 : decode cX5_grant 71 = .ok (.getfield 93, 3) := by decide +kernel
theorem dX5_grant_74 : decode cX5_grant 74 = .ok (.ifCond .le 5, 3) := by decide +kernel
theorem dX5_grant_77 : decode cX5_grant 77 = .ok (.iconst 0, 1) := by decide +kernel
theorem dX5_grant_78 : decode cX5_grant 78 = .ok (.ireturn, 1) := by decide +kernel
theorem dX5_grant_79 : decode cX5_grant 79 = .ok (.aload_n 0, 1) := by decide +kernel
theorem dX5_grant_80 : decode cX5_grant 80 = .ok (.getfield 16, 3) := by decide +kernel
theorem dX5_grant_83 : decode cX5_grant 83 = .ok (.iload_n 1, 1) := by decide +kernel
theorem dX5_grant_84 : decode cX5_grant 84 = .ok (.iload_n 2, 1) := by decide +kernel
theorem dX5_grant_85 : decode cX5_grant 85 = .ok (.invokestatic 112, 3) := by decide +kernel
theorem dX5_grant_88 : decode cX5_grant 88 = .ok (.dup2, 1) := by decide +kernel
theorem dX5_grant_89 : decode cX5_grant 89 = .ok (.iaload, 1) := by decide +kernel
theorem dX5_grant_90 : decode cX5_grant 90 = .ok (.iload_n 3, 1) := by decide +kernel
theorem dX5_grant_91 : decode cX5_grant 91 = .ok (.iadd, 1) := by decide +kernel
theorem dX5_grant_92 : decode cX5_grant 92 = .ok (.iastore, 1) := by decide +kernel
theorem dX5_grant_93 : decode cX5_grant 93 = .ok (.aload_n 0, 1) := by decide +kernel
theorem dX5_grant_94 : decode cX5_grant 94 = .ok (.getfield 29, 3) := by decide +kernel
theorem dX5_grant_97 : decode cX5_grant 97 = .ok (.iload_n 1, 1) := by decide +kernel
theorem dX5_grant_98 : decode cX5_grant 98 = .ok (.iconst 1, 1) := by decide +kernel
theorem dX5_grant_99 : decode cX5_grant 99 = .ok (.bastore, 1) := by decide +kernel
theorem dX5_grant_100 : decode cX5_grant 100 = .ok (.aload_n 0, 1) := by decide +kernel
theorem dX5_grant_101 : decode cX5_grant 101 = .ok (.getfield 16, 3) := by decide +kernel
theorem dX5_grant_104 : decode cX5_grant 104 = .ok (.iload_n 1, 1) := by decide +kernel
theorem dX5_grant_105 : decode cX5_grant 105 = .ok (.iload_n 2, 1) := by decide +kernel
theorem dX5_grant_106 : decode cX5_grant 106 = .ok (.invokestatic 112, 3) := by decide +kernel
theorem dX5_grant_109 : decode cX5_grant 109 = .ok (.iaload, 1) := by decide +kernel
theorem dX5_grant_110 : decode cX5_grant 110 = .ok (.ireturn, 1) := by decide +kernel
theorem dX5_isThere_0 : decode cX5_isThere 0 = .ok (.aload_n 0, 1) := by decide +kernel
theorem dX5_isThere_1 : decode cX5_isThere 1 = .ok (.getfield 57, 3) := by decide +kernel
theorem dX5_isThere_4 : decode cX5_isThere 4 = .ok (.iload_n 1, 1) := by decide +kernel
theorem dX5_isThere_5 : decode cX5_isThere 5 = .ok (.iaload, 1) := by decide +kernel
theorem dX5_isThere_6 : decode cX5_isThere 6 = .ok (.ifCond .eq 13, 3) := by decide +kernel
theorem dX5_isThere_9 : decode cX5_isThere 9 = .ok (.aload_n 0, 1) := by decide +kernel
theorem dX5_isThere_10 : decode cX5_isThere 10 = .ok (.getfield 57, 3) := by decide +kernel
theorem dX5_isThere_13 : decode cX5_isThere 13 = .ok (.iload_n 1, 1) := by decide +kernel
theorem dX5_isThere_14 : decode cX5_isThere 14 = .ok (.iaload, 1) := by decide +kernel
theorem dX5_isThere_15 : decode cX5_isThere 15 = .ok (.iconst 1, 1) := by decide +kernel
theorem dX5_isThere_16 : decode cX5_isThere 16 = .ok (.if_icmp .ne 7, 3) := by decide +kernel
theorem dX5_isThere_19 : decode cX5_isThere 19 = .ok (.iconst 1, 1) := by decide +kernel
theorem dX5_isThere_20 : decode cX5_isThere 20 = .ok (.goto 4, 3) := by decide +kernel
theorem dX5_isThere_23 : decode cX5_isThere 23 = .ok (.iconst 0, 1) := by decide +kernel
theorem dX5_isThere_24 : decode cX5_isThere 24 = .ok (.ireturn, 1) := by decide +kernel
set_option maxRecDepth 20000 in
theorem ggX5_there_X5_isThere : GoodIn wsX5_there wsX5_isThere := goodIn_r _ [6, 7, 8, 9, 10, 11, 12, 13, 14, 15, 16, 17, 18, 19, 20, 21, 22, 23, 24, 25, 26, 27, 28, 29, 30, 31, 32, 33, 34, 35, 36, 37, 38, 39] (by decide +kernel) (by decide +kernel)
set_option maxRecDepth 20000 in
theorem gX5_there_X5_isThere : GoodIn wsX5_there (wsV RX5 119 RX5 yX5_isThere wsX5_isThere) := goodIn_app (goodIn_of _ (by decide +kernel)) ggX5_there_X5_isThere
theorem dX5_there_0 : decode cX5_there 0 = .ok (.iconst 0, 1) := by decide +kernel
theorem dX5_there_1 : decode cX5_there 1 = .ok (.istore_n 1, 1) := by decide +kernel
theorem dX5_there_2 : decode cX5_there 2 = .ok (.iconst 0, 1) := by decide +kernel
theorem dX5_there_3 : decode cX5_there 3 = .ok (.istore_n 2, 1) := by decide +kernel
theorem dX5_there_4 : decode cX5_there 4 = .ok (.iload_n 2, 1) := by decide +kernel
theorem dX5_there_5 : decode cX5_there 5 = .ok (.aload_n 0, 1) := by decide +kernel
theorem dX5_there_6 : decode cX5_there 6 = .ok (.getfield 116, 3) := by decide +kernel
theorem dX5_there_9 : decode cX5_there 9 = .ok (.if_icmp .ge 25, 3) := by decide +kernel
theorem dX5_there_12 : decode cX5_there 12 = .ok (.aload_n 0, 1) := by decide +kernel
theorem dX5_there_13 : decode cX5_there 13 = .ok (.iload_n 2, 1) := by decide +kernel
theorem dX5_there_14 : decode cX5_there 14 = .ok (.invokevirtual 119, 3) := by decide +kernel
theorem dX5_there_17 : decode cX5_there 17 = .ok (.ifCond .eq 9, 3) := by decide +kernel
theorem dX5_there_20 : decode cX5_there 20 = .ok (.iload_n 1, 1) := by decide +kernel
theorem dX5_there_21 : decode cX5_there 21 = .ok (.iconst 1, 1) := by decide +kernel
theorem dX5_there_22 : decode cX5_there 22 = .ok (.iadd, 1) := by decide +kernel
theorem dX5_there_23 : decode cX5_there 23 = .ok (.goto 4, 3) := by decide +kernel
theorem dX5_there_26 : decode cX5_there 26 = .ok (.iload_n 1, 1) := by decide +kernel
theorem dX5_there_27 : decode cX5_there 27 = .ok (.istore_n 1, 1) := by decide +kernel
theorem dX5_there_28 : decode cX5_there 28 = .ok (.iinc 2 1, 3) := by decide +kernel
theorem dX5_there_31 : decode cX5_there 31 = .ok (.goto (-27), 3) := by decide +kernel
theorem dX5_there_34 : decode cX5_there 34 = .ok (.iload_n 1, 1) := by decide +kernel
theorem dX5_there_35 : decode cX5_there 35 = .ok (.ireturn, 1) := by decide +kernel
theorem dX5_rests_0 : decode cX5_rests 0 = .ok (.aload_n 0, 1) := by decide +kernel
theorem dX5_rests_1 : decode cX5_rests 1 = .ok (.getfield 57, 3) := by decide +kernel
theorem dX5_rests_4 : decode cX5_rests 4 = .ok (.iload_n 1, 1) := by decide +kernel
theorem dX5_rests_5 : decode cX5_rests 5 = .ok (.iaload, 1) := by decide +kernel
theorem dX5_rests_6 : decode cX5_rests 6 = .ok (.ifCond .ne 27, 3) := by decide +kernel
theorem dX5_rests_9 : decode cX5_rests 9 = .ok (.aload_n 0, 1) := by decide +kernel
theorem dX5_rests_10 : decode cX5_rests 10 = .ok (.getfield 36, 3) := by decide +kernel
theorem dX5_rests_13 : decode cX5_rests 13 = .ok (.iload_n 1, 1) := by decide +kernel
theorem dX5_rests_14 : decode cX5_rests 14 = .ok (.iaload, 1) := by decide +kernel
theorem dX5_rests_15 : decode cX5_rests 15 = .ok (.iload_n 2, 1) := by decide +kernel
theorem dX5_rests_16 : decode cX5_rests 16 = .ok (.if_icmp .ne 17, 3) := by decide +kernel
theorem dX5_rests_19 : decode cX5_rests 19 = .ok (.aload_n 0, 1) := by decide +kernel
theorem dX5_rests_20 : decode cX5_rests 20 = .ok (.getfield 39, 3) := by decide +kernel
theorem dX5_rests_23 : decode cX5_rests 23 = .ok (.iload_n 1, 1) := by decide +kernel
theorem dX5_rests_24 : decode cX5_rests 24 = .ok (.iaload, 1) := by decide +kernel
theorem dX5_rests_25 : decode cX5_rests 25 = .ok (.iload_n 3, 1) := by decide +kernel
theorem dX5_rests_26 : decode cX5_rests 26 = .ok (.if_icmp .ne 7, 3) := by decide +kernel
theorem dX5_rests_29 : decode cX5_rests 29 = .ok (.iconst 1, 1) := by decide +kernel
theorem dX5_rests_30 : decode cX5_rests 30 = .ok (.goto 4, 3) := by decide +kernel
theorem dX5_rests_33 : decode cX5_rests 33 = .ok (.iconst 0, 1) := by decide +kernel
theorem dX5_rests_34 : decode cX5_rests 34 = .ok (.ireturn, 1) := by decide +kernel
theorem dX5_isBetter_0 : decode cX5_isBetter 0 = .ok (.iload_n 0, 1) := by decide +kernel
theorem dX5_isBetter_1 : decode cX5_isBetter 1 = .ok (.ifCond .ne 16, 3) := by decide +kernel
theorem dX5_isBetter_4 : decode cX5_isBetter 4 = .ok (.iload_n 1, 1) := by decide +kernel
theorem dX5_isBetter_5 : decode cX5_isBetter 5 = .ok (.iload_n 2, 1) := by decide +kernel
theorem dX5_isBetter_6 : decode cX5_isBetter 6 = .ok (.if_icmp .le 7, 3) := by decide +kernel
theorem dX5_isBetter_9 : decode cX5_isBetter 9 = .ok (.iconst 1, 1) := by decide +kernel
theorem dX5_isBetter_10 : decode cX5_isBetter 10 = .ok (.goto 17, 3) := by decide +kernel
theorem dX5_isBetter_13 : decode cX5_isBetter 13 = .ok (.iconst 0, 1) := by decide +kernel
theorem dX5_isBetter_14 : decode cX5_isBetter 14 = .ok (.goto 13, 3) := by decide +kernel
theorem dX5_isBetter_17 : decode cX5_isBetter 17 = .ok (.iload_n 1, 1) := by decide +kernel
theorem dX5_isBetter_18 : decode cX5_isBetter 18 = .ok (.iload_n 2, 1) := by decide +kernel
theorem dX5_isBetter_19 : decode cX5_isBetter 19 = .ok (.if_icmp .ge 7, 3) := by decide +kernel
theorem dX5_isBetter_22 : decode cX5_isBetter 22 = .ok (.iconst 1, 1) := by decide +kernel
theorem dX5_isBetter_23 : decode cX5_isBetter 23 = .ok (.goto 4, 3) := by decide +kernel
theorem dX5_isBetter_26 : decode cX5_isBetter 26 = .ok (.iconst 0, 1) := by decide +kernel
theorem dX5_isBetter_27 : decode cX5_isBetter 27 = .ok (.ireturn, 1) := by decide +kernel
set_option maxRecDepth 20000 in
theorem ggX5_first_X5_rests : GoodIn wsX5_first wsX5_rests := goodIn_r _ [8, 9, 10, 11, 15, 16, 17, 18, 19, 20, 21, 22, 23, 24, 25, 26, 27, 28, 29, 30, 31, 32, 33, 34, 35, 36, 37, 38, 39, 40, 41, 42, 43, 44, 45, 46] (by decide +kernel) (by decide +kernel)
set_option maxRecDepth 20000 in
theorem gX5_first_X5_rests : GoodIn wsX5_first (wsV RX5 122 RX5 yX5_rests wsX5_rests) := goodIn_app (goodIn_of _ (by decide +kernel)) ggX5_first_X5_rests
set_option maxRecDepth 20000 in
theorem ggX5_first_X5_isBetter : GoodIn wsX5_first wsX5_isBetter := goodIn_r _ [14] (by decide +kernel) (by decide +kernel)
set_option maxRecDepth 20000 in
theorem gX5_first_X5_isBetter : GoodIn wsX5_first (va_wsS RX5 125 yX5_isBetter wsX5_isBetter) := goodIn_app (goodIn_of _ (by decide +kernel)) ggX5_first_X5_isBetter
theorem dX5_first_0 : decode cX5_first 0 = .ok (.iconst (-1), 1) := by decide +kernel
theorem dX5_first_1 : decode cX5_first 1 = .ok (.istore_n 3, 1) := by decide +kernel
theorem dX5_first_2 : decode cX5_first 2 = .ok (.iconst 0, 1) := by decide +kernel
theorem dX5_first_3 : decode cX5_first 3 = .ok (.istore 4, 2) := by decide +kernel
theorem dX5_first_5 : decode cX5_first 5 = .ok (.iload 4, 2) := by decide +kernel
theorem dX5_first_7 : decode cX5_first 7 = .ok (.aload_n 0, 1) := by decide +kernel
theorem dX5_first_8 : decode cX5_first 8 = .ok (.getfield 116, 3) := by decide +kernel
theorem dX5_first_11 : decode cX5_first 11 = .ok (.if_icmp .ge 80, 3) := by decide +kernel
theorem dX5_first_14 : decode cX5_first 14 = .ok (.aload_n 0, 1) := by decide +kernel
theorem dX5_first_15 : decode cX5_first 15 = .ok (.iload 4, 2) := by decide +kernel
theorem dX5_first_17 : decode cX5_first 17 = .ok (.iload_n 1, 1) := by decide +kernel
theorem dX5_first_18 : decode cX5_first 18 = .ok (.iload_n 2, 1) := by decide +kernel
theorem dX5_first_19 : decode cX5_first 19 = .ok (.invokevirtual 122, 3) := by decide +kernel
theorem dX5_first_22 : decode cX5_first 22 = .ok (.ifCond .eq 63, 3) := by decide +kernel
theorem dX5_first_25 : decode cX5_first 25 = .ok (.iload_n 3, 1) := by decide +kernel
theorem dX5_first_26 : decode cX5_first 26 = .ok (.iconst (-1), 1) := by decide +kernel
theorem dX5_first_27 : decode cX5_first 27 = .ok (.if_icmp .eq 55, 3) := by decide +kernel
theorem dX5_first_30 : decode cX5_first 30 = .ok (.iload_n 2, 1) := by decide +kernel
theorem dX5_first_31 : decode cX5_first 31 = .ok (.aload_n 0, 1) := by decide +kernel
theorem dX5_first_32 : decode cX5_first 32 = .ok (.getfield 45, 3) := by decide +kernel
theorem dX5_first_35 : decode cX5_first 35 = .ok (.iload 4, 2) := by decide +kernel
theorem dX5_first_37 : decode cX5_first 37 = .ok (.iaload, 1) := by decide +kernel
theorem dX5_first_38 : decode cX5_first 38 = .ok (.aload_n 0, 1) := by decide +kernel
theorem dX5_first_39 : decode cX5_first 39 = .ok (.getfield 45, 3) := by decide +kernel
theorem dX5_first_42 : decode cX5_first 42 = .ok (.iload_n 3, 1) := by decide +kernel
theorem dX5_first_43 : decode cX5_first 43 = .ok (.iaload, 1) := by decide +kernel
theorem dX5_first_44 : decode cX5_first 44 = .ok (.invokestatic 125, 3) := by decide +kernel
theorem dX5_first_47 : decode cX5_first 47 = .ok (.ifCond .ne 35, 3) := by decide +kernel
theorem dX5_first_50 : decode cX5_first 50 = .ok (.aload_n 0, 1) := by decide +kernel
theorem dX5_first_51 : decode cX5_first 51 = .ok (.getfield 45, 3) := by decide +kernel
theorem dX5_first_54 : decode cX5_first 54 = .ok (.iload 4, 2) := by decide +kernel
theorem dX5_first_56 : decode cX5_first 56 = .ok (.iaload, 1) := by decide +kernel
theorem dX5_first_57 : decode cX5_first 57 = .ok (.aload_n 0, 1) := by decide +kernel
theorem dX5_first_58 : decode cX5_first 58 = .ok (.getfield 45, 3) := by decide +kernel
theorem dX5_first_61 : decode cX5_first 61 = .ok (.iload_n 3, 1) := by decide +kernel
theorem dX5_first_62 : decode cX5_first 62 = .ok (.iaload, 1) := by decide +kernel
theorem dX5_first_63 : decode cX5_first 63 = .ok (.if_icmp .ne 22, 3) := by decide +kernel
theorem dX5_first_66 : decode cX5_first 66 = .ok (.aload_n 0, 1) := by decide +kernel
theorem dX5_first_67 : decode cX5_first 67 = .ok (.getfield 66, 3) := by decide +kernel
theorem dX5_first_70 : decode cX5_first 70 = .ok (.iload 4, 2) := by decide +kernel
theorem dX5_first_72 : decode cX5_first 72 = .ok (.iaload, 1) := by decide +kernel
theorem dX5_first_73 : decode cX5_first 73 = .ok (.aload_n 0, 1) := by decide +kernel
theorem dX5_first_74 : decode cX5_first 74 = .ok (.getfield 66, 3) := by decide +kernel
theorem dX5_first_77 : decode cX5_first 77 = .ok (.iload_n 3, 1) := by decide +kernel
theorem dX5_first_78 : decode cX5_first 78 = .ok (.iaload, 1) := by decide +kernel
theorem dX5_first_79 : decode cX5_first 79 = .ok (.if_icmp .ge 6, 3) := by decide +kernel
theorem dX5_first_82 : decode cX5_first 82 = .ok (.iload 4, 2) := by decide +kernel
theorem dX5_first_84 : decode cX5_first 84 = .ok (.istore_n 3, 1) := by decide +kernel
theorem dX5_first_85 : decode cX5_first 85 = .ok (.iinc 4 1, 3) := by decide +kernel
theorem dX5_first_88 : decode cX5_first 88 = .ok (.goto (-83), 3) := by decide +kernel
theorem dX5_first_91 : decode cX5_first 91 = .ok (.iload_n 3, 1) := by decide +kernel
theorem dX5_first_92 : decode cX5_first 92 = .ok (.ireturn, 1) := by decide +kernel
theorem dX5_allows_0 : decode cX5_allows 0 = .ok (.aload_n 0, 1) := by decide +kernel
theorem dX5_allows_1 : decode cX5_allows 1 = .ok (.getfield 39, 3) := by decide +kernel
theorem dX5_allows_4 : decode cX5_allows 4 = .ok (.iload_n 1, 1) := by decide +kernel
theorem dX5_allows_5 : decode cX5_allows 5 = .ok (.iaload, 1) := by decide +kernel
theorem dX5_allows_6 : decode cX5_allows 6 = .ok (.ifCond .ne 26, 3) := by decide +kernel
theorem dX5_allows_9 : decode cX5_allows 9 = .ok (.aload_n 0, 1) := by decide +kernel
theorem dX5_allows_10 : decode cX5_allows 10 = .ok (.getfield 45, 3) := by decide +kernel
theorem dX5_allows_13 : decode cX5_allows 13 = .ok (.iload_n 2, 1) := by decide +kernel
theorem dX5_allows_14 : decode cX5_allows 14 = .ok (.iaload, 1) := by decide +kernel
theorem dX5_allows_15 : decode cX5_allows 15 = .ok (.aload_n 0, 1) := by decide +kernel
theorem dX5_allows_16 : decode cX5_allows 16 = .ok (.getfield 45, 3) := by decide +kernel
theorem dX5_allows_19 : decode cX5_allows 19 = .ok (.iload_n 1, 1) := by decide +kernel
theorem dX5_allows_20 : decode cX5_allows 20 = .ok (.iaload, 1) := by decide +kernel
theorem dX5_allows_21 : decode cX5_allows 21 = .ok (.if_icmp .gt 7, 3) := by decide +kernel
theorem dX5_allows_24 : decode cX5_allows 24 = .ok (.iconst 1, 1) := by decide +kernel
theorem dX5_allows_25 : decode cX5_allows 25 = .ok (.goto 27, 3) := by decide +kernel
theorem dX5_allows_28 : decode cX5_allows 28 = .ok (.iconst 0, 1) := by decide +kernel
theorem dX5_allows_29 : decode cX5_allows 29 = .ok (.goto 23, 3) := by decide +kernel
theorem dX5_allows_32 : decode cX5_allows 32 = .ok (.aload_n 0, 1) := by decide +kernel
theorem dX5_allows_33 : decode cX5_allows 33 = .ok (.getfield 45, 3) := by decide +kernel
theorem dX5_allows_36 : decode cX5_allows 36 = .ok (.iload_n 2, 1) := by decide +kernel
theorem dX5_allows_37 : decode cX5_allows 37 = .ok (.iaload, 1) := by decide +kernel
theorem dX5_allows_38 : decode cX5_allows 38 = .ok (.aload_n 0, 1) := by decide +kernel
theorem dX5_allows_39 : decode cX5_allows 39 = .ok (.getfield 45, 3) := by decide +kernel
theorem dX5_allows_42 : decode cX5_allows 42 = .ok (.iload_n 1, 1) := by decide +kernel
theorem dX5_allows_43 : decode cX5_allows 43 = .ok (.iaload, 1) := by decide +kernel
theorem dX5_allows_44 : decode cX5_allows 44 = .ok (.if_icmp .lt 7, 3) := by decide +kernel
theorem dX5_allows_47 : decode cX5_allows 47 = .ok (.iconst 1, 1) := by decide +kernel
theorem dX5_allows_48 : decode cX5_allows 48 = .ok (.goto 4, 3) := by decide +kernel
theorem dX5_allows_51 : decode cX5_allows 51 = .ok (.iconst 0, 1) := by decide +kernel
theorem dX5_allows_52 : decode cX5_allows 52 = .ok (.ireturn, 1) := by decide +kernel
set_option maxRecDepth 20000 in
theorem ggX5_free_X5_cell : GoodIn wsX5_free wsX5_cell := goodIn_r _ [10] (by decide +kernel) (by decide +kernel)
set_option maxRecDepth 20000 in
theorem gX5_free_X5_cell : GoodIn wsX5_free (va_wsS RX5 112 yX5_cell wsX5_cell) := goodIn_app (goodIn_of _ (by decide +kernel)) ggX5_free_X5_cell
theorem dX5_free_0 : decode cX5_free 0 = .ok (.aload_n 0, 1) := by decide +kernel
theorem dX5_free_1 : decode cX5_free 1 = .ok (.getfield 33, 3) := by decide +kernel
theorem dX5_free_4 : decode cX5_free 4 = .ok (.iload_n 1, 1) := by decide +kernel
theorem dX5_free_5 : decode cX5_free 5 = .ok (.iaload, 1) := by decide +kernel
theorem dX5_free_6 : decode cX5_free 6 = .ok (.istore_n 3, 1) := by decide +kernel
theorem dX5_free_7 : decode cX5_free 7 = .ok (.aload_n 0, 1) := by decide +kernel
theorem dX5_free_8 : decode cX5_free 8 = .ok (.getfield 39, 3) := by decide +kernel
theorem dX5_free_11 : decode cX5_free 11 = .ok (.iload_n 1, 1) := by decide +kernel
theorem dX5_free_12 : decode cX5_free 12 = .ok (.iaload, 1) := by decide +kernel
theorem dX5_free_13 : decode cX5_free 13 = .ok (.ifCond .ne 25, 3) := by decide +kernel
theorem dX5_free_16 : decode cX5_free 16 = .ok (.aload_n 0, 1) := by decide +kernel
theorem dX5_free_17 : decode cX5_free 17 = .ok (.getfield 13, 3) := by decide +kernel
theorem dX5_free_20 : decode cX5_free 20 = .ok (.iload_n 3, 1) := by decide +kernel
theorem dX5_free_21 : decode cX5_free 21 = .ok (.dup2, 1) := by decide +kernel
theorem dX5_free_22 : decode cX5_free 22 = .ok (.laload, 1) := by decide +kernel
end
section
theorem dX5_free_23 : decode cX5_free 23 = .ok (.aload_n 0, 1) := by decide +kernel
theorem dX5_free_24 : decode cX5_free 24 = .ok (.getfield 45, 3) := by decide +kernel
theorem dX5_free_27 : decode cX5_free 27 = .ok (.iload_n 1, 1) := by decide +kernel
theorem dX5_free_28 : decode cX5_free 28 = .ok (.iaload, 1) := by decide +kernel
theorem dX5_free_29 : decode cX5_free 29 = .ok (.i2l, 1) := by decide +kernel
theorem dX5_free_30 : decode cX5_free 30 = .ok (.iload_n 2, 1) := by decide +kernel
theorem dX5_free_31 : decode cX5_free 31 = .ok (.i2l, 1) := by decide +kernel
theorem dX5_free_32 : decode cX5_free 32 = .ok (.lmul, 1) := by decide +kernel
theorem dX5_free_33 : decode cX5_free 33 = .ok (.lsub, 1) := by decide +kernel
theorem dX5_free_34 : decode cX5_free 34 = .ok (.lastore, 1) := by decide +kernel
theorem dX5_free_35 : decode cX5_free 35 = .ok (.goto 22, 3) := by decide +kernel
theorem dX5_free_38 : decode cX5_free 38 = .ok (.aload_n 0, 1) := by decide +kernel
theorem dX5_free_39 : decode cX5_free 39 = .ok (.getfield 20, 3) := by decide +kernel
theorem dX5_free_42 : decode cX5_free 42 = .ok (.iload_n 3, 1) := by decide +kernel
theorem dX5_free_43 : decode cX5_free 43 = .ok (.aload_n 0, 1) := by decide +kernel
theorem dX5_free_44 : decode cX5_free 44 = .ok (.getfield 36, 3) := by decide +kernel
theorem dX5_free_47 : decode cX5_free 47 = .ok (.iload_n 1, 1) := by decide +kernel
theorem dX5_free_48 : decode cX5_free 48 = .ok (.iaload, 1) := by decide +kernel
theorem dX5_free_49 : decode cX5_free 49 = .ok (.invokestatic 112, 3) := by decide +kernel
theorem dX5_free_52 : decode cX5_free 52 = .ok (.dup2, 1) := by decide +kernel
theorem dX5_free_53 : decode cX5_free 53 = .ok (.iaload, 1) := by decide +kernel
theorem dX5_free_54 : decode cX5_free 54 = .ok (.iload_n 2, 1) := by decide +kernel
theorem dX5_free_55 : decode cX5_free 55 = .ok (.isub, 1) := by decide +kernel
theorem dX5_free_56 : decode cX5_free 56 = .ok (.iastore, 1) := by decide +kernel
theorem dX5_free_57 : decode cX5_free 57 = .ok (.return_, 1) := by decide +kernel
set_option maxRecDepth 20000 in
theorem ggX5_cancelled_X5_free : GoodIn wsX5_cancelled wsX5_free := goodIn_r _ [8, 9, 10, 11, 12, 13, 14, 15, 16, 7, 17, 18, 19, 20, 21, 22, 23, 24, 25, 26, 27, 28, 29, 30, 31, 32, 33, 34, 35, 36, 37, 38, 39, 40, 41, 42, 43, 44, 45, 46, 47, 48, 49] (by decide +kernel) (by decide +kernel)
set_option maxRecDepth 20000 in
theorem gX5_cancelled_X5_free : GoodIn wsX5_cancelled (wsV RX5 128 RX5 yX5_free wsX5_free) := goodIn_app (goodIn_of _ (by decide +kernel)) ggX5_cancelled_X5_free
theorem dX5_cancelled_0 : decode cX5_cancelled 0 = .ok (.aload_n 0, 1) := by decide +kernel
theorem dX5_cancelled_1 : decode cX5_cancelled 1 = .ok (.iload_n 1, 1) := by decide +kernel
theorem dX5_cancelled_2 : decode cX5_cancelled 2 = .ok (.aload_n 0, 1) := by decide +kernel
theorem dX5_cancelled_3 : decode cX5_cancelled 3 = .ok (.getfield 48, 3) := by decide +kernel
theorem dX5_cancelled_6 : decode cX5_cancelled 6 = .ok (.iload_n 1, 1) := by decide +kernel
theorem dX5_cancelled_7 : decode cX5_cancelled 7 = .ok (.iaload, 1) := by decide +kernel
theorem dX5_cancelled_8 : decode cX5_cancelled 8 = .ok (.invokevirtual 128, 3) := by decide +kernel
theorem dX5_cancelled_11 : decode cX5_cancelled 11 = .ok (.aload_n 0, 1) := by decide +kernel
theorem dX5_cancelled_12 : decode cX5_cancelled 12 = .ok (.getfield 48, 3) := by decide +kernel
theorem dX5_cancelled_15 : decode cX5_cancelled 15 = .ok (.iload_n 1, 1) := by decide +kernel
theorem dX5_cancelled_16 : decode cX5_cancelled 16 = .ok (.iconst 0, 1) := by decide +kernel
theorem dX5_cancelled_17 : decode cX5_cancelled 17 = .ok (.iastore, 1) := by decide +kernel
theorem dX5_cancelled_18 : decode cX5_cancelled 18 = .ok (.aload_n 0, 1) := by decide +kernel
theorem dX5_cancelled_19 : decode cX5_cancelled 19 = .ok (.getfield 51, 3) := by decide +kernel
theorem dX5_cancelled_22 : decode cX5_cancelled 22 = .ok (.iload_n 1, 1) := by decide +kernel
theorem dX5_cancelled_23 : decode cX5_cancelled 23 = .ok (.iconst 0, 1) := by decide +kernel
theorem dX5_cancelled_24 : decode cX5_cancelled 24 = .ok (.iastore, 1) := by decide +kernel
theorem dX5_cancelled_25 : decode cX5_cancelled 25 = .ok (.aload_n 0, 1) := by decide +kernel
theorem dX5_cancelled_26 : decode cX5_cancelled 26 = .ok (.getfield 57, 3) := by decide +kernel
theorem dX5_cancelled_29 : decode cX5_cancelled 29 = .ok (.iload_n 1, 1) := by decide +kernel
theorem dX5_cancelled_30 : decode cX5_cancelled 30 = .ok (.iconst 3, 1) := by decide +kernel
theorem dX5_cancelled_31 : decode cX5_cancelled 31 = .ok (.iastore, 1) := by decide +kernel
theorem dX5_cancelled_32 : decode cX5_cancelled 32 = .ok (.return_, 1) := by decide +kernel
set_option maxRecDepth 20000 in
theorem ggX5_exchange_X5_free : GoodIn wsX5_exchange wsX5_free := goodIn_r _ [19, 4, 3, 20, 2, 21, 1, 22, 23, 18, 24, 25, 26, 27, 28, 29, 30, 31, 32, 33, 34, 35, 36, 37, 38, 39, 40, 41, 42, 43, 44, 45, 46, 47, 48, 49, 50, 51, 52, 53, 54, 55, 56] (by decide +kernel) (by decide +kernel)
set_option maxRecDepth 20000 in
theorem gX5_exchange_X5_free : GoodIn wsX5_exchange (wsV RX5 128 RX5 yX5_free wsX5_free) := goodIn_app (goodIn_of _ (by decide +kernel)) ggX5_exchange_X5_free
set_option maxRecDepth 20000 in
theorem ggX5_exchange_X5_cell : GoodIn wsX5_exchange wsX5_cell := goodIn_r _ [24] (by decide +kernel) (by decide +kernel)
set_option maxRecDepth 20000 in
theorem gX5_exchange_X5_cell : GoodIn wsX5_exchange (va_wsS RX5 112 yX5_cell wsX5_cell) := goodIn_app (goodIn_of _ (by decide +kernel)) ggX5_exchange_X5_cell
theorem dX5_exchange_0 : decode cX5_exchange 0 = .ok (.aload_n 0, 1) := by decide +kernel
theorem dX5_exchange_1 : decode cX5_exchange 1 = .ok (.getfield 36, 3) := by decide +kernel
theorem dX5_exchange_4 : decode cX5_exchange 4 = .ok (.iload_n 1, 1) := by decide +kernel
theorem dX5_exchange_5 : decode cX5_exchange 5 = .ok (.iaload, 1) := by decide +kernel
theorem dX5_exchange_6 : decode cX5_exchange 6 = .ok (.istore 4, 2) := by decide +kernel
theorem dX5_exchange_8 : decode cX5_exchange 8 = .ok (.aload_n 0, 1) := by decide +kernel
theorem dX5_exchange_9 : decode cX5_exchange 9 = .ok (.getfield 45, 3) := by decide +kernel
theorem dX5_exchange_12 : decode cX5_exchange 12 = .ok (.iload_n 2, 1) := by decide +kernel
theorem dX5_exchange_13 : decode cX5_exchange 13 = .ok (.iaload, 1) := by decide +kernel
theorem dX5_exchange_14 : decode cX5_exchange 14 = .ok (.istore 5, 2) := by decide +kernel
theorem dX5_exchange_16 : decode cX5_exchange 16 = .ok (.aload_n 0, 1) := by decide +kernel
theorem dX5_exchange_17 : decode cX5_exchange 17 = .ok (.getfield 39, 3) := by decide +kernel
theorem dX5_exchange_20 : decode cX5_exchange 20 = .ok (.iload_n 1, 1) := by decide +kernel
theorem dX5_exchange_21 : decode cX5_exchange 21 = .ok (.iaload, 1) := by decide +kernel
theorem dX5_exchange_22 : decode cX5_exchange 22 = .ok (.ifCond .ne 12, 3) := by decide +kernel
theorem dX5_exchange_25 : decode cX5_exchange 25 = .ok (.aload_n 0, 1) := by decide +kernel
theorem dX5_exchange_26 : decode cX5_exchange 26 = .ok (.getfield 33, 3) := by decide +kernel
theorem dX5_exchange_29 : decode cX5_exchange 29 = .ok (.iload_n 1, 1) := by decide +kernel
theorem dX5_exchange_30 : decode cX5_exchange 30 = .ok (.iaload, 1) := by decide +kernel
theorem dX5_exchange_31 : decode cX5_exchange 31 = .ok (.goto 9, 3) := by decide +kernel
theorem dX5_exchange_34 : decode cX5_exchange 34 = .ok (.aload_n 0, 1) := by decide +kernel
theorem dX5_exchange_35 : decode cX5_exchange 35 = .ok (.getfield 33, 3) := by decide +kernel
theorem dX5_exchange_38 : decode cX5_exchange 38 = .ok (.iload_n 2, 1) := by decide +kernel
theorem dX5_exchange_39 : decode cX5_exchange 39 = .ok (.iaload, 1) := by decide +kernel
theorem dX5_exchange_40 : decode cX5_exchange 40 = .ok (.istore 6, 2) := by decide +kernel
theorem dX5_exchange_42 : decode cX5_exchange 42 = .ok (.aload_n 0, 1) := by decide +kernel
theorem dX5_exchange_43 : decode cX5_exchange 43 = .ok (.getfield 39, 3) := by decide +kernel
theorem dX5_exchange_46 : decode cX5_exchange 46 = .ok (.iload_n 1, 1) := by decide +kernel
theorem dX5_exchange_47 : decode cX5_exchange 47 = .ok (.iaload, 1) := by decide +kernel
theorem dX5_exchange_48 : decode cX5_exchange 48 = .ok (.ifCond .ne 12, 3) := by decide +kernel
theorem dX5_exchange_51 : decode cX5_exchange 51 = .ok (.aload_n 0, 1) := by decide +kernel
theorem dX5_exchange_52 : decode cX5_exchange 52 = .ok (.getfield 33, 3) := by decide +kernel
theorem dX5_exchange_55 : decode cX5_exchange 55 = .ok (.iload_n 2, 1) := by decide +kernel
theorem dX5_exchange_56 : decode cX5_exchange 56 = .ok (.iaload, 1) := by decide +kernel
theorem dX5_exchange_57 : decode cX5_exchange 57 = .ok (.goto 9, 3) := by decide +kernel
theorem dX5_exchange_60 : decode cX5_exchange 60 = .ok (.aload_n 0, 1) := by decide +kernel
theorem dX5_exchange_61 : decode cX5_exchange 61 = .ok (.getfield 33, 3) := by decide +kernel
theorem dX5_exchange_64 : decode cX5_exchange 64 = .ok (.iload_n 1, 1) := by decide +kernel
theorem dX5_exchange_65 : decode cX5_exchange 65 = .ok (.iaload, 1) := by decide +kernel
theorem dX5_exchange_66 : decode cX5_exchange 66 = .ok (.istore 7, 2) := by decide +kernel
theorem dX5_exchange_68 : decode cX5_exchange 68 = .ok (.aload_n 0, 1) := by decide +kernel
theorem dX5_exchange_69 : decode cX5_exchange 69 = .ok (.iload_n 1, 1) := by decide +kernel
theorem dX5_exchange_70 : decode cX5_exchange 70 = .ok (.iload_n 3, 1) := by decide +kernel
theorem dX5_exchange_71 : decode cX5_exchange 71 = .ok (.invokevirtual 128, 3) := by decide +kernel
theorem dX5_exchange_74 : decode cX5_exchange 74 = .ok (.aload_n 0, 1) := by decide +kernel
theorem dX5_exchange_75 : decode cX5_exchange 75 = .ok (.iload_n 2, 1) := by decide +kernel
theorem dX5_exchange_76 : decode cX5_exchange 76 = .ok (.iload_n 3, 1) := by decide +kernel
theorem dX5_exchange_77 : decode cX5_exchange 77 = .ok (.invokevirtual 128, 3) := by decide +kernel
theorem dX5_exchange_80 : decode cX5_exchange 80 = .ok (.aload_n 0, 1) := by decide +kernel
theorem dX5_exchange_81 : decode cX5_exchange 81 = .ok (.getfield 7, 3) := by decide +kernel
theorem dX5_exchange_84 : decode cX5_exchange 84 = .ok (.iload 6, 2) := by decide +kernel
theorem dX5_exchange_86 : decode cX5_exchange 86 = .ok (.dup2, 1) := by decide +kernel
theorem dX5_exchange_87 : decode cX5_exchange 87 = .ok (.laload, 1) := by decide +kernel
theorem dX5_exchange_88 : decode cX5_exchange 88 = .ok (.iload 5, 2) := by decide +kernel
theorem dX5_exchange_90 : decode cX5_exchange 90 = .ok (.i2l, 1) := by decide +kernel
theorem dX5_exchange_91 : decode cX5_exchange 91 = .ok (.iload_n 3, 1) := by decide +kernel
theorem dX5_exchange_92 : decode cX5_exchange 92 = .ok (.i2l, 1) := by decide +kernel
theorem dX5_exchange_93 : decode cX5_exchange 93 = .ok (.lmul, 1) := by decide +kernel
theorem dX5_exchange_94 : decode cX5_exchange 94 = .ok (.lsub, 1) := by decide +kernel
theorem dX5_exchange_95 : decode cX5_exchange 95 = .ok (.lastore, 1) := by decide +kernel
theorem dX5_exchange_96 : decode cX5_exchange 96 = .ok (.aload_n 0, 1) := by decide +kernel
theorem dX5_exchange_97 : decode cX5_exchange 97 = .ok (.getfield 7, 3) := by decide +kernel
theorem dX5_exchange_100 : decode cX5_exchange 100 = .ok (.iload 7, 2) := by decide +kernel
theorem dX5_exchange_102 : decode cX5_exchange 102 = .ok (.dup2, 1) := by decide +kernel
theorem dX5_exchange_103 : decode cX5_exchange 103 = .ok (.laload, 1) := by decide +kernel
theorem dX5_exchange_104 : decode cX5_exchange 104 = .ok (.iload 5, 2) := by decide +kernel
theorem dX5_exchange_106 : decode cX5_exchange 106 = .ok (.i2l, 1) := by decide +kernel
theorem dX5_exchange_107 : decode cX5_exchange 107 = .ok (.iload_n 3, 1) := by decide +kernel
theorem dX5_exchange_108 : decode cX5_exchange 108 = .ok (.i2l, 1) := by decide +kernel
theorem dX5_exchange_109 : decode cX5_exchange 109 = .ok (.lmul, 1) := by decide +kernel
theorem dX5_exchange_110 : decode cX5_exchange 110 = .ok (.ladd, 1) := by decide +kernel
theorem dX5_exchange_111 : decode cX5_exchange 111 = .ok (.lastore, 1) := by decide +kernel
theorem dX5_exchange_112 : decode cX5_exchange 112 = .ok (.aload_n 0, 1) := by decide +kernel
theorem dX5_exchange_113 : decode cX5_exchange 113 = .ok (.getfield 16, 3) := by decide +kernel
theorem dX5_exchange_116 : decode cX5_exchange 116 = .ok (.iload 6, 2) := by decide +kernel
theorem dX5_exchange_118 : decode cX5_exchange 118 = .ok (.iload 4, 2) := by decide +kernel
theorem dX5_exchange_120 : decode cX5_exchange 120 = .ok (.invokestatic 112, 3) := by decide +kernel
theorem dX5_exchange_123 : decode cX5_exchange 123 = .ok (.dup2, 1) := by decide +kernel
theorem dX5_exchange_124 : decode cX5_exchange 124 = .ok (.iaload, 1) := by decide +kernel
theorem dX5_exchange_125 : decode cX5_exchange 125 = .ok (.iload_n 3, 1) := by decide +kernel
theorem dX5_exchange_126 : decode cX5_exchange 126 = .ok (.iadd, 1) := by decide +kernel
theorem dX5_exchange_127 : decode cX5_exchange 127 = .ok (.iastore, 1) := by decide +kernel
theorem dX5_exchange_128 : decode cX5_exchange 128 = .ok (.aload_n 0, 1) := by decide +kernel
theorem dX5_exchange_129 : decode cX5_exchange 129 = .ok (.getfield 16, 3) := by decide +kernel
theorem dX5_exchange_132 : decode cX5_exchange 132 = .ok (.iload 7, 2) := by decide +kernel
theorem dX5_exchange_134 : decode cX5_exchange 134 = .ok (.iload 4, 2) := by decide +kernel
theorem dX5_exchange_136 : decode cX5_exchange 136 = .ok (.invokestatic 112, 3) := by decide +kernel
theorem dX5_exchange_139 : decode cX5_exchange 139 = .ok (.dup2, 1) := by decide +kernel
theorem dX5_exchange_140 : decode cX5_exchange 140 = .ok (.iaload, 1) := by decide +kernel
theorem dX5_exchange_141 : decode cX5_exchange 141 = .ok (.iload_n 3, 1) := by decide +kernel
theorem dX5_exchange_142 : decode cX5_exchange 142 = .ok (.isub, 1) := by decide +kernel
theorem dX5_exchange_143 : decode cX5_exchange 143 = .ok (.iastore, 1) := by decide +kernel
theorem dX5_exchange_144 : decode cX5_exchange 144 = .ok (.aload_n 0, 1) := by decide +kernel
theorem dX5_exchange_145 : decode cX5_exchange 145 = .ok (.getfield 23, 3) := by decide +kernel
theorem dX5_exchange_148 : decode cX5_exchange 148 = .ok (.iload 6, 2) := by decide +kernel
theorem dX5_exchange_150 : decode cX5_exchange 150 = .ok (.iload 4, 2) := by decide +kernel
theorem dX5_exchange_152 : decode cX5_exchange 152 = .ok (.invokestatic 112, 3) := by decide +kernel
theorem dX5_exchange_155 : decode cX5_exchange 155 = .ok (.dup2, 1) := by decide +kernel
theorem dX5_exchange_156 : decode cX5_exchange 156 = .ok (.iaload, 1) := by decide +kernel
theorem dX5_exchange_157 : decode cX5_exchange 157 = .ok (.iload_n 3, 1) := by decide +kernel
theorem dX5_exchange_158 : decode cX5_exchange 158 = .ok (.iadd, 1) := by decide +kernel
theorem dX5_exchange_159 : decode cX5_exchange 159 = .ok (.iastore, 1) := by decide +kernel
theorem dX5_exchange_160 : decode cX5_exchange 160 = .ok (.aload_n 0, 1) := by decide +kernel
theorem dX5_exchange_161 : decode cX5_exchange 161 = .ok (.getfield 26, 3) := by decide +kernel
theorem dX5_exchange_164 : decode cX5_exchange 164 = .ok (.iload 7, 2) := by decide +kernel
theorem dX5_exchange_166 : decode cX5_exchange 166 = .ok (.iload 4, 2) := by decide +kernel
theorem dX5_exchange_168 : decode cX5_exchange 168 = .ok (.invokestatic 112, 3) := by decide +kernel
theorem dX5_exchange_171 : decode cX5_exchange 171 = .ok (.dup2, 1) := by decide +kernel
theorem dX5_exchange_172 : decode cX5_exchange 172 = .ok (.iaload, 1) := by decide +kernel
theorem dX5_exchange_173 : decode cX5_exchange 173 = .ok (.iload_n 3, 1) := by decide +kernel
theorem dX5_exchange_174 : decode cX5_exchange 174 = .ok (.iadd, 1) := by decide +kernel
theorem dX5_exchange_175 : decode cX5_exchange 175 = .ok (.iastore, 1) := by decide +kernel
theorem dX5_exchange_176 : decode cX5_exchange 176 = .ok (.aload_n 0, 1) := by decide +kernel
theorem dX5_exchange_177 : decode cX5_exchange 177 = .ok (.getfield 132, 3) := by decide +kernel
theorem dX5_exchange_180 : decode cX5_exchange 180 = .ok (.sipush 300, 3) := by decide +kernel
theorem dX5_exchange_183 : decode cX5_exchange 183 = .ok (.if_icmp .ge 58, 3) := by decide +kernel
theorem dX5_exchange_186 : decode cX5_exchange 186 = .ok (.aload_n 0, 1) := by decide +kernel
theorem dX5_exchange_187 : decode cX5_exchange 187 = .ok (.getfield 78, 3) := by decide +kernel
theorem dX5_exchange_190 : decode cX5_exchange 190 = .ok (.iconst 4, 1) := by decide +kernel
theorem dX5_exchange_191 : decode cX5_exchange 191 = .ok (.aload_n 0, 1) := by decide +kernel
theorem dX5_exchange_192 : decode cX5_exchange 192 = .ok (.getfield 132, 3) := by decide +kernel
theorem dX5_exchange_195 : decode cX5_exchange 195 = .ok (.imul, 1) := by decide +kernel
theorem dX5_exchange_196 : decode cX5_exchange 196 = .ok (.iload_n 1, 1) := by decide +kernel
theorem dX5_exchange_197 : decode cX5_exchange 197 = .ok (.iastore, 1) := by decide +kernel
theorem dX5_exchange_198 : decode cX5_exchange 198 = .ok (.aload_n 0, 1) := by decide +kernel
theorem dX5_exchange_199 : decode cX5_exchange 199 = .ok (.getfield 78, 3) := by decide +kernel
theorem dX5_exchange_202 : decode cX5_exchange 202 = .ok (.iconst 4, 1) := by decide +kernel
theorem dX5_exchange_203 : decode cX5_exchange 203 = .ok (.aload_n 0, 1) := by decide +kernel
theorem dX5_exchange_204 : decode cX5_exchange 204 = .ok (.getfield 132, 3) := by decide +kernel
theorem dX5_exchange_207 : decode cX5_exchange 207 = .ok (.imul, 1) := by decide +kernel
theorem dX5_exchange_208 : decode cX5_exchange 208 = .ok (.iconst 1, 1) := by decide +kernel
theorem dX5_exchange_209 : decode cX5_exchange 209 = .ok (.iadd, 1) := by decide +kernel
theorem dX5_exchange_210 : decode cX5_exchange 210 = .ok (.iload_n 2, 1) := by decide +kernel
theorem dX5_exchange_211 : decode cX5_exchange 211 = .ok (.iastore, 1) := by decide +kernel
theorem dX5_exchange_212 : decode cX5_exchange 212 = .ok (.aload_n 0, 1) := by decide +kernel
theorem dX5_exchange_213 : decode cX5_exchange 213 = .ok (.getfield 78, 3) := by decide +kernel
theorem dX5_exchange_216 : decode cX5_exchange 216 = .ok (.iconst 4, 1) := by decide +kernel
theorem dX5_exchange_217 : decode cX5_exchange 217 = .ok (.aload_n 0, 1) := by decide +kernel
theorem dX5_exchange_218 : decode cX5_exchange 218 = .ok (.getfield 132, 3) := by decide +kernel
theorem dX5_exchange_221 : decode cX5_exchange 221 = .ok (.imul, 1) := by decide +kernel
theorem dX5_exchange_222 : decode cX5_exchange 222 = .ok (.iconst 2, 1) := by decide +kernel
theorem dX5_exchange_223 : decode cX5_exchange 223 = .ok (.iadd, 1) := by decide +kernel
theorem dX5_exchange_224 : decode cX5_exchange 224 = .ok (.iload 5, 2) := by decide +kernel
theorem dX5_exchange_226 : decode cX5_exchange 226 = .ok (.iastore, 1) := by decide +kernel
theorem dX5_exchange_227 : decode cX5_exchange 227 = .ok (.aload_n 0, 1) := by decide +kernel
theorem dX5_exchange_228 : decode cX5_exchange 228 = .ok (.getfield 78, 3) := by decide +kernel
theorem dX5_exchange_231 : decode cX5_exchange 231 = .ok (.iconst 4, 1) := by decide +kernel
theorem dX5_exchange_232 : decode cX5_exchange 232 = .ok (.aload_n 0, 1) := by decide +kernel
theorem dX5_exchange_233 : decode cX5_exchange 233 = .ok (.getfield 132, 3) := by decide +kernel
theorem dX5_exchange_236 : decode cX5_exchange 236 = .ok (.imul, 1) := by decide +kernel
theorem dX5_exchange_237 : decode cX5_exchange 237 = .ok (.iconst 3, 1) := by decide +kernel
theorem dX5_exchange_238 : decode cX5_exchange 238 = .ok (.iadd, 1) := by decide +kernel
theorem dX5_exchange_239 : decode cX5_exchange 239 = .ok (.iload_n 3, 1) := by decide +kernel
theorem dX5_exchange_240 : decode cX5_exchange 240 = .ok (.iastore, 1) := by decide +kernel
theorem dX5_exchange_241 : decode cX5_exchange 241 = .ok (.aload_n 0, 1) := by decide +kernel
theorem dX5_exchange_242 : decode cX5_exchange 242 = .ok (.dup, 1) := by decide +kernel
theorem dX5_exchange_243 : decode cX5_exchange 243 = .ok (.getfield 132, 3) := by decide +kernel
theorem dX5_exchange_246 : decode cX5_exchange 246 = .ok (.iconst 1, 1) := by decide +kernel
theorem dX5_exchange_247 : decode cX5_exchange 247 = .ok (.iadd, 1) := by decide +kernel
theorem dX5_exchange_248 : decode cX5_exchange 248 = .ok (.putfield 132, 3) := by decide +kernel
theorem dX5_exchange_251 : decode cX5_exchange 251 = .ok (.aload_n 0, 1) := by decide +kernel
theorem dX5_exchange_252 : decode cX5_exchange 252 = .ok (.getfield 81, 3) := by decide +kernel
theorem dX5_exchange_255 : decode cX5_exchange 255 = .ok (.iload 4, 2) := by decide +kernel
theorem dX5_exchange_257 : decode cX5_exchange 257 = .ok (.iload 5, 2) := by decide +kernel
theorem dX5_exchange_259 : decode cX5_exchange 259 = .ok (.iastore, 1) := by decide +kernel
theorem dX5_exchange_260 : decode cX5_exchange 260 = .ok (.aload_n 0, 1) := by decide +kernel
theorem dX5_exchange_261 : decode cX5_exchange 261 = .ok (.getfield 84, 3) := by decide +kernel
theorem dX5_exchange_264 : decode cX5_exchange 264 = .ok (.iload 4, 2) := by decide +kernel
theorem dX5_exchange_266 : decode cX5_exchange 266 = .ok (.aload_n 0, 1) := by decide +kernel
theorem dX5_exchange_267 : decode cX5_exchange 267 = .ok (.getfield 84, 3) := by decide +kernel
theorem dX5_exchange_270 : decode cX5_exchange 270 = .ok (.iload 4, 2) := by decide +kernel
theorem dX5_exchange_272 : decode cX5_exchange 272 = .ok (.iaload, 1) := by decide +kernel
theorem dX5_exchange_273 : decode cX5_exchange 273 = .ok (.ifCond .eq 15, 3) := by decide +kernel
theorem dX5_exchange_276 : decode cX5_exchange 276 = .ok (.iload 5, 2) := by decide +kernel
theorem dX5_exchange_278 : decode cX5_exchange 278 = .ok (.aload_n 0, 1) := by decide +kernel
theorem dX5_exchange_279 : decode cX5_exchange 279 = .ok (.getfield 84, 3) := by decide +kernel
theorem dX5_exchange_282 : decode cX5_exchange 282 = .ok (.iload 4, 2) := by decide +kernel
theorem dX5_exchange_284 : decode cX5_exchange 284 = .ok (.iaload, 1) := by decide +kernel
theorem dX5_exchange_285 : decode cX5_exchange 285 = .ok (.if_icmp .le 8, 3) := by decide +kernel
theorem dX5_exchange_288 : decode cX5_exchange 288 = .ok (.iload 5, 2) := by decide +kernel
theorem dX5_exchange_290 : decode cX5_exchange 290 = .ok (.goto 10, 3) := by decide +kernel
theorem dX5_exchange_293 : decode cX5_exchange 293 = .ok (.aload_n 0, 1) := by decide +kernel
theorem dX5_exchange_294 : decode cX5_exchange 294 = .ok (.getfield 84, 3) := by decide +kernel
theorem dX5_exchange_297 : decode cX5_exchange 297 = .ok (.iload 4, 2) := by decide +kernel
theorem dX5_exchange_299 : decode cX5_exchange 299 = .ok (.iaload, 1) := by decide +kernel
theorem dX5_exchange_300 : decode cX5_exchange 300 = .ok (.iastore, 1) := by decide +kernel
theorem dX5_exchange_301 : decode cX5_exchange 301 = .ok (.aload_n 0, 1) := by decide +kernel
theorem dX5_exchange_302 : decode cX5_exchange 302 = .ok (.getfield 87, 3) := by decide +kernel
theorem dX5_exchange_305 : decode cX5_exchange 305 = .ok (.iload 4, 2) := by decide +kernel
theorem dX5_exchange_307 : decode cX5_exchange 307 = .ok (.aload_n 0, 1) := by decide +kernel
theorem dX5_exchange_308 : decode cX5_exchange 308 = .ok (.getfield 87, 3) := by decide +kernel
theorem dX5_exchange_311 : decode cX5_exchange 311 = .ok (.iload 4, 2) := by decide +kernel
theorem dX5_exchange_313 : decode cX5_exchange 313 = .ok (.iaload, 1) := by decide +kernel
theorem dX5_exchange_314 : decode cX5_exchange 314 = .ok (.ifCond .eq 15, 3) := by decide +kernel
theorem dX5_exchange_317 : decode cX5_exchange 317 = .ok (.iload 5, 2) := by decide +kernel
theorem dX5_exchange_319 : decode cX5_exchange 319 = .ok (.aload_n 0, 1) := by decide +kernel
theorem dX5_exchange_320 : decode cX5_exchange 320 = .ok (.getfield 87, 3) := by decide +kernel
theorem dX5_exchange_323 : decode cX5_exchange 323 = .ok (.iload 4, 2) := by decide +kernel
theorem dX5_exchange_325 : decode cX5_exchange 325 = .ok (.iaload, 1) := by decide +kernel
theorem dX5_exchange_326 : decode cX5_exchange 326 = .ok (.if_icmp .ge 8, 3) := by decide +kernel
theorem dX5_exchange_329 : decode cX5_exchange 329 = .ok (.iload 5, 2) := by decide +kernel
theorem dX5_exchange_331 : decode cX5_exchange 331 = .ok (.goto 10, 3) := by decide +kernel
theorem dX5_exchange_334 : decode cX5_exchange 334 = .ok (.aload_n 0, 1) := by decide +kernel
theorem dX5_exchange_335 : decode cX5_exchange 335 = .ok (.getfield 87, 3) := by decide +kernel
theorem dX5_exchange_338 : decode cX5_exchange 338 = .ok (.iload 4, 2) := by decide +kernel
theorem dX5_exchange_340 : decode cX5_exchange 340 = .ok (.iaload, 1) := by decide +kernel
theorem dX5_exchange_341 : decode cX5_exchange 341 = .ok (.iastore, 1) := by decide +kernel
theorem dX5_exchange_342 : decode cX5_exchange 342 = .ok (.aload_n 0, 1) := by decide +kernel
theorem dX5_exchange_343 : decode cX5_exchange 343 = .ok (.getfield 90, 3) := by decide +kernel
theorem dX5_exchange_346 : decode cX5_exchange 346 = .ok (.iload 4, 2) := by decide +kernel
theorem dX5_exchange_348 : decode cX5_exchange 348 = .ok (.dup2, 1) := by decide +kernel
theorem dX5_exchange_349 : decode cX5_exchange 349 = .ok (.iaload, 1) := by decide +kernel
theorem dX5_exchange_350 : decode cX5_exchange 350 = .ok (.iload_n 3, 1) := by decide +kernel
theorem dX5_exchange_351 : decode cX5_exchange 351 = .ok (.iadd, 1) := by decide +kernel
theorem dX5_exchange_352 : decode cX5_exchange 352 = .ok (.iastore, 1) := by decide +kernel
theorem dX5_exchange_353 : decode cX5_exchange 353 = .ok (.return_, 1) := by decide +kernel
set_option maxRecDepth 20000 in
theorem ggX5_match_X5_first : GoodIn wsX5_match wsX5_first := goodIn_r _ [15, 16, 17, 9, 18, 19, 20, 14, 21, 7, 1, 2, 22, 23, 24, 52, 53, 54, 55, 56, 57, 58, 59, 60, 61, 62, 63, 64, 65, 66, 67, 68, 69, 70, 71, 72, 73, 74, 75, 76, 77, 78, 79, 80, 81, 82, 83] (by decide +kernel) (by decide +kernel)
set_option maxRecDepth 20000 in
theorem gX5_match_X5_first : GoodIn wsX5_match (wsV RX5 135 RX5 yX5_first wsX5_first) := goodIn_app (goodIn_of _ (by decide +kernel)) ggX5_match_X5_first
set_option maxRecDepth 20000 in
theorem ggX5_match_X5_allows : GoodIn wsX5_match wsX5_allows := goodIn_r _ [28, 2, 17, 52, 53, 54, 55, 56, 57, 58, 59, 60, 61, 62, 63, 64, 65, 66, 67, 68, 69, 70, 71, 72, 73, 74, 75, 76, 77, 78, 79, 80, 81, 82, 83] (by decide +kernel) (by decide +kernel)
set_option maxRecDepth 20000 in
theorem gX5_match_X5_allows : GoodIn wsX5_match (wsV RX5 138 RX5 yX5_allows wsX5_allows) := goodIn_app (goodIn_of _ (by decide +kernel)) ggX5_match_X5_allows
set_option maxRecDepth 20000 in
theorem ggX5_match_X5_exchange : GoodIn wsX5_match wsX5_exchange := goodIn_r _ [32, 1, 17, 2, 4, 33, 34, 35, 36, 37, 38, 39, 40, 41, 42, 43, 44, 45, 14, 46, 47, 48, 49, 50, 51, 52, 53, 54, 55, 56, 57, 58, 59, 60, 61, 62, 63, 64, 65, 66, 67, 68, 69, 70, 71, 72, 73, 74, 75, 76, 77, 78, 79, 80, 81, 82, 83] (by decide +kernel) (by decide +kernel)
set_option maxRecDepth 20000 in
theorem gX5_match_X5_exchange : GoodIn wsX5_match (wsV RX5 142 RX5 yX5_exchange wsX5_exchange) := goodIn_app (goodIn_of _ (by decide +kernel)) ggX5_match_X5_exchange
theorem dX5_match_0 : decode cX5_match 0 = .ok (.iconst 0, 1) := by decide +kernel
theorem dX5_match_1 : decode cX5_match 1 = .ok (.istore_n 2, 1) := by decide +kernel
theorem dX5_match_2 : decode cX5_match 2 = .ok (.aload_n 0, 1) := by decide +kernel
theorem dX5_match_3 : decode cX5_match 3 = .ok (.aload_n 0, 1) := by decide +kernel
theorem dX5_match_4 : decode cX5_match 4 = .ok (.getfield 36, 3) := by decide +kernel
theorem dX5_match_7 : decode cX5_match 7 = .ok (.iload_n 1, 1) := by decide +kernel
theorem dX5_match_8 : decode cX5_match 8 = .ok (.iaload, 1) := by decide +kernel
theorem dX5_match_9 : decode cX5_match 9 = .ok (.iconst 1, 1) := by decide +kernel
theorem dX5_match_10 : decode cX5_match 10 = .ok (.aload_n 0, 1) := by decide +kernel
theorem dX5_match_11 : decode cX5_match 11 = .ok (.getfield 39, 3) := by decide +kernel
theorem dX5_match_14 : decode cX5_match 14 = .ok (.iload_n 1, 1) := by decide +kernel
theorem dX5_match_15 : decode cX5_match 15 = .ok (.iaload, 1) := by decide +kernel
theorem dX5_match_16 : decode cX5_match 16 = .ok (.isub, 1) := by decide +kernel
theorem dX5_match_17 : decode cX5_match 17 = .ok (.invokevirtual 135, 3) := by decide +kernel
theorem dX5_match_20 : decode cX5_match 20 = .ok (.istore_n 3, 1) := by decide +kernel
theorem dX5_match_21 : decode cX5_match 21 = .ok (.aload_n 0, 1) := by decide +kernel
theorem dX5_match_22 : decode cX5_match 22 = .ok (.getfield 48, 3) := by decide +kernel
theorem dX5_match_25 : decode cX5_match 25 = .ok (.iload_n 1, 1) := by decide +kernel
theorem dX5_match_26 : decode cX5_match 26 = .ok (.iaload, 1) := by decide +kernel
theorem dX5_match_27 : decode cX5_match 27 = .ok (.ifCond .le 247, 3) := by decide +kernel
theorem dX5_match_30 : decode cX5_match 30 = .ok (.iload_n 2, 1) := by decide +kernel
theorem dX5_match_31 : decode cX5_match 31 = .ok (.ifCond .ne 243, 3) := by decide +kernel
theorem dX5_match_34 : decode cX5_match 34 = .ok (.iload_n 3, 1) := by decide +kernel
theorem dX5_match_35 : decode cX5_match 35 = .ok (.iconst (-1), 1) := by decide +kernel
theorem dX5_match_36 : decode cX5_match 36 = .ok (.if_icmp .eq 238, 3) := by decide +kernel
theorem dX5_match_39 : decode cX5_match 39 = .ok (.aload_n 0, 1) := by decide +kernel
theorem dX5_match_40 : decode cX5_match 40 = .ok (.iload_n 1, 1) := by decide +kernel
theorem dX5_match_41 : decode cX5_match 41 = .ok (.iload_n 3, 1) := by decide +kernel
theorem dX5_match_42 : decode cX5_match 42 = .ok (.invokevirtual 138, 3) := by decide +kernel
theorem dX5_match_45 : decode cX5_match 45 = .ok (.ifCond .eq 229, 3) := by decide +kernel
theorem dX5_match_48 : decode cX5_match 48 = .ok (.aload_n 0, 1) := by decide +kernel
theorem dX5_match_49 : decode cX5_match 49 = .ok (.getfield 33, 3) := by decide +kernel
theorem dX5_match_52 : decode cX5_match 52 = .ok (.iload_n 3, 1) := by decide +kernel
theorem dX5_match_53 : decode cX5_match 53 = .ok (.iaload, 1) := by decide +kernel
theorem dX5_match_54 : decode cX5_match 54 = .ok (.aload_n 0, 1) := by decide +kernel
theorem dX5_match_55 : decode cX5_match 55 = .ok (.getfield 33, 3) := by decide +kernel
theorem dX5_match_58 : decode cX5_match 58 = .ok (.iload_n 1, 1) := by decide +kernel
theorem dX5_match_59 : decode cX5_match 59 = .ok (.iaload, 1) := by decide +kernel
theorem dX5_match_60 : decode cX5_match 60 = .ok (.if_icmp .ne 7, 3) := by decide +kernel
theorem dX5_match_63 : decode cX5_match 63 = .ok (.iconst 1, 1) := by decide +kernel
theorem dX5_match_64 : decode cX5_match 64 = .ok (.goto 4, 3) := by decide +kernel
theorem dX5_match_67 : decode cX5_match 67 = .ok (.iconst 0, 1) := by decide +kernel
theorem dX5_match_68 : decode cX5_match 68 = .ok (.istore_n 2, 1) := by decide +kernel
theorem dX5_match_69 : decode cX5_match 69 = .ok (.iload_n 2, 1) := by decide +kernel
theorem dX5_match_70 : decode cX5_match 70 = .ok (.ifCond .ne (-49), 3) := by decide +kernel
theorem dX5_match_73 : decode cX5_match 73 = .ok (.aload_n 0, 1) := by decide +kernel
theorem dX5_match_74 : decode cX5_match 74 = .ok (.getfield 48, 3) := by decide +kernel
theorem dX5_match_77 : decode cX5_match 77 = .ok (.iload_n 1, 1) := by decide +kernel
theorem dX5_match_78 : decode cX5_match 78 = .ok (.iaload, 1) := by decide +kernel
theorem dX5_match_79 : decode cX5_match 79 = .ok (.aload_n 0, 1) := by decide +kernel
theorem dX5_match_80 : decode cX5_match 80 = .ok (.getfield 51, 3) := by decide +kernel
theorem dX5_match_83 : decode cX5_match 83 = .ok (.iload_n 3, 1) := by decide +kernel
theorem dX5_match_84 : decode cX5_match 84 = .ok (.iaload, 1) := by decide +kernel
theorem dX5_match_85 : decode cX5_match 85 = .ok (.if_icmp .ge 12, 3) := by decide +kernel
theorem dX5_match_88 : decode cX5_match 88 = .ok (.aload_n 0, 1) := by decide +kernel
theorem dX5_match_89 : decode cX5_match 89 = .ok (.getfield 48, 3) := by decide +kernel
theorem dX5_match_92 : decode cX5_match 92 = .ok (.iload_n 1, 1) := by decide +kernel
theorem dX5_match_93 : decode cX5_match 93 = .ok (.iaload, 1) := by decide +kernel
theorem dX5_match_94 : decode cX5_match 94 = .ok (.goto 9, 3) := by decide +kernel
theorem dX5_match_97 : decode cX5_match 97 = .ok (.aload_n 0, 1) := by decide +kernel
theorem dX5_match_98 : decode cX5_match 98 = .ok (.getfield 51, 3) := by decide +kernel
theorem dX5_match_101 : decode cX5_match 101 = .ok (.iload_n 3, 1) := by decide +kernel
theorem dX5_match_102 : decode cX5_match 102 = .ok (.iaload, 1) := by decide +kernel
theorem dX5_match_103 : decode cX5_match 103 = .ok (.istore 4, 2) := by decide +kernel
theorem dX5_match_105 : decode cX5_match 105 = .ok (.aload_n 0, 1) := by decide +kernel
theorem dX5_match_106 : decode cX5_match 106 = .ok (.iload_n 1, 1) := by decide +kernel
theorem dX5_match_107 : decode cX5_match 107 = .ok (.iload_n 3, 1) := by decide +kernel
theorem dX5_match_108 : decode cX5_match 108 = .ok (.iload 4, 2) := by decide +kernel
theorem dX5_match_110 : decode cX5_match 110 = .ok (.invokevirtual 142, 3) := by decide +kernel
theorem dX5_match_113 : decode cX5_match 113 = .ok (.aload_n 0, 1) := by decide +kernel
theorem dX5_match_114 : decode cX5_match 114 = .ok (.getfield 48, 3) := by decide +kernel
theorem dX5_match_117 : decode cX5_match 117 = .ok (.iload_n 1, 1) := by decide +kernel
theorem dX5_match_118 : decode cX5_match 118 = .ok (.dup2, 1) := by decide +kernel
theorem dX5_match_119 : decode cX5_match 119 = .ok (.iaload, 1) := by decide +kernel
theorem dX5_match_120 : decode cX5_match 120 = .ok (.iload 4, 2) := by decide +kernel
theorem dX5_match_122 : decode cX5_match 122 = .ok (.isub, 1) := by decide +kernel
theorem dX5_match_123 : decode cX5_match 123 = .ok (.iastore, 1) := by decide +kernel
theorem dX5_match_124 : decode cX5_match 124 = .ok (.aload_n 0, 1) := by decide +kernel
theorem dX5_match_125 : decode cX5_match 125 = .ok (.getfield 63, 3) := by decide +kernel
theorem dX5_match_128 : decode cX5_match 128 = .ok (.iload_n 1, 1) := by decide +kernel
theorem dX5_match_129 : decode cX5_match 129 = .ok (.dup2, 1) := by decide +kernel
theorem dX5_match_130 : decode cX5_match 130 = .ok (.iaload, 1) := by decide +kernel
theorem dX5_match_131 : decode cX5_match 131 = .ok (.iload 4, 2) := by decide +kernel
theorem dX5_match_133 : decode cX5_match 133 = .ok (.iadd, 1) := by decide +kernel
theorem dX5_match_134 : decode cX5_match 134 = .ok (.iastore, 1) := by decide +kernel
theorem dX5_match_135 : decode cX5_match 135 = .ok (.aload_n 0, 1) := by decide +kernel
theorem dX5_match_136 : decode cX5_match 136 = .ok (.getfield 48, 3) := by decide +kernel
theorem dX5_match_139 : decode cX5_match 139 = .ok (.iload_n 3, 1) := by decide +kernel
theorem dX5_match_140 : decode cX5_match 140 = .ok (.dup2, 1) := by decide +kernel
theorem dX5_match_141 : decode cX5_match 141 = .ok (.iaload, 1) := by decide +kernel
theorem dX5_match_142 : decode cX5_match 142 = .ok (.iload 4, 2) := by decide +kernel
theorem dX5_match_144 : decode cX5_match 144 = .ok (.isub, 1) := by decide +kernel
theorem dX5_match_145 : decode cX5_match 145 = .ok (.iastore, 1) := by decide +kernel
theorem dX5_match_146 : decode cX5_match 146 = .ok (.aload_n 0, 1) := by decide +kernel
theorem dX5_match_147 : decode cX5_match 147 = .ok (.getfield 51, 3) := by decide +kernel
theorem dX5_match_150 : decode cX5_match 150 = .ok (.iload_n 3, 1) := by decide +kernel
theorem dX5_match_151 : decode cX5_match 151 = .ok (.dup2, 1) := by decide +kernel
theorem dX5_match_152 : decode cX5_match 152 = .ok (.iaload, 1) := by decide +kernel
theorem dX5_match_153 : decode cX5_match 153 = .ok (.iload 4, 2) := by decide +kernel
theorem dX5_match_155 : decode cX5_match 155 = .ok (.isub, 1) := by decide +kernel
theorem dX5_match_156 : decode cX5_match 156 = .ok (.iastore, 1) := by decide +kernel
theorem dX5_match_157 : decode cX5_match 157 = .ok (.aload_n 0, 1) := by decide +kernel
theorem dX5_match_158 : decode cX5_match 158 = .ok (.getfield 63, 3) := by decide +kernel
theorem dX5_match_161 : decode cX5_match 161 = .ok (.iload_n 3, 1) := by decide +kernel
theorem dX5_match_162 : decode cX5_match 162 = .ok (.dup2, 1) := by decide +kernel
theorem dX5_match_163 : decode cX5_match 163 = .ok (.iaload, 1) := by decide +kernel
theorem dX5_match_164 : decode cX5_match 164 = .ok (.iload 4, 2) := by decide +kernel
theorem dX5_match_166 : decode cX5_match 166 = .ok (.iadd, 1) := by decide +kernel
theorem dX5_match_167 : decode cX5_match 167 = .ok (.iastore, 1) := by decide +kernel
theorem dX5_match_168 : decode cX5_match 168 = .ok (.aload_n 0, 1) := by decide +kernel
theorem dX5_match_169 : decode cX5_match 169 = .ok (.getfield 48, 3) := by decide +kernel
theorem dX5_match_172 : decode cX5_match 172 = .ok (.iload_n 3, 1) := by decide +kernel
theorem dX5_match_173 : decode cX5_match 173 = .ok (.iaload, 1) := by decide +kernel
theorem dX5_match_174 : decode cX5_match 174 = .ok (.ifCond .ne 13, 3) := by decide +kernel
theorem dX5_match_177 : decode cX5_match 177 = .ok (.aload_n 0, 1) := by decide +kernel
theorem dX5_match_178 : decode cX5_match 178 = .ok (.getfield 57, 3) := by decide +kernel
theorem dX5_match_181 : decode cX5_match 181 = .ok (.iload_n 3, 1) := by decide +kernel
theorem dX5_match_182 : decode cX5_match 182 = .ok (.iconst 2, 1) := by decide +kernel
theorem dX5_match_183 : decode cX5_match 183 = .ok (.iastore, 1) := by decide +kernel
theorem dX5_match_184 : decode cX5_match 184 = .ok (.goto 68, 3) := by decide +kernel
theorem dX5_match_187 : decode cX5_match 187 = .ok (.aload_n 0, 1) := by decide +kernel
theorem dX5_match_188 : decode cX5_match 188 = .ok (.getfield 51, 3) := by decide +kernel
theorem dX5_match_191 : decode cX5_match 191 = .ok (.iload_n 3, 1) := by decide +kernel
theorem dX5_match_192 : decode cX5_match 192 = .ok (.iaload, 1) := by decide +kernel
theorem dX5_match_193 : decode cX5_match 193 = .ok (.ifCond .ne 59, 3) := by decide +kernel
theorem dX5_match_196 : decode cX5_match 196 = .ok (.aload_n 0, 1) := by decide +kernel
theorem dX5_match_197 : decode cX5_match 197 = .ok (.getfield 51, 3) := by decide +kernel
theorem dX5_match_200 : decode cX5_match 200 = .ok (.iload_n 3, 1) := by decide +kernel
theorem dX5_match_201 : decode cX5_match 201 = .ok (.aload_n 0, 1) := by decide +kernel
theorem dX5_match_202 : decode cX5_match 202 = .ok (.getfield 48, 3) := by decide +kernel
theorem dX5_match_205 : decode cX5_match 205 = .ok (.iload_n 3, 1) := by decide +kernel
theorem dX5_match_206 : decode cX5_match 206 = .ok (.iaload, 1) := by decide +kernel
theorem dX5_match_207 : decode cX5_match 207 = .ok (.aload_n 0, 1) := by decide +kernel
theorem dX5_match_208 : decode cX5_match 208 = .ok (.getfield 54, 3) := by decide +kernel
theorem dX5_match_211 : decode cX5_match 211 = .ok (.iload_n 3, 1) := by decide +kernel
theorem dX5_match_212 : decode cX5_match 212 = .ok (.iaload, 1) := by decide +kernel
theorem dX5_match_213 : decode cX5_match 213 = .ok (.if_icmp .ge 12, 3) := by decide +kernel
theorem dX5_match_216 : decode cX5_match 216 = .ok (.aload_n 0, 1) := by decide +kernel
theorem dX5_match_217 : decode cX5_match 217 = .ok (.getfield 48, 3) := by decide +kernel
theorem dX5_match_220 : decode cX5_match 220 = .ok (.iload_n 3, 1) := by decide +kernel
theorem dX5_match_221 : decode cX5_match 221 = .ok (.iaload, 1) := by decide +kernel
theorem dX5_match_222 : decode cX5_match 222 = .ok (.goto 9, 3) := by decide +kernel
theorem dX5_match_225 : decode cX5_match 225 = .ok (.aload_n 0, 1) := by decide +kernel
theorem dX5_match_226 : decode cX5_match 226 = .ok (.getfield 54, 3) := by decide +kernel
theorem dX5_match_229 : decode cX5_match 229 = .ok (.iload_n 3, 1) := by decide +kernel
theorem dX5_match_230 : decode cX5_match 230 = .ok (.iaload, 1) := by decide +kernel
theorem dX5_match_231 : decode cX5_match 231 = .ok (.iastore, 1) := by decide +kernel
theorem dX5_match_232 : decode cX5_match 232 = .ok (.aload_n 0, 1) := by decide +kernel
theorem dX5_match_233 : decode cX5_match 233 = .ok (.getfield 66, 3) := by decide +kernel
theorem dX5_match_236 : decode cX5_match 236 = .ok (.iload_n 3, 1) := by decide +kernel
theorem dX5_match_237 : decode cX5_match 237 = .ok (.aload_n 0, 1) := by decide +kernel
theorem dX5_match_238 : decode cX5_match 238 = .ok (.getfield 146, 3) := by decide +kernel
theorem dX5_match_241 : decode cX5_match 241 = .ok (.iastore, 1) := by decide +kernel
theorem dX5_match_242 : decode cX5_match 242 = .ok (.aload_n 0, 1) := by decide +kernel
theorem dX5_match_243 : decode cX5_match 243 = .ok (.dup, 1) := by decide +kernel
theorem dX5_match_244 : decode cX5_match 244 = .ok (.getfield 146, 3) := by decide +kernel
theorem dX5_match_247 : decode cX5_match 247 = .ok (.iconst 1, 1) := by decide +kernel
theorem dX5_match_248 : decode cX5_match 248 = .ok (.iadd, 1) := by decide +kernel
theorem dX5_match_249 : decode cX5_match 249 = .ok (.putfield 146, 3) := by decide +kernel
theorem dX5_match_252 : decode cX5_match 252 = .ok (.aload_n 0, 1) := by decide +kernel
theorem dX5_match_253 : decode cX5_match 253 = .ok (.aload_n 0, 1) := by decide +kernel
theorem dX5_match_254 : decode cX5_match 254 = .ok (.getfield 36, 3) := by decide +kernel
theorem dX5_match_257 : decode cX5_match 257 = .ok (.iload_n 1, 1) := by decide +kernel
theorem dX5_match_258 : decode cX5_match 258 = .ok (.iaload, 1) := by decide +kernel
theorem dX5_match_259 : decode cX5_match 259 = .ok (.iconst 1, 1) := by decide +kernel
theorem dX5_match_260 : decode cX5_match 260 = .ok (.aload_n 0, 1) := by decide +kernel
theorem dX5_match_261 : decode cX5_match 261 = .ok (.getfield 39, 3) := by decide +kernel
theorem dX5_match_264 : decode cX5_match 264 = .ok (.iload_n 1, 1) := by decide +kernel
theorem dX5_match_265 : decode cX5_match 265 = .ok (.iaload, 1) := by decide +kernel
theorem dX5_match_266 : decode cX5_match 266 = .ok (.isub, 1) := by decide +kernel
theorem dX5_match_267 : decode cX5_match 267 = .ok (.invokevirtual 135, 3) := by decide +kernel
theorem dX5_match_270 : decode cX5_match 270 = .ok (.istore_n 3, 1) := by decide +kernel
theorem dX5_match_271 : decode cX5_match 271 = .ok (.goto (-250), 3) := by decide +kernel
theorem dX5_match_274 : decode cX5_match 274 = .ok (.iload_n 2, 1) := by decide +kernel
theorem dX5_match_275 : decode cX5_match 275 = .ok (.ireturn, 1) := by decide +kernel
set_option maxRecDepth 20000 in
theorem ggX5_wouldTrade_X5_rests : GoodIn wsX5_wouldTrade wsX5_rests := goodIn_r _ [18, 19, 9, 10, 27, 28, 29, 30, 31, 32, 33, 34, 35, 36, 37, 38, 39, 40, 41, 42, 43, 44, 45, 46, 47, 48, 49, 50, 51, 52, 53, 54, 55, 56, 57, 58] (by decide +kernel) (by decide +kernel)
set_option maxRecDepth 20000 in
theorem gX5_wouldTrade_X5_rests : GoodIn wsX5_wouldTrade (wsV RX5 122 RX5 yX5_rests wsX5_rests) := goodIn_app (goodIn_of _ (by decide +kernel)) ggX5_wouldTrade_X5_rests
set_option maxRecDepth 20000 in
theorem ggX5_wouldTrade_X5_isBetter : GoodIn wsX5_wouldTrade wsX5_isBetter := goodIn_r _ [22] (by decide +kernel) (by decide +kernel)
set_option maxRecDepth 20000 in
theorem gX5_wouldTrade_X5_isBetter : GoodIn wsX5_wouldTrade (va_wsS RX5 125 yX5_isBetter wsX5_isBetter) := goodIn_app (goodIn_of _ (by decide +kernel)) ggX5_wouldTrade_X5_isBetter
set_option maxRecDepth 20000 in
theorem ggX5_wouldTrade_X5_allows : GoodIn wsX5_wouldTrade wsX5_allows := goodIn_r _ [26, 10, 11, 27, 28, 29, 30, 31, 32, 33, 34, 35, 36, 37, 38, 39, 40, 41, 42, 43, 44, 45, 46, 47, 48, 49, 50, 51, 52, 53, 54, 55, 56, 57, 58] (by decide +kernel) (by decide +kernel)
set_option maxRecDepth 20000 in
theorem gX5_wouldTrade_X5_allows : GoodIn wsX5_wouldTrade (wsV RX5 138 RX5 yX5_allows wsX5_allows) := goodIn_app (goodIn_of _ (by decide +kernel)) ggX5_wouldTrade_X5_allows
theorem dX5_wouldTrade_0 : decode cX5_wouldTrade 0 = .ok (.iconst 0, 1) := by decide +kernel
theorem dX5_wouldTrade_1 : decode cX5_wouldTrade 1 = .ok (.istore_n 2, 1) := by decide +kernel
theorem dX5_wouldTrade_2 : decode cX5_wouldTrade 2 = .ok (.iload_n 2, 1) := by decide +kernel
theorem dX5_wouldTrade_3 : decode cX5_wouldTrade 3 = .ok (.aload_n 0, 1) := by decide +kernel
theorem dX5_wouldTrade_4 : decode cX5_wouldTrade 4 = .ok (.getfield 116, 3) := by decide +kernel
theorem dX5_wouldTrade_7 : decode cX5_wouldTrade 7 = .ok (.if_icmp .ge 45, 3) := by decide +kernel
theorem dX5_wouldTrade_10 : decode cX5_wouldTrade 10 = .ok (.aload_n 0, 1) := by decide +kernel
theorem dX5_wouldTrade_11 : decode cX5_wouldTrade 11 = .ok (.getfield 69, 3) := by decide +kernel
theorem dX5_wouldTrade_14 : decode cX5_wouldTrade 14 = .ok (.iload_n 2, 1) := by decide +kernel
theorem dX5_wouldTrade_15 : decode cX5_wouldTrade 15 = .ok (.aload_n 0, 1) := by decide +kernel
theorem dX5_wouldTrade_16 : decode cX5_wouldTrade 16 = .ok (.getfield 48, 3) := by decide +kernel
theorem dX5_wouldTrade_19 : decode cX5_wouldTrade 19 = .ok (.iload_n 2, 1) := by decide +kernel
theorem dX5_wouldTrade_20 : decode cX5_wouldTrade 20 = .ok (.iaload, 1) := by decide +kernel
theorem dX5_wouldTrade_21 : decode cX5_wouldTrade 21 = .ok (.iastore, 1) := by decide +kernel
theorem dX5_wouldTrade_22 : decode cX5_wouldTrade 22 = .ok (.aload_n 0, 1) := by decide +kernel
theorem dX5_wouldTrade_23 : decode cX5_wouldTrade 23 = .ok (.getfield 72, 3) := by decide +kernel
theorem dX5_wouldTrade_26 : decode cX5_wouldTrade 26 = .ok (.iload_n 2, 1) := by decide +kernel
theorem dX5_wouldTrade_27 : decode cX5_wouldTrade 27 = .ok (.aload_n 0, 1) := by decide +kernel
theorem dX5_wouldTrade_28 : decode cX5_wouldTrade 28 = .ok (.getfield 51, 3) := by decide +kernel
theorem dX5_wouldTrade_31 : decode cX5_wouldTrade 31 = .ok (.iload_n 2, 1) := by decide +kernel
theorem dX5_wouldTrade_32 : decode cX5_wouldTrade 32 = .ok (.iaload, 1) := by decide +kernel
theorem dX5_wouldTrade_33 : decode cX5_wouldTrade 33 = .ok (.iastore, 1) := by decide +kernel
theorem dX5_wouldTrade_34 : decode cX5_wouldTrade 34 = .ok (.aload_n 0, 1) := by decide +kernel
theorem dX5_wouldTrade_35 : decode cX5_wouldTrade 35 = .ok (.getfield 75, 3) := by decide +kernel
theorem dX5_wouldTrade_38 : decode cX5_wouldTrade 38 = .ok (.iload_n 2, 1) := by decide +kernel
theorem dX5_wouldTrade_39 : decode cX5_wouldTrade 39 = .ok (.aload_n 0, 1) := by decide +kernel
theorem dX5_wouldTrade_40 : decode cX5_wouldTrade 40 = .ok (.getfield 66, 3) := by decide +kernel
theorem dX5_wouldTrade_43 : decode cX5_wouldTrade 43 = .ok (.iload_n 2, 1) := by decide +kernel
theorem dX5_wouldTrade_44 : decode cX5_wouldTrade 44 = .ok (.iaload, 1) := by decide +kernel
theorem dX5_wouldTrade_45 : decode cX5_wouldTrade 45 = .ok (.iastore, 1) := by decide +kernel
theorem dX5_wouldTrade_46 : decode cX5_wouldTrade 46 = .ok (.iinc 2 1, 3) := by decide +kernel
theorem dX5_wouldTrade_49 : decode cX5_wouldTrade 49 = .ok (.goto (-47), 3) := by decide +kernel
theorem dX5_wouldTrade_52 : decode cX5_wouldTrade 52 = .ok (.aload_n 0, 1) := by decide +kernel
theorem dX5_wouldTrade_53 : decode cX5_wouldTrade 53 = .ok (.getfield 48, 3) := by decide +kernel
theorem dX5_wouldTrade_56 : decode cX5_wouldTrade 56 = .ok (.iload_n 1, 1) := by decide +kernel
theorem dX5_wouldTrade_57 : decode cX5_wouldTrade 57 = .ok (.iaload, 1) := by decide +kernel
theorem dX5_wouldTrade_58 : decode cX5_wouldTrade 58 = .ok (.istore_n 2, 1) := by decide +kernel
theorem dX5_wouldTrade_59 : decode cX5_wouldTrade 59 = .ok (.aload_n 0, 1) := by decide +kernel
theorem dX5_wouldTrade_60 : decode cX5_wouldTrade 60 = .ok (.getfield 146, 3) := by decide +kernel
theorem dX5_wouldTrade_63 : decode cX5_wouldTrade 63 = .ok (.istore_n 3, 1) := by decide +kernel
theorem dX5_wouldTrade_64 : decode cX5_wouldTrade 64 = .ok (.iload_n 2, 1) := by decide +kernel
theorem dX5_wouldTrade_65 : decode cX5_wouldTrade 65 = .ok (.ifCond .le 292, 3) := by decide +kernel
theorem dX5_wouldTrade_68 : decode cX5_wouldTrade 68 = .ok (.iconst (-1), 1) := by decide +kernel
theorem dX5_wouldTrade_69 : decode cX5_wouldTrade 69 = .ok (.istore 4, 2) := by decide +kernel
theorem dX5_wouldTrade_71 : decode cX5_wouldTrade 71 = .ok (.iconst 0, 1) := by decide +kernel
theorem dX5_wouldTrade_72 : decode cX5_wouldTrade 72 = .ok (.istore 5, 2) := by decide +kernel
theorem dX5_wouldTrade_74 : decode cX5_wouldTrade 74 = .ok (.iload 5, 2) := by decide +kernel
theorem dX5_wouldTrade_76 : decode cX5_wouldTrade 76 = .ok (.aload_n 0, 1) := by decide +kernel
theorem dX5_wouldTrade_77 : decode cX5_wouldTrade 77 = .ok (.getfield 116, 3) := by decide +kernel
theorem dX5_wouldTrade_80 : decode cX5_wouldTrade 80 = .ok (.if_icmp .ge 125, 3) := by decide +kernel
theorem dX5_wouldTrade_83 : decode cX5_wouldTrade 83 = .ok (.aload_n 0, 1) := by decide +kernel
theorem dX5_wouldTrade_84 : decode cX5_wouldTrade 84 = .ok (.iload 5, 2) := by decide +kernel
theorem dX5_wouldTrade_86 : decode cX5_wouldTrade 86 = .ok (.aload_n 0, 1) := by decide +kernel
theorem dX5_wouldTrade_87 : decode cX5_wouldTrade 87 = .ok (.getfield 36, 3) := by decide +kernel
theorem dX5_wouldTrade_90 : decode cX5_wouldTrade 90 = .ok (.iload_n 1, 1) := by decide +kernel
theorem dX5_wouldTrade_91 : decode cX5_wouldTrade 91 = .ok (.iaload, 1) := by decide +kernel
theorem dX5_wouldTrade_92 : decode cX5_wouldTrade 92 = .ok (.iconst 1, 1) := by decide +kernel
theorem dX5_wouldTrade_93 : decode cX5_wouldTrade 93 = .ok (.aload_n 0, 1) := by decide +kernel
theorem dX5_wouldTrade_94 : decode cX5_wouldTrade 94 = .ok (.getfield 39, 3) := by decide +kernel
theorem dX5_wouldTrade_97 : decode cX5_wouldTrade 97 = .ok (.iload_n 1, 1) := by decide +kernel
theorem dX5_wouldTrade_98 : decode cX5_wouldTrade 98 = .ok (.iaload, 1) := by decide +kernel
theorem dX5_wouldTrade_99 : decode cX5_wouldTrade 99 = .ok (.isub, 1) := by decide +kernel
theorem dX5_wouldTrade_100 : decode cX5_wouldTrade 100 = .ok (.invokevirtual 122, 3) := by decide +kernel
theorem dX5_wouldTrade_103 : decode cX5_wouldTrade 103 = .ok (.ifCond .eq 17, 3) := by decide +kernel
theorem dX5_wouldTrade_106 : decode cX5_wouldTrade 106 = .ok (.aload_n 0, 1) := by decide +kernel
theorem dX5_wouldTrade_107 : decode cX5_wouldTrade 107 = .ok (.getfield 69, 3) := by decide +kernel
theorem dX5_wouldTrade_110 : decode cX5_wouldTrade 110 = .ok (.iload 5, 2) := by decide +kernel
theorem dX5_wouldTrade_112 : decode cX5_wouldTrade 112 = .ok (.iaload, 1) := by decide +kernel
theorem dX5_wouldTrade_113 : decode cX5_wouldTrade 113 = .ok (.ifCond .le 7, 3) := by decide +kernel
theorem dX5_wouldTrade_116 : decode cX5_wouldTrade 116 = .ok (.iconst 1, 1) := by decide +kernel
theorem dX5_wouldTrade_117 : decode cX5_wouldTrade 117 = .ok (.goto 4, 3) := by decide +kernel
theorem dX5_wouldTrade_120 : decode cX5_wouldTrade 120 = .ok (.iconst 0, 1) := by decide +kernel
theorem dX5_wouldTrade_121 : decode cX5_wouldTrade 121 = .ok (.istore 6, 2) := by decide +kernel
theorem dX5_wouldTrade_123 : decode cX5_wouldTrade 123 = .ok (.iload 6, 2) := by decide +kernel
theorem dX5_wouldTrade_125 : decode cX5_wouldTrade 125 = .ok (.ifCond .eq 74, 3) := by decide +kernel
theorem dX5_wouldTrade_128 : decode cX5_wouldTrade 128 = .ok (.iload 4, 2) := by decide +kernel
theorem dX5_wouldTrade_130 : decode cX5_wouldTrade 130 = .ok (.iconst (-1), 1) := by decide +kernel
theorem dX5_wouldTrade_131 : decode cX5_wouldTrade 131 = .ok (.if_icmp .eq 64, 3) := by decide +kernel
theorem dX5_wouldTrade_134 : decode cX5_wouldTrade 134 = .ok (.aload_n 0, 1) := by decide +kernel
theorem dX5_wouldTrade_135 : decode cX5_wouldTrade 135 = .ok (.getfield 39, 3) := by decide +kernel
theorem dX5_wouldTrade_138 : decode cX5_wouldTrade 138 = .ok (.iload 5, 2) := by decide +kernel
theorem dX5_wouldTrade_140 : decode cX5_wouldTrade 140 = .ok (.iaload, 1) := by decide +kernel
theorem dX5_wouldTrade_141 : decode cX5_wouldTrade 141 = .ok (.aload_n 0, 1) := by decide +kernel
theorem dX5_wouldTrade_142 : decode cX5_wouldTrade 142 = .ok (.getfield 45, 3) := by decide +kernel
theorem dX5_wouldTrade_145 : decode cX5_wouldTrade 145 = .ok (.iload 5, 2) := by decide +kernel
theorem dX5_wouldTrade_147 : decode cX5_wouldTrade 147 = .ok (.iaload, 1) := by decide +kernel
theorem dX5_wouldTrade_148 : decode cX5_wouldTrade 148 = .ok (.aload_n 0, 1) := by decide +kernel
theorem dX5_wouldTrade_149 : decode cX5_wouldTrade 149 = .ok (.getfield 45, 3) := by decide +kernel
theorem dX5_wouldTrade_152 : decode cX5_wouldTrade 152 = .ok (.iload 4, 2) := by decide +kernel
theorem dX5_wouldTrade_154 : decode cX5_wouldTrade 154 = .ok (.iaload, 1) := by decide +kernel
theorem dX5_wouldTrade_155 : decode cX5_wouldTrade 155 = .ok (.invokestatic 125, 3) := by decide +kernel
theorem dX5_wouldTrade_158 : decode cX5_wouldTrade 158 = .ok (.ifCond .ne 37, 3) := by decide +kernel
theorem dX5_wouldTrade_161 : decode cX5_wouldTrade 161 = .ok (.aload_n 0, 1) := by decide +kernel
theorem dX5_wouldTrade_162 : decode cX5_wouldTrade 162 = .ok (.getfield 45, 3) := by decide +kernel
theorem dX5_wouldTrade_165 : decode cX5_wouldTrade 165 = .ok (.iload 5, 2) := by decide +kernel
theorem dX5_wouldTrade_167 : decode cX5_wouldTrade 167 = .ok (.iaload, 1) := by decide +kernel
theorem dX5_wouldTrade_168 : decode cX5_wouldTrade 168 = .ok (.aload_n 0, 1) := by decide +kernel
theorem dX5_wouldTrade_169 : decode cX5_wouldTrade 169 = .ok (.getfield 45, 3) := by decide +kernel
theorem dX5_wouldTrade_172 : decode cX5_wouldTrade 172 = .ok (.iload 4, 2) := by decide +kernel
theorem dX5_wouldTrade_174 : decode cX5_wouldTrade 174 = .ok (.iaload, 1) := by decide +kernel
theorem dX5_wouldTrade_175 : decode cX5_wouldTrade 175 = .ok (.if_icmp .ne 24, 3) := by decide +kernel
theorem dX5_wouldTrade_178 : decode cX5_wouldTrade 178 = .ok (.aload_n 0, 1) := by decide +kernel
theorem dX5_wouldTrade_179 : decode cX5_wouldTrade 179 = .ok (.getfield 75, 3) := by decide +kernel
theorem dX5_wouldTrade_182 : decode cX5_wouldTrade 182 = .ok (.iload 5, 2) := by decide +kernel
theorem dX5_wouldTrade_184 : decode cX5_wouldTrade 184 = .ok (.iaload, 1) := by decide +kernel
theorem dX5_wouldTrade_185 : decode cX5_wouldTrade 185 = .ok (.aload_n 0, 1) := by decide +kernel
theorem dX5_wouldTrade_186 : decode cX5_wouldTrade 186 = .ok (.getfield 75, 3) := by decide +kernel
theorem dX5_wouldTrade_189 : decode cX5_wouldTrade 189 = .ok (.iload 4, 2) := by decide +kernel
theorem dX5_wouldTrade_191 : decode cX5_wouldTrade 191 = .ok (.iaload, 1) := by decide +kernel
theorem dX5_wouldTrade_192 : decode cX5_wouldTrade 192 = .ok (.if_icmp .ge 7, 3) := by decide +kernel
theorem dX5_wouldTrade_195 : decode cX5_wouldTrade 195 = .ok (.iload 5, 2) := by decide +kernel
theorem dX5_wouldTrade_197 : decode cX5_wouldTrade 197 = .ok (.istore 4, 2) := by decide +kernel
theorem dX5_wouldTrade_199 : decode cX5_wouldTrade 199 = .ok (.iinc 5 1, 3) := by decide +kernel
theorem dX5_wouldTrade_202 : decode cX5_wouldTrade 202 = .ok (.goto (-128), 3) := by decide +kernel
theorem dX5_wouldTrade_205 : decode cX5_wouldTrade 205 = .ok (.iload 4, 2) := by decide +kernel
theorem dX5_wouldTrade_207 : decode cX5_wouldTrade 207 = .ok (.iconst (-1), 1) := by decide +kernel
theorem dX5_wouldTrade_208 : decode cX5_wouldTrade 208 = .ok (.if_icmp .eq 29, 3) := by decide +kernel
theorem dX5_wouldTrade_211 : decode cX5_wouldTrade 211 = .ok (.aload_n 0, 1) := by decide +kernel
theorem dX5_wouldTrade_212 : decode cX5_wouldTrade 212 = .ok (.iload_n 1, 1) := by decide +kernel
theorem dX5_wouldTrade_213 : decode cX5_wouldTrade 213 = .ok (.iload 4, 2) := by decide +kernel
theorem dX5_wouldTrade_215 : decode cX5_wouldTrade 215 = .ok (.invokevirtual 138, 3) := by decide +kernel
theorem dX5_wouldTrade_218 : decode cX5_wouldTrade 218 = .ok (.ifCond .eq 19, 3) := by decide +kernel
theorem dX5_wouldTrade_221 : decode cX5_wouldTrade 221 = .ok (.aload_n 0, 1) := by decide +kernel
theorem dX5_wouldTrade_222 : decode cX5_wouldTrade 222 = .ok (.getfield 33, 3) := by decide +kernel
theorem dX5_wouldTrade_225 : decode cX5_wouldTrade 225 = .ok (.iload 4, 2) := by decide +kernel
theorem dX5_wouldTrade_227 : decode cX5_wouldTrade 227 = .ok (.iaload, 1) := by decide +kernel
theorem dX5_wouldTrade_228 : decode cX5_wouldTrade 228 = .ok (.aload_n 0, 1) := by decide +kernel
theorem dX5_wouldTrade_229 : decode cX5_wouldTrade 229 = .ok (.getfield 33, 3) := by decide +kernel
theorem dX5_wouldTrade_232 : decode cX5_wouldTrade 232 = .ok (.iload_n 1, 1) := by decide +kernel
theorem dX5_wouldTrade_233 : decode cX5_wouldTrade 233 = .ok (.iaload, 1) := by decide +kernel
theorem dX5_wouldTrade_234 : decode cX5_wouldTrade 234 = .ok (.if_icmp .ne 5, 3) := by decide +kernel
theorem dX5_wouldTrade_237 : decode cX5_wouldTrade 237 = .ok (.iconst 0, 1) := by decide +kernel
theorem dX5_wouldTrade_238 : decode cX5_wouldTrade 238 = .ok (.ireturn, 1) := by decide +kernel
theorem dX5_wouldTrade_239 : decode cX5_wouldTrade 239 = .ok (.iload_n 2, 1) := by decide +kernel
theorem dX5_wouldTrade_240 : decode cX5_wouldTrade 240 = .ok (.aload_n 0, 1) := by decide +kernel
theorem dX5_wouldTrade_241 : decode cX5_wouldTrade 241 = .ok (.getfield 72, 3) := by decide +kernel
theorem dX5_wouldTrade_244 : decode cX5_wouldTrade 244 = .ok (.iload 4, 2) := by decide +kernel
theorem dX5_wouldTrade_246 : decode cX5_wouldTrade 246 = .ok (.iaload, 1) := by decide +kernel
theorem dX5_wouldTrade_247 : decode cX5_wouldTrade 247 = .ok (.if_icmp .ge 7, 3) := by decide +kernel
theorem dX5_wouldTrade_250 : decode cX5_wouldTrade 250 = .ok (.iload_n 2, 1) := by decide +kernel
theorem dX5_wouldTrade_251 : decode cX5_wouldTrade 251 = .ok (.goto 10, 3) := by decide +kernel
theorem dX5_wouldTrade_254 : decode cX5_wouldTrade 254 = .ok (.aload_n 0, 1) := by decide +kernel
theorem dX5_wouldTrade_255 : decode cX5_wouldTrade 255 = .ok (.getfield 72, 3) := by decide +kernel
theorem dX5_wouldTrade_258 : decode cX5_wouldTrade 258 = .ok (.iload 4, 2) := by decide +kernel
theorem dX5_wouldTrade_260 : decode cX5_wouldTrade 260 = .ok (.iaload, 1) := by decide +kernel
theorem dX5_wouldTrade_261 : decode cX5_wouldTrade 261 = .ok (.istore 5, 2) := by decide +kernel
theorem dX5_wouldTrade_263 : decode cX5_wouldTrade 263 = .ok (.iload_n 2, 1) := by decide +kernel
theorem dX5_wouldTrade_264 : decode cX5_wouldTrade 264 = .ok (.iload 5, 2) := by decide +kernel
theorem dX5_wouldTrade_266 : decode cX5_wouldTrade 266 = .ok (.isub, 1) := by decide +kernel
theorem dX5_wouldTrade_267 : decode cX5_wouldTrade 267 = .ok (.istore_n 2, 1) := by decide +kernel
theorem dX5_wouldTrade_268 : decode cX5_wouldTrade 268 = .ok (.aload_n 0, 1) := by decide +kernel
theorem dX5_wouldTrade_269 : decode cX5_wouldTrade 269 = .ok (.getfield 69, 3) := by decide +kernel
theorem dX5_wouldTrade_272 : decode cX5_wouldTrade 272 = .ok (.iload 4, 2) := by decide +kernel
theorem dX5_wouldTrade_274 : decode cX5_wouldTrade 274 = .ok (.dup2, 1) := by decide +kernel
theorem dX5_wouldTrade_275 : decode cX5_wouldTrade 275 = .ok (.iaload, 1) := by decide +kernel
theorem dX5_wouldTrade_276 : decode cX5_wouldTrade 276 = .ok (.iload 5, 2) := by decide +kernel
theorem dX5_wouldTrade_278 : decode cX5_wouldTrade 278 = .ok (.isub, 1) := by decide +kernel
theorem dX5_wouldTrade_279 : decode cX5_wouldTrade 279 = .ok (.iastore, 1) := by decide +kernel
theorem dX5_wouldTrade_280 : decode cX5_wouldTrade 280 = .ok (.aload_n 0, 1) := by decide +kernel
theorem dX5_wouldTrade_281 : decode cX5_wouldTrade 281 = .ok (.getfield 72, 3) := by decide +kernel
theorem dX5_wouldTrade_284 : decode cX5_wouldTrade 284 = .ok (.iload 4, 2) := by decide +kernel
theorem dX5_wouldTrade_286 : decode cX5_wouldTrade 286 = .ok (.dup2, 1) := by decide +kernel
theorem dX5_wouldTrade_287 : decode cX5_wouldTrade 287 = .ok (.iaload, 1) := by decide +kernel
theorem dX5_wouldTrade_288 : decode cX5_wouldTrade 288 = .ok (.iload 5, 2) := by decide +kernel
theorem dX5_wouldTrade_290 : decode cX5_wouldTrade 290 = .ok (.isub, 1) := by decide +kernel
theorem dX5_wouldTrade_291 : decode cX5_wouldTrade 291 = .ok (.iastore, 1) := by decide +kernel
theorem dX5_wouldTrade_292 : decode cX5_wouldTrade 292 = .ok (.aload_n 0, 1) := by decide +kernel
theorem dX5_wouldTrade_293 : decode cX5_wouldTrade 293 = .ok (.getfield 72, 3) := by decide +kernel
theorem dX5_wouldTrade_296 : decode cX5_wouldTrade 296 = .ok (.iload 4, 2) := by decide +kernel
theorem dX5_wouldTrade_298 : decode cX5_wouldTrade 298 = .ok (.iaload, 1) := by decide +kernel
theorem dX5_wouldTrade_299 : decode cX5_wouldTrade 299 = .ok (.ifCond .ne 55, 3) := by decide +kernel
theorem dX5_wouldTrade_302 : decode cX5_wouldTrade 302 = .ok (.aload_n 0, 1) := by decide +kernel
theorem dX5_wouldTrade_303 : decode cX5_wouldTrade 303 = .ok (.getfield 72, 3) := by decide +kernel
theorem dX5_wouldTrade_306 : decode cX5_wouldTrade 306 = .ok (.iload 4, 2) := by decide +kernel
theorem dX5_wouldTrade_308 : decode cX5_wouldTrade 308 = .ok (.aload_n 0, 1) := by decide +kernel
theorem dX5_wouldTrade_309 : decode cX5_wouldTrade 309 = .ok (.getfield 69, 3) := by decide +kernel
theorem dX5_wouldTrade_312 : decode cX5_wouldTrade 312 = .ok (.iload 4, 2) := by decide +kernel
theorem dX5_wouldTrade_314 : decode cX5_wouldTrade 314 = .ok (.iaload, 1) := by decide +kernel
theorem dX5_wouldTrade_315 : decode cX5_wouldTrade 315 = .ok (.aload_n 0, 1) := by decide +kernel
theorem dX5_wouldTrade_316 : decode cX5_wouldTrade 316 = .ok (.getfield 54, 3) := by decide +kernel
theorem dX5_wouldTrade_319 : decode cX5_wouldTrade 319 = .ok (.iload 4, 2) := by decide +kernel
theorem dX5_wouldTrade_321 : decode cX5_wouldTrade 321 = .ok (.iaload, 1) := by decide +kernel
theorem dX5_wouldTrade_322 : decode cX5_wouldTrade 322 = .ok (.if_icmp .ge 13, 3) := by decide +kernel
theorem dX5_wouldTrade_325 : decode cX5_wouldTrade 325 = .ok (.aload_n 0, 1) := by decide +kernel
theorem dX5_wouldTrade_326 : decode cX5_wouldTrade 326 = .ok (.getfield 69, 3) := by decide +kernel
theorem dX5_wouldTrade_329 : decode cX5_wouldTrade 329 = .ok (.iload 4, 2) := by decide +kernel
theorem dX5_wouldTrade_331 : decode cX5_wouldTrade 331 = .ok (.iaload, 1) := by decide +kernel
theorem dX5_wouldTrade_332 : decode cX5_wouldTrade 332 = .ok (.goto 10, 3) := by decide +kernel
theorem dX5_wouldTrade_335 : decode cX5_wouldTrade 335 = .ok (.aload_n 0, 1) := by decide +kernel
theorem dX5_wouldTrade_336 : decode cX5_wouldTrade 336 = .ok (.getfield 54, 3) := by decide +kernel
theorem dX5_wouldTrade_339 : decode cX5_wouldTrade 339 = .ok (.iload 4, 2) := by decide +kernel
theorem dX5_wouldTrade_341 : decode cX5_wouldTrade 341 = .ok (.iaload, 1) := by decide +kernel
theorem dX5_wouldTrade_342 : decode cX5_wouldTrade 342 = .ok (.iastore, 1) := by decide +kernel
theorem dX5_wouldTrade_343 : decode cX5_wouldTrade 343 = .ok (.aload_n 0, 1) := by decide +kernel
theorem dX5_wouldTrade_344 : decode cX5_wouldTrade 344 = .ok (.getfield 75, 3) := by decide +kernel
theorem dX5_wouldTrade_347 : decode cX5_wouldTrade 347 = .ok (.iload 4, 2) := by decide +kernel
theorem dX5_wouldTrade_349 : decode cX5_wouldTrade 349 = .ok (.iload_n 3, 1) := by decide +kernel
theorem dX5_wouldTrade_350 : decode cX5_wouldTrade 350 = .ok (.iastore, 1) := by decide +kernel
theorem dX5_wouldTrade_351 : decode cX5_wouldTrade 351 = .ok (.iinc 3 1, 3) := by decide +kernel
theorem dX5_wouldTrade_354 : decode cX5_wouldTrade 354 = .ok (.goto (-290), 3) := by decide +kernel
theorem dX5_wouldTrade_357 : decode cX5_wouldTrade 357 = .ok (.iconst 1, 1) := by decide +kernel
theorem dX5_wouldTrade_358 : decode cX5_wouldTrade 358 = .ok (.ireturn, 1) := by decide +kernel
theorem dX5_rest_0 : decode cX5_rest 0 = .ok (.aload_n 0, 1) := by decide +kernel
theorem dX5_rest_1 : decode cX5_rest 1 = .ok (.getfield 57, 3) := by decide +kernel
theorem dX5_rest_4 : decode cX5_rest 4 = .ok (.iload_n 1, 1) := by decide +kernel
theorem dX5_rest_5 : decode cX5_rest 5 = .ok (.iconst 0, 1) := by decide +kernel
theorem dX5_rest_6 : decode cX5_rest 6 = .ok (.iastore, 1) := by decide +kernel
theorem dX5_rest_7 : decode cX5_rest 7 = .ok (.aload_n 0, 1) := by decide +kernel
theorem dX5_rest_8 : decode cX5_rest 8 = .ok (.getfield 51, 3) := by decide +kernel
theorem dX5_rest_11 : decode cX5_rest 11 = .ok (.iload_n 1, 1) := by decide +kernel
theorem dX5_rest_12 : decode cX5_rest 12 = .ok (.aload_n 0, 1) := by decide +kernel
theorem dX5_rest_13 : decode cX5_rest 13 = .ok (.getfield 42, 3) := by decide +kernel
theorem dX5_rest_16 : decode cX5_rest 16 = .ok (.iload_n 1, 1) := by decide +kernel
theorem dX5_rest_17 : decode cX5_rest 17 = .ok (.iaload, 1) := by decide +kernel
theorem dX5_rest_18 : decode cX5_rest 18 = .ok (.iconst 4, 1) := by decide +kernel
theorem dX5_rest_19 : decode cX5_rest 19 = .ok (.if_icmp .ne 27, 3) := by decide +kernel
theorem dX5_rest_22 : decode cX5_rest 22 = .ok (.aload_n 0, 1) := by decide +kernel
theorem dX5_rest_23 : decode cX5_rest 23 = .ok (.getfield 54, 3) := by decide +kernel
theorem dX5_rest_26 : decode cX5_rest 26 = .ok (.iload_n 1, 1) := by decide +kernel
theorem dX5_rest_27 : decode cX5_rest 27 = .ok (.iaload, 1) := by decide +kernel
theorem dX5_rest_28 : decode cX5_rest 28 = .ok (.aload_n 0, 1) := by decide +kernel
theorem dX5_rest_29 : decode cX5_rest 29 = .ok (.getfield 48, 3) := by decide +kernel
theorem dX5_rest_32 : decode cX5_rest 32 = .ok (.iload_n 1, 1) := by decide +kernel
theorem dX5_rest_33 : decode cX5_rest 33 = .ok (.iaload, 1) := by decide +kernel
theorem dX5_rest_34 : decode cX5_rest 34 = .ok (.if_icmp .ge 12, 3) := by decide +kernel
theorem dX5_rest_37 : decode cX5_rest 37 = .ok (.aload_n 0, 1) := by decide +kernel
theorem dX5_rest_38 : decode cX5_rest 38 = .ok (.getfield 54, 3) := by decide +kernel
theorem dX5_rest_41 : decode cX5_rest 41 = .ok (.iload_n 1, 1) := by decide +kernel
theorem dX5_rest_42 : decode cX5_rest 42 = .ok (.iaload, 1) := by decide +kernel
theorem dX5_rest_43 : decode cX5_rest 43 = .ok (.goto 9, 3) := by decide +kernel
theorem dX5_rest_46 : decode cX5_rest 46 = .ok (.aload_n 0, 1) := by decide +kernel
theorem dX5_rest_47 : decode cX5_rest 47 = .ok (.getfield 48, 3) := by decide +kernel
theorem dX5_rest_50 : decode cX5_rest 50 = .ok (.iload_n 1, 1) := by decide +kernel
theorem dX5_rest_51 : decode cX5_rest 51 = .ok (.iaload, 1) := by decide +kernel
theorem dX5_rest_52 : decode cX5_rest 52 = .ok (.iastore, 1) := by decide +kernel
theorem dX5_rest_53 : decode cX5_rest 53 = .ok (.aload_n 0, 1) := by decide +kernel
theorem dX5_rest_54 : decode cX5_rest 54 = .ok (.getfield 66, 3) := by decide +kernel
theorem dX5_rest_57 : decode cX5_rest 57 = .ok (.iload_n 1, 1) := by decide +kernel
theorem dX5_rest_58 : decode cX5_rest 58 = .ok (.aload_n 0, 1) := by decide +kernel
theorem dX5_rest_59 : decode cX5_rest 59 = .ok (.getfield 146, 3) := by decide +kernel
theorem dX5_rest_62 : decode cX5_rest 62 = .ok (.iastore, 1) := by decide +kernel
theorem dX5_rest_63 : decode cX5_rest 63 = .ok (.aload_n 0, 1) := by decide +kernel
theorem dX5_rest_64 : decode cX5_rest 64 = .ok (.dup, 1) := by decide +kernel
theorem dX5_rest_65 : decode cX5_rest 65 = .ok (.getfield 146, 3) := by decide +kernel
theorem dX5_rest_68 : decode cX5_rest 68 = .ok (.iconst 1, 1) := by decide +kernel
theorem dX5_rest_69 : decode cX5_rest 69 = .ok (.iadd, 1) := by decide +kernel
theorem dX5_rest_70 : decode cX5_rest 70 = .ok (.putfield 146, 3) := by decide +kernel
theorem dX5_rest_73 : decode cX5_rest 73 = .ok (.return_, 1) := by decide +kernel
set_option maxRecDepth 20000 in
theorem ggX5_finish_X5_rest : GoodIn wsX5_finish wsX5_rest := goodIn_r _ [7, 2, 8, 9, 10, 1, 11, 12, 30, 31, 32, 33, 34, 35, 36, 37, 38, 39, 40, 41, 42, 43, 44, 45, 46, 47, 48, 49, 50, 51, 52, 53, 54, 55, 56, 57, 58, 59, 60, 61] (by decide +kernel) (by decide +kernel)
set_option maxRecDepth 20000 in
theorem gX5_finish_X5_rest : GoodIn wsX5_finish (wsV RX5 149 RX5 yX5_rest wsX5_rest) := goodIn_app (goodIn_of _ (by decide +kernel)) ggX5_finish_X5_rest
set_option maxRecDepth 20000 in
theorem ggX5_finish_X5_cancelled : GoodIn wsX5_finish wsX5_cancelled := goodIn_r _ [16, 1, 8, 2, 17, 18, 19, 6, 20, 21, 22, 23, 24, 25, 26, 27, 28, 29, 30, 31, 32, 33, 34, 35, 36, 37, 38, 39, 40, 41, 42, 43, 44, 45, 46, 47, 48, 49, 50, 51, 52, 53, 54, 55, 56, 57, 58, 59, 60, 61] (by decide +kernel) (by decide +kernel)
set_option maxRecDepth 20000 in
theorem gX5_finish_X5_cancelled : GoodIn wsX5_finish (wsV RX5 153 RX5 yX5_cancelled wsX5_cancelled) := goodIn_app (goodIn_of _ (by decide +kernel)) ggX5_finish_X5_cancelled
theorem dX5_finish_0 : decode cX5_finish 0 = .ok (.aload_n 0, 1) := by decide +kernel
theorem dX5_finish_1 : decode cX5_finish 1 = .ok (.getfield 48, 3) := by decide +kernel
theorem dX5_finish_4 : decode cX5_finish 4 = .ok (.iload_n 1, 1) := by decide +kernel
theorem dX5_finish_5 : decode cX5_finish 5 = .ok (.iaload, 1) := by decide +kernel
theorem dX5_finish_6 : decode cX5_finish 6 = .ok (.ifCond .ne 13, 3) := by decide +kernel
theorem dX5_finish_9 : decode cX5_finish 9 = .ok (.aload_n 0, 1) := by decide +kernel
theorem dX5_finish_10 : decode cX5_finish 10 = .ok (.getfield 57, 3) := by decide +kernel
theorem dX5_finish_13 : decode cX5_finish 13 = .ok (.iload_n 1, 1) := by decide +kernel
theorem dX5_finish_14 : decode cX5_finish 14 = .ok (.iconst 2, 1) := by decide +kernel
theorem dX5_finish_15 : decode cX5_finish 15 = .ok (.iastore, 1) := by decide +kernel
theorem dX5_finish_16 : decode cX5_finish 16 = .ok (.goto 20, 3) := by decide +kernel
theorem dX5_finish_19 : decode cX5_finish 19 = .ok (.iload_n 2, 1) := by decide +kernel
theorem dX5_finish_20 : decode cX5_finish 20 = .ok (.ifCond .eq 11, 3) := by decide +kernel
theorem dX5_finish_23 : decode cX5_finish 23 = .ok (.aload_n 0, 1) := by decide +kernel
theorem dX5_finish_24 : decode cX5_finish 24 = .ok (.iload_n 1, 1) := by decide +kernel
theorem dX5_finish_25 : decode cX5_finish 25 = .ok (.invokevirtual 149, 3) := by decide +kernel
theorem dX5_finish_28 : decode cX5_finish 28 = .ok (.goto 8, 3) := by decide +kernel
theorem dX5_finish_31 : decode cX5_finish 31 = .ok (.aload_n 0, 1) := by decide +kernel
theorem dX5_finish_32 : decode cX5_finish 32 = .ok (.iload_n 1, 1) := by decide +kernel
theorem dX5_finish_33 : decode cX5_finish 33 = .ok (.invokevirtual 153, 3) := by decide +kernel
theorem dX5_finish_36 : decode cX5_finish 36 = .ok (.return_, 1) := by decide +kernel
set_option maxRecDepth 20000 in
theorem ggX5_act_X5_first : GoodIn wsX5_act wsX5_first := goodIn_r _ [9, 10, 11, 12, 13, 14, 15, 8, 16, 4, 2, 3, 17, 18, 19, 76, 77, 78, 79, 80, 81, 82, 83, 84, 85, 86, 87, 88, 89, 90, 91, 92, 93, 94, 95, 96, 97, 98, 99, 100, 101, 102, 103, 104, 105, 106, 107] (by decide +kernel) (by decide +kernel)
set_option maxRecDepth 20000 in
theorem gX5_act_X5_first : GoodIn wsX5_act (wsV RX5 135 RX5 yX5_first wsX5_first) := goodIn_app (goodIn_of _ (by decide +kernel)) ggX5_act_X5_first
set_option maxRecDepth 20000 in
theorem ggX5_act_X5_allows : GoodIn wsX5_act wsX5_allows := goodIn_r _ [23, 3, 11, 76, 77, 78, 79, 80, 81, 82, 83, 84, 85, 86, 87, 88, 89, 90, 91, 92, 93, 94, 95, 96, 97, 98, 99, 100, 101, 102, 103, 104, 105, 106, 107] (by decide +kernel) (by decide +kernel)
set_option maxRecDepth 20000 in
theorem gX5_act_X5_allows : GoodIn wsX5_act (wsV RX5 138 RX5 yX5_allows wsX5_allows) := goodIn_app (goodIn_of _ (by decide +kernel)) ggX5_act_X5_allows
set_option maxRecDepth 20000 in
theorem ggX5_act_X5_finish : GoodIn wsX5_act wsX5_finish := goodIn_r _ [27, 28, 4, 29, 30, 31, 8, 32, 33, 1, 34, 12, 35, 36, 37, 38, 39, 40, 41, 42, 43, 44, 3, 45, 11, 46, 2, 47, 48, 49, 76, 77, 78, 79, 80, 81, 82, 83, 84, 85, 86, 87, 88, 89, 90, 91, 92, 93, 94, 95, 96, 97, 98, 99, 100, 101, 102, 103, 104, 105, 106, 107] (by decide +kernel) (by decide +kernel)
set_option maxRecDepth 20000 in
theorem gX5_act_X5_finish : GoodIn wsX5_act (wsV RX5 156 RX5 yX5_finish wsX5_finish) := goodIn_app (goodIn_of _ (by decide +kernel)) ggX5_act_X5_finish
set_option maxRecDepth 20000 in
theorem ggX5_act_X5_wouldTrade : GoodIn wsX5_act wsX5_wouldTrade := goodIn_r _ [53, 10, 54, 28, 55, 33, 56, 12, 35, 2, 3, 11, 44, 34, 13, 14, 15, 8, 16, 4, 17, 18, 19, 20, 21, 22, 23, 76, 77, 78, 79, 80, 81, 82, 83, 84, 85, 86, 87, 88, 89, 90, 91, 92, 93, 94, 95, 96, 97, 98, 99, 100, 101, 102, 103, 104, 105, 106, 107] (by decide +kernel) (by decide +kernel)
set_option maxRecDepth 20000 in
theorem gX5_act_X5_wouldTrade : GoodIn wsX5_act (wsV RX5 160 RX5 yX5_wouldTrade wsX5_wouldTrade) := goodIn_app (goodIn_of _ (by decide +kernel)) ggX5_act_X5_wouldTrade
set_option maxRecDepth 20000 in
theorem ggX5_act_X5_cancelled : GoodIn wsX5_act wsX5_cancelled := goodIn_r _ [39, 28, 33, 4, 40, 41, 42, 8, 43, 44, 3, 45, 11, 46, 2, 47, 48, 49, 76, 77, 78, 79, 80, 81, 82, 83, 84, 85, 86, 87, 88, 89, 90, 91, 92, 93, 94, 95, 96, 97, 98, 99, 100, 101, 102, 103, 104, 105, 106, 107] (by decide +kernel) (by decide +kernel)
set_option maxRecDepth 20000 in
theorem gX5_act_X5_cancelled : GoodIn wsX5_act (wsV RX5 153 RX5 yX5_cancelled wsX5_cancelled) := goodIn_app (goodIn_of _ (by decide +kernel)) ggX5_act_X5_cancelled
set_option maxRecDepth 20000 in
theorem ggX5_act_X5_match : GoodIn wsX5_act wsX5_match := goodIn_r _ [60, 2, 3, 28, 44, 33, 61, 4, 34, 12, 35, 5, 6, 7, 8, 9, 10, 11, 13, 14, 15, 16, 17, 18, 19, 20, 21, 22, 23, 62, 63, 64, 65, 66, 67, 68, 69, 70, 71, 72, 73, 74, 75, 40, 41, 42, 43, 45, 46, 47, 48, 49, 76, 77, 78, 79, 80, 81, 82, 83, 84, 85, 86, 87, 88, 89, 90, 91, 92, 93, 94, 95, 96, 97, 98, 99, 100, 101, 102, 103, 104, 105, 106, 107] (by decide +kernel) (by decide +kernel)
set_option maxRecDepth 20000 in
theorem gX5_act_X5_match : GoodIn wsX5_act (wsV RX5 163 RX5 yX5_match wsX5_match) := goodIn_app (goodIn_of _ (by decide +kernel)) ggX5_act_X5_match
theorem dX5_act_0 : decode cX5_act 0 = .ok (.aload_n 0, 1) := by decide +kernel
theorem dX5_act_1 : decode cX5_act 1 = .ok (.getfield 42, 3) := by decide +kernel
theorem dX5_act_4 : decode cX5_act 4 = .ok (.iload_n 1, 1) := by decide +kernel
theorem dX5_act_5 : decode cX5_act 5 = .ok (.iaload, 1) := by decide +kernel
theorem dX5_act_6 : decode cX5_act 6 = .ok (.istore_n 2, 1) := by decide +kernel
theorem dX5_act_7 : decode cX5_act 7 = .ok (.aload_n 0, 1) := by decide +kernel
theorem dX5_act_8 : decode cX5_act 8 = .ok (.aload_n 0, 1) := by decide +kernel
theorem dX5_act_9 : decode cX5_act 9 = .ok (.getfield 36, 3) := by decide +kernel
theorem dX5_act_12 : decode cX5_act 12 = .ok (.iload_n 1, 1) := by decide +kernel
theorem dX5_act_13 : decode cX5_act 13 = .ok (.iaload, 1) := by decide +kernel
theorem dX5_act_14 : decode cX5_act 14 = .ok (.iconst 1, 1) := by decide +kernel
theorem dX5_act_15 : decode cX5_act 15 = .ok (.aload_n 0, 1) := by decide +kernel
theorem dX5_act_16 : decode cX5_act 16 = .ok (.getfield 39, 3) := by decide +kernel
theorem dX5_act_19 : decode cX5_act 19 = .ok (.iload_n 1, 1) := by decide +kernel
theorem dX5_act_20 : decode cX5_act 20 = .ok (.iaload, 1) := by decide +kernel
theorem dX5_act_21 : decode cX5_act 21 = .ok (.isub, 1) := by decide +kernel
theorem dX5_act_22 : decode cX5_act 22 = .ok (.invokevirtual 135, 3) := by decide +kernel
theorem dX5_act_25 : decode cX5_act 25 = .ok (.istore_n 3, 1) := by decide +kernel
theorem dX5_act_26 : decode cX5_act 26 = .ok (.iload_n 2, 1) := by decide +kernel
theorem dX5_act_27 : decode cX5_act 27 = .ok (.iconst 5, 1) := by decide +kernel
theorem dX5_act_28 : decode cX5_act 28 = .ok (.if_icmp .ne 13, 3) := by decide +kernel
theorem dX5_act_31 : decode cX5_act 31 = .ok (.aload_n 0, 1) := by decide +kernel
theorem dX5_act_32 : decode cX5_act 32 = .ok (.getfield 57, 3) := by decide +kernel
theorem dX5_act_35 : decode cX5_act 35 = .ok (.iload_n 1, 1) := by decide +kernel
theorem dX5_act_36 : decode cX5_act 36 = .ok (.iconst 1, 1) := by decide +kernel
theorem dX5_act_37 : decode cX5_act 37 = .ok (.iastore, 1) := by decide +kernel
theorem dX5_act_38 : decode cX5_act 38 = .ok (.goto 87, 3) := by decide +kernel
theorem dX5_act_41 : decode cX5_act 41 = .ok (.iload_n 2, 1) := by decide +kernel
theorem dX5_act_42 : decode cX5_act 42 = .ok (.iconst 3, 1) := by decide +kernel
theorem dX5_act_43 : decode cX5_act 43 = .ok (.if_icmp .ne 30, 3) := by decide +kernel
theorem dX5_act_46 : decode cX5_act 46 = .ok (.aload_n 0, 1) := by decide +kernel
theorem dX5_act_47 : decode cX5_act 47 = .ok (.iload_n 1, 1) := by decide +kernel
theorem dX5_act_48 : decode cX5_act 48 = .ok (.iload_n 3, 1) := by decide +kernel
theorem dX5_act_49 : decode cX5_act 49 = .ok (.iconst (-1), 1) := by decide +kernel
theorem dX5_act_50 : decode cX5_act 50 = .ok (.if_icmp .eq 12, 3) := by decide +kernel
theorem dX5_act_53 : decode cX5_act 53 = .ok (.aload_n 0, 1) := by decide +kernel
theorem dX5_act_54 : decode cX5_act 54 = .ok (.iload_n 1, 1) := by decide +kernel
theorem dX5_act_55 : decode cX5_act 55 = .ok (.iload_n 3, 1) := by decide +kernel
theorem dX5_act_56 : decode cX5_act 56 = .ok (.invokevirtual 138, 3) := by decide +kernel
theorem dX5_act_59 : decode cX5_act 59 = .ok (.ifCond .ne 7, 3) := by decide +kernel
theorem dX5_act_62 : decode cX5_act 62 = .ok (.iconst 1, 1) := by decide +kernel
theorem dX5_act_63 : decode cX5_act 63 = .ok (.goto 4, 3) := by decide +kernel
theorem dX5_act_66 : decode cX5_act 66 = .ok (.iconst 0, 1) := by decide +kernel
theorem dX5_act_67 : decode cX5_act 67 = .ok (.invokevirtual 156, 3) := by decide +kernel
theorem dX5_act_70 : decode cX5_act 70 = .ok (.goto 55, 3) := by decide +kernel
theorem dX5_act_73 : decode cX5_act 73 = .ok (.iload_n 2, 1) := by decide +kernel
theorem dX5_act_74 : decode cX5_act 74 = .ok (.iconst 2, 1) := by decide +kernel
theorem dX5_act_75 : decode cX5_act 75 = .ok (.if_icmp .ne 19, 3) := by decide +kernel
theorem dX5_act_78 : decode cX5_act 78 = .ok (.aload_n 0, 1) := by decide +kernel
theorem dX5_act_79 : decode cX5_act 79 = .ok (.iload_n 1, 1) := by decide +kernel
theorem dX5_act_80 : decode cX5_act 80 = .ok (.invokevirtual 160, 3) := by decide +kernel
theorem dX5_act_83 : decode cX5_act 83 = .ok (.ifCond .ne 11, 3) := by decide +kernel
theorem dX5_act_86 : decode cX5_act 86 = .ok (.aload_n 0, 1) := by decide +kernel
theorem dX5_act_87 : decode cX5_act 87 = .ok (.iload_n 1, 1) := by decide +kernel
theorem dX5_act_88 : decode cX5_act 88 = .ok (.invokevirtual 153, 3) := by decide +kernel
theorem dX5_act_91 : decode cX5_act 91 = .ok (.goto 34, 3) := by decide +kernel
theorem dX5_act_94 : decode cX5_act 94 = .ok (.aload_n 0, 1) := by decide +kernel
theorem dX5_act_95 : decode cX5_act 95 = .ok (.iload_n 1, 1) := by decide +kernel
theorem dX5_act_96 : decode cX5_act 96 = .ok (.invokevirtual 163, 3) := by decide +kernel
theorem dX5_act_99 : decode cX5_act 99 = .ok (.istore 4, 2) := by decide +kernel
theorem dX5_act_101 : decode cX5_act 101 = .ok (.aload_n 0, 1) := by decide +kernel
theorem dX5_act_102 : decode cX5_act 102 = .ok (.iload_n 1, 1) := by decide +kernel
theorem dX5_act_103 : decode cX5_act 103 = .ok (.iload 4, 2) := by decide +kernel
theorem dX5_act_105 : decode cX5_act 105 = .ok (.ifCond .ne 16, 3) := by decide +kernel
theorem dX5_act_108 : decode cX5_act 108 = .ok (.iload_n 2, 1) := by decide +kernel
theorem dX5_act_109 : decode cX5_act 109 = .ok (.ifCond .eq 8, 3) := by decide +kernel
theorem dX5_act_112 : decode cX5_act 112 = .ok (.iload_n 2, 1) := by decide +kernel
theorem dX5_act_113 : decode cX5_act 113 = .ok (.iconst 4, 1) := by decide +kernel
theorem dX5_act_114 : decode cX5_act 114 = .ok (.if_icmp .ne 7, 3) := by decide +kernel
theorem dX5_act_117 : decode cX5_act 117 = .ok (.iconst 1, 1) := by decide +kernel
theorem dX5_act_118 : decode cX5_act 118 = .ok (.goto 4, 3) := by decide +kernel
theorem dX5_act_121 : decode cX5_act 121 = .ok (.iconst 0, 1) := by decide +kernel
theorem dX5_act_122 : decode cX5_act 122 = .ok (.invokevirtual 156, 3) := by decide +kernel
theorem dX5_act_125 : decode cX5_act 125 = .ok (.return_, 1) := by decide +kernel
theorem dX5_ready_0 : decode cX5_ready 0 = .ok (.iconst 0, 1) := by decide +kernel
theorem dX5_ready_1 : decode cX5_ready 1 = .ok (.istore_n 2, 1) := by decide +kernel
theorem dX5_ready_2 : decode cX5_ready 2 = .ok (.iload_n 2, 1) := by decide +kernel
theorem dX5_ready_3 : decode cX5_ready 3 = .ok (.aload_n 0, 1) := by decide +kernel
theorem dX5_ready_4 : decode cX5_ready 4 = .ok (.getfield 116, 3) := by decide +kernel
theorem dX5_ready_7 : decode cX5_ready 7 = .ok (.if_icmp .ge 92, 3) := by decide +kernel
theorem dX5_ready_10 : decode cX5_ready 10 = .ok (.aload_n 0, 1) := by decide +kernel
theorem dX5_ready_11 : decode cX5_ready 11 = .ok (.getfield 57, 3) := by decide +kernel
theorem dX5_ready_14 : decode cX5_ready 14 = .ok (.iload_n 2, 1) := by decide +kernel
theorem dX5_ready_15 : decode cX5_ready 15 = .ok (.iaload, 1) := by decide +kernel
theorem dX5_ready_16 : decode cX5_ready 16 = .ok (.iconst 1, 1) := by decide +kernel
theorem dX5_ready_17 : decode cX5_ready 17 = .ok (.if_icmp .ne 26, 3) := by decide +kernel
theorem dX5_ready_20 : decode cX5_ready 20 = .ok (.aload_n 0, 1) := by decide +kernel
theorem dX5_ready_21 : decode cX5_ready 21 = .ok (.getfield 36, 3) := by decide +kernel
theorem dX5_ready_24 : decode cX5_ready 24 = .ok (.iload_n 2, 1) := by decide +kernel
theorem dX5_ready_25 : decode cX5_ready 25 = .ok (.iaload, 1) := by decide +kernel
theorem dX5_ready_26 : decode cX5_ready 26 = .ok (.iload_n 1, 1) := by decide +kernel
theorem dX5_ready_27 : decode cX5_ready 27 = .ok (.if_icmp .ne 16, 3) := by decide +kernel
theorem dX5_ready_30 : decode cX5_ready 30 = .ok (.aload_n 0, 1) := by decide +kernel
theorem dX5_ready_31 : decode cX5_ready 31 = .ok (.getfield 81, 3) := by decide +kernel
theorem dX5_ready_34 : decode cX5_ready 34 = .ok (.iload_n 1, 1) := by decide +kernel
theorem dX5_ready_35 : decode cX5_ready 35 = .ok (.iaload, 1) := by decide +kernel
theorem dX5_ready_36 : decode cX5_ready 36 = .ok (.ifCond .le 7, 3) := by decide +kernel
theorem dX5_ready_39 : decode cX5_ready 39 = .ok (.iconst 1, 1) := by decide +kernel
theorem dX5_ready_40 : decode cX5_ready 40 = .ok (.goto 4, 3) := by decide +kernel
theorem dX5_ready_43 : decode cX5_ready 43 = .ok (.iconst 0, 1) := by decide +kernel
theorem dX5_ready_44 : decode cX5_ready 44 = .ok (.istore_n 3, 1) := by decide +kernel
theorem dX5_ready_45 : decode cX5_ready 45 = .ok (.iload_n 3, 1) := by decide +kernel
theorem dX5_ready_46 : decode cX5_ready 46 = .ok (.ifCond .eq 47, 3) := by decide +kernel
theorem dX5_ready_49 : decode cX5_ready 49 = .ok (.aload_n 0, 1) := by decide +kernel
theorem dX5_ready_50 : decode cX5_ready 50 = .ok (.getfield 39, 3) := by decide +kernel
theorem dX5_ready_53 : decode cX5_ready 53 = .ok (.iload_n 2, 1) := by decide +kernel
theorem dX5_ready_54 : decode cX5_ready 54 = .ok (.iaload, 1) := by decide +kernel
theorem dX5_ready_55 : decode cX5_ready 55 = .ok (.ifCond .ne 21, 3) := by decide +kernel
theorem dX5_ready_58 : decode cX5_ready 58 = .ok (.aload_n 0, 1) := by decide +kernel
theorem dX5_ready_59 : decode cX5_ready 59 = .ok (.getfield 81, 3) := by decide +kernel
theorem dX5_ready_62 : decode cX5_ready 62 = .ok (.iload_n 1, 1) := by decide +kernel
theorem dX5_ready_63 : decode cX5_ready 63 = .ok (.iaload, 1) := by decide +kernel
theorem dX5_ready_64 : decode cX5_ready 64 = .ok (.aload_n 0, 1) := by decide +kernel
theorem dX5_ready_65 : decode cX5_ready 65 = .ok (.getfield 54, 3) := by decide +kernel
theorem dX5_ready_68 : decode cX5_ready 68 = .ok (.iload_n 2, 1) := by decide +kernel
theorem dX5_ready_69 : decode cX5_ready 69 = .ok (.iaload, 1) := by decide +kernel
theorem dX5_ready_70 : decode cX5_ready 70 = .ok (.if_icmp .lt 23, 3) := by decide +kernel
theorem dX5_ready_73 : decode cX5_ready 73 = .ok (.goto 18, 3) := by decide +kernel
theorem dX5_ready_76 : decode cX5_ready 76 = .ok (.aload_n 0, 1) := by decide +kernel
theorem dX5_ready_77 : decode cX5_ready 77 = .ok (.getfield 81, 3) := by decide +kernel
theorem dX5_ready_80 : decode cX5_ready 80 = .ok (.iload_n 1, 1) := by decide +kernel
theorem dX5_ready_81 : decode cX5_ready 81 = .ok (.iaload, 1) := by decide +kernel
theorem dX5_ready_82 : decode cX5_ready 82 = .ok (.aload_n 0, 1) := by decide +kernel
theorem dX5_ready_83 : decode cX5_ready 83 = .ok (.getfield 54, 3) := by decide +kernel
theorem dX5_ready_86 : decode cX5_ready 86 = .ok (.iload_n 2, 1) := by decide +kernel
theorem dX5_ready_87 : decode cX5_ready 87 = .ok (.iaload, 1) := by decide +kernel
theorem dX5_ready_88 : decode cX5_ready 88 = .ok (.if_icmp .gt 5, 3) := by decide +kernel
theorem dX5_ready_91 : decode cX5_ready 91 = .ok (.iload_n 2, 1) := by decide +kernel
theorem dX5_ready_92 : decode cX5_ready 92 = .ok (.ireturn, 1) := by decide +kernel
theorem dX5_ready_93 : decode cX5_ready 93 = .ok (.iinc 2 1, 3) := by decide +kernel
theorem dX5_ready_96 : decode cX5_ready 96 = .ok (.goto (-94), 3) := by decide +kernel
theorem dX5_ready_99 : decode cX5_ready 99 = .ok (.iconst (-1), 1) := by decide +kernel
theorem dX5_ready_100 : decode cX5_ready 100 = .ok (.ireturn, 1) := by decide +kernel
set_option maxRecDepth 20000 in
theorem ggX5_order_X5_isAccount : GoodIn wsX5_order wsX5_isAccount := goodIn_r _ [18, 19, 20, 17, 21] (by decide +kernel) (by decide +kernel)
set_option maxRecDepth 20000 in
theorem gX5_order_X5_isAccount : GoodIn wsX5_order (va_wsS RX5 101 yX5_isAccount wsX5_isAccount) := goodIn_app (goodIn_of _ (by decide +kernel)) ggX5_order_X5_isAccount
set_option maxRecDepth 20000 in
theorem ggX5_order_X5_isSymbol : GoodIn wsX5_order wsX5_isSymbol := goodIn_r _ [24, 19, 20, 17, 21] (by decide +kernel) (by decide +kernel)
set_option maxRecDepth 20000 in
theorem gX5_order_X5_isSymbol : GoodIn wsX5_order (va_wsS RX5 108 yX5_isSymbol wsX5_isSymbol) := goodIn_app (goodIn_of _ (by decide +kernel)) ggX5_order_X5_isSymbol
set_option maxRecDepth 20000 in
theorem ggX5_order_X5_isIn : GoodIn wsX5_order wsX5_isIn := goodIn_r _ [21] (by decide +kernel) (by decide +kernel)
set_option maxRecDepth 20000 in
theorem gX5_order_X5_isIn : GoodIn wsX5_order (va_wsS RX5 97 yX5_isIn wsX5_isIn) := goodIn_app (goodIn_of _ (by decide +kernel)) ggX5_order_X5_isIn
set_option maxRecDepth 20000 in
theorem ggX5_order_X5_there : GoodIn wsX5_order wsX5_there := goodIn_r _ [28, 6, 29, 30, 31, 17, 32, 14, 102, 103, 104, 105, 106, 107, 108, 109, 110, 111, 112, 113, 114, 115, 116, 117, 118, 119, 120, 121, 122, 123, 124, 125, 126, 127, 128, 129, 130, 131, 132, 133] (by decide +kernel) (by decide +kernel)
set_option maxRecDepth 20000 in
theorem gX5_order_X5_there : GoodIn wsX5_order (wsV RX5 166 RX5 yX5_there wsX5_there) := goodIn_app (goodIn_of _ (by decide +kernel)) ggX5_order_X5_there
set_option maxRecDepth 20000 in
theorem ggX5_order_X5_cell : GoodIn wsX5_order wsX5_cell := goodIn_r _ [35] (by decide +kernel) (by decide +kernel)
set_option maxRecDepth 20000 in
theorem gX5_order_X5_cell : GoodIn wsX5_order (va_wsS RX5 112 yX5_cell wsX5_cell) := goodIn_app (goodIn_of _ (by decide +kernel)) ggX5_order_X5_cell
set_option maxRecDepth 20000 in
theorem ggX5_order_X5_free : GoodIn wsX5_order wsX5_free := goodIn_r _ [39, 7, 9, 2, 11, 4, 8, 33, 34, 17, 35, 102, 103, 104, 105, 106, 107, 108, 109, 110, 111, 112, 113, 114, 115, 116, 117, 118, 119, 120, 121, 122, 123, 124, 125, 126, 127, 128, 129, 130, 131, 132, 133] (by decide +kernel) (by decide +kernel)
set_option maxRecDepth 20000 in
theorem gX5_order_X5_free : GoodIn wsX5_order (wsV RX5 128 RX5 yX5_free wsX5_free) := goodIn_app (goodIn_of _ (by decide +kernel)) ggX5_order_X5_free
set_option maxRecDepth 20000 in
theorem ggX5_order_X5_act : GoodIn wsX5_order wsX5_act := goodIn_r _ [43, 10, 8, 9, 14, 44, 45, 46, 17, 47, 6, 11, 48, 49, 50, 51, 52, 53, 54, 55, 56, 57, 58, 59, 60, 61, 62, 63, 12, 64, 65, 66, 67, 68, 13, 69, 70, 71, 72, 73, 36, 37, 38, 39, 7, 2, 4, 33, 34, 35, 74, 75, 76, 77, 78, 79, 80, 81, 82, 83, 84, 85, 86, 87, 88, 89, 1, 3, 90, 91, 92, 93, 94, 95, 96, 97, 102, 103, 104, 105, 106, 107, 108, 109, 110, 111, 112, 113, 114, 115, 116, 117, 118, 119, 120, 121, 122, 123, 124, 125, 126, 127, 128, 129, 130, 131, 132, 133] (by decide +kernel) (by decide +kernel)
set_option maxRecDepth 20000 in
theorem gX5_order_X5_act : GoodIn wsX5_order (wsV RX5 170 RX5 yX5_act wsX5_act) := goodIn_app (goodIn_of _ (by decide +kernel)) ggX5_order_X5_act
set_option maxRecDepth 20000 in
theorem ggX5_order_X5_ready : GoodIn wsX5_order wsX5_ready := goodIn_r _ [101, 6, 14, 8, 94, 9, 13, 102, 103, 104, 105, 106, 107, 108, 109, 110, 111, 112, 113, 114, 115, 116, 117, 118, 119, 120, 121, 122, 123, 124, 125, 126, 127, 128, 129, 130, 131, 132, 133] (by decide +kernel) (by decide +kernel)
set_option maxRecDepth 20000 in
theorem gX5_order_X5_ready : GoodIn wsX5_order (wsV RX5 173 RX5 yX5_ready wsX5_ready) := goodIn_app (goodIn_of _ (by decide +kernel)) ggX5_order_X5_ready
theorem dX5_order_0 : decode cX5_order 0 = .ok (.iload_n 1, 1) := by decide +kernel
theorem dX5_order_1 : decode cX5_order 1 = .ok (.invokestatic 101, 3) := by decide +kernel
theorem dX5_order_4 : decode cX5_order 4 = .ok (.ifCond .eq 14, 3) := by decide +kernel
theorem dX5_order_7 : decode cX5_order 7 = .ok (.iload_n 2, 1) := by decide +kernel
theorem dX5_order_8 : decode cX5_order 8 = .ok (.invokestatic 108, 3) := by decide +kernel
theorem dX5_order_11 : decode cX5_order 11 = .ok (.ifCond .eq 7, 3) := by decide +kernel
theorem dX5_order_14 : decode cX5_order 14 = .ok (.iconst 1, 1) := by decide +kernel
theorem dX5_order_15 : decode cX5_order 15 = .ok (.goto 4, 3) := by decide +kernel
theorem dX5_order_18 : decode cX5_order 18 = .ok (.iconst 0, 1) := by decide +kernel
theorem dX5_order_19 : decode cX5_order 19 = .ok (.istore 8, 2) := by decide +kernel
theorem dX5_order_21 : decode cX5_order 21 = .ok (.iload_n 3, 1) := by decide +kernel
theorem dX5_order_22 : decode cX5_order 22 = .ok (.iconst 0, 1) := by decide +kernel
theorem dX5_order_23 : decode cX5_order 23 = .ok (.iconst 1, 1) := by decide +kernel
theorem dX5_order_24 : decode cX5_order 24 = .ok (.invokestatic 97, 3) := by decide +kernel
theorem dX5_order_27 : decode cX5_order 27 = .ok (.ifCond .eq 59, 3) := by decide +kernel
theorem dX5_order_30 : decode cX5_order 30 = .ok (.iload 4, 2) := by decide +kernel
theorem dX5_order_32 : decode cX5_order 32 = .ok (.iconst 0, 1) := by decide +kernel
theorem dX5_order_33 : decode cX5_order 33 = .ok (.iconst 5, 1) := by decide +kernel
theorem dX5_order_34 : decode cX5_order 34 = .ok (.invokestatic 97, 3) := by decide +kernel
theorem dX5_order_37 : decode cX5_order 37 = .ok (.ifCond .eq 49, 3) := by decide +kernel
theorem dX5_order_40 : decode cX5_order 40 = .ok (.iload 5, 2) := by decide +kernel
theorem dX5_order_42 : decode cX5_order 42 = .ok (.iconst 1, 1) := by decide +kernel
theorem dX5_order_43 : decode cX5_order 43 = .ok (.sipush 10000, 3) := by decide +kernel
theorem dX5_order_46 : decode cX5_order 46 = .ok (.invokestatic 97, 3) := by decide +kernel
theorem dX5_order_49 : decode cX5_order 49 = .ok (.ifCond .eq 37, 3) := by decide +kernel
theorem dX5_order_52 : decode cX5_order 52 = .ok (.iload 6, 2) := by decide +kernel
theorem dX5_order_54 : decode cX5_order 54 = .ok (.iconst 1, 1) := by decide +kernel
theorem dX5_order_55 : decode cX5_order 55 = .ok (.sipush 10000, 3) := by decide +kernel
theorem dX5_order_58 : decode cX5_order 58 = .ok (.invokestatic 97, 3) := by decide +kernel
theorem dX5_order_61 : decode cX5_order 61 = .ok (.ifCond .eq 25, 3) := by decide +kernel
theorem dX5_order_64 : decode cX5_order 64 = .ok (.iload 4, 2) := by decide +kernel
theorem dX5_order_66 : decode cX5_order 66 = .ok (.iconst 4, 1) := by decide +kernel
theorem dX5_order_67 : decode cX5_order 67 = .ok (.if_icmp .lt 15, 3) := by decide +kernel
theorem dX5_order_70 : decode cX5_order 70 = .ok (.iload 7, 2) := by decide +kernel
theorem dX5_order_72 : decode cX5_order 72 = .ok (.iconst 1, 1) := by decide +kernel
theorem dX5_order_73 : decode cX5_order 73 = .ok (.sipush 10000, 3) := by decide +kernel
theorem dX5_order_76 : decode cX5_order 76 = .ok (.invokestatic 97, 3) := by decide +kernel
theorem dX5_order_79 : decode cX5_order 79 = .ok (.ifCond .eq 7, 3) := by decide +kernel
theorem dX5_order_82 : decode cX5_order 82 = .ok (.iconst 1, 1) := by decide +kernel
theorem dX5_order_83 : decode cX5_order 83 = .ok (.goto 4, 3) := by decide +kernel
theorem dX5_order_86 : decode cX5_order 86 = .ok (.iconst 0, 1) := by decide +kernel
theorem dX5_order_87 : decode cX5_order 87 = .ok (.istore 9, 2) := by decide +kernel
theorem dX5_order_89 : decode cX5_order 89 = .ok (.iload 8, 2) := by decide +kernel
theorem dX5_order_91 : decode cX5_order 91 = .ok (.ifCond .eq 78, 3) := by decide +kernel
theorem dX5_order_94 : decode cX5_order 94 = .ok (.iload 9, 2) := by decide +kernel
theorem dX5_order_96 : decode cX5_order 96 = .ok (.ifCond .eq 73, 3) := by decide +kernel
theorem dX5_order_99 : decode cX5_order 99 = .ok (.aload_n 0, 1) := by decide +kernel
theorem dX5_order_100 : decode cX5_order 100 = .ok (.invokevirtual 166, 3) := by decide +kernel
theorem dX5_order_103 : decode cX5_order 103 = .ok (.bipush 100, 2) := by decide +kernel
theorem dX5_order_105 : decode cX5_order 105 = .ok (.if_icmp .ge 64, 3) := by decide +kernel
theorem dX5_order_108 : decode cX5_order 108 = .ok (.iload_n 3, 1) := by decide +kernel
theorem dX5_order_109 : decode cX5_order 109 = .ok (.ifCond .ne 30, 3) := by decide +kernel
theorem dX5_order_112 : decode cX5_order 112 = .ok (.aload_n 0, 1) := by decide +kernel
theorem dX5_order_113 : decode cX5_order 113 = .ok (.getfield 7, 3) := by decide +kernel
theorem dX5_order_116 : decode cX5_order 116 = .ok (.iload_n 1, 1) := by decide +kernel
theorem dX5_order_117 : decode cX5_order 117 = .ok (.laload, 1) := by decide +kernel
theorem dX5_order_118 : decode cX5_order 118 = .ok (.aload_n 0, 1) := by decide +kernel
theorem dX5_order_119 : decode cX5_order 119 = .ok (.getfield 13, 3) := by decide +kernel
theorem dX5_order_122 : decode cX5_order 122 = .ok (.iload_n 1, 1) := by decide +kernel
theorem dX5_order_123 : decode cX5_order 123 = .ok (.laload, 1) := by decide +kernel
theorem dX5_order_124 : decode cX5_order 124 = .ok (.lsub, 1) := by decide +kernel
theorem dX5_order_125 : decode cX5_order 125 = .ok (.iload 5, 2) := by decide +kernel
theorem dX5_order_127 : decode cX5_order 127 = .ok (.i2l, 1) := by decide +kernel
theorem dX5_order_128 : decode cX5_order 128 = .ok (.iload 6, 2) := by decide +kernel
theorem dX5_order_130 : decode cX5_order 130 = .ok (.i2l, 1) := by decide +kernel
theorem dX5_order_131 : decode cX5_order 131 = .ok (.lmul, 1) := by decide +kernel
theorem dX5_order_132 : decode cX5_order 132 = .ok (.lcmp, 1) := by decide +kernel
theorem dX5_order_133 : decode cX5_order 133 = .ok (.ifCond .lt 36, 3) := by decide +kernel
theorem dX5_order_136 : decode cX5_order 136 = .ok (.goto 29, 3) := by decide +kernel
theorem dX5_order_139 : decode cX5_order 139 = .ok (.aload_n 0, 1) := by decide +kernel
theorem dX5_order_140 : decode cX5_order 140 = .ok (.getfield 16, 3) := by decide +kernel
theorem dX5_order_143 : decode cX5_order 143 = .ok (.iload_n 1, 1) := by decide +kernel
theorem dX5_order_144 : decode cX5_order 144 = .ok (.iload_n 2, 1) := by decide +kernel
theorem dX5_order_145 : decode cX5_order 145 = .ok (.invokestatic 112, 3) := by decide +kernel
theorem dX5_order_148 : decode cX5_order 148 = .ok (.iaload, 1) := by decide +kernel
theorem dX5_order_149 : decode cX5_order 149 = .ok (.aload_n 0, 1) := by decide +kernel
theorem dX5_order_150 : decode cX5_order 150 = .ok (.getfield 20, 3) := by decide +kernel
theorem dX5_order_153 : decode cX5_order 153 = .ok (.iload_n 1, 1) := by decide +kernel
theorem dX5_order_154 : decode cX5_order 154 = .ok (.iload_n 2, 1) := by decide +kernel
theorem dX5_order_155 : decode cX5_order 155 = .ok (.invokestatic 112, 3) := by decide +kernel
theorem dX5_order_158 : decode cX5_order 158 = .ok (.iaload, 1) := by decide +kernel
theorem dX5_order_159 : decode cX5_order 159 = .ok (.isub, 1) := by decide +kernel
theorem dX5_order_160 : decode cX5_order 160 = .ok (.iload 6, 2) := by decide +kernel
theorem dX5_order_162 : decode cX5_order 162 = .ok (.if_icmp .lt 7, 3) := by decide +kernel
theorem dX5_order_165 : decode cX5_order 165 = .ok (.iconst 1, 1) := by decide +kernel
theorem dX5_order_166 : decode cX5_order 166 = .ok (.goto 4, 3) := by decide +kernel
theorem dX5_order_169 : decode cX5_order 169 = .ok (.iconst 0, 1) := by decide +kernel
theorem dX5_order_170 : decode cX5_order 170 = .ok (.istore 10, 2) := by decide +kernel
theorem dX5_order_172 : decode cX5_order 172 = .ok (.aload_n 0, 1) := by decide +kernel
theorem dX5_order_173 : decode cX5_order 173 = .ok (.iload 8, 2) := by decide +kernel
theorem dX5_order_175 : decode cX5_order 175 = .ok (.ifCond .ne 7, 3) := by decide +kernel
theorem dX5_order_178 : decode cX5_order 178 = .ok (.iconst 1, 1) := by decide +kernel
theorem dX5_order_179 : decode cX5_order 179 = .ok (.goto 22, 3) := by decide +kernel
theorem dX5_order_182 : decode cX5_order 182 = .ok (.iload 9, 2) := by decide +kernel
theorem dX5_order_184 : decode cX5_order 184 = .ok (.ifCond .ne 7, 3) := by decide +kernel
theorem dX5_order_187 : decode cX5_order 187 = .ok (.iconst 2, 1) := by decide +kernel
theorem dX5_order_188 : decode cX5_order 188 = .ok (.goto 13, 3) := by decide +kernel
theorem dX5_order_191 : decode cX5_order 191 = .ok (.iload 10, 2) := by decide +kernel
theorem dX5_order_193 : decode cX5_order 193 = .ok (.ifCond .ne 7, 3) := by decide +kernel
theorem dX5_order_196 : decode cX5_order 196 = .ok (.iconst 3, 1) := by decide +kernel
theorem dX5_order_197 : decode cX5_order 197 = .ok (.goto 4, 3) := by decide +kernel
theorem dX5_order_200 : decode cX5_order 200 = .ok (.iconst 0, 1) := by decide +kernel
theorem dX5_order_201 : decode cX5_order 201 = .ok (.putfield 93, 3) := by decide +kernel
theorem dX5_order_204 : decode cX5_order 204 = .ok (.aload_n 0, 1) := by decide +kernel
theorem dX5_order_205 : decode cX5_order 205 = .ok (.getfield 93, 3) := by decide +kernel
theorem dX5_order_208 : decode cX5_order 208 = .ok (.ifCond .le 5, 3) := by decide +kernel
theorem dX5_order_211 : decode cX5_order 211 = .ok (.iconst 0, 1) := by decide +kernel
theorem dX5_order_212 : decode cX5_order 212 = .ok (.ireturn, 1) := by decide +kernel
theorem dX5_order_213 : decode cX5_order 213 = .ok (.aload_n 0, 1) := by decide +kernel
theorem dX5_order_214 : decode cX5_order 214 = .ok (.getfield 116, 3) := by decide +kernel
theorem dX5_order_217 : decode cX5_order 217 = .ok (.istore 11, 2) := by decide +kernel
theorem dX5_order_219 : decode cX5_order 219 = .ok (.aload_n 0, 1) := by decide +kernel
theorem dX5_order_220 : decode cX5_order 220 = .ok (.dup, 1) := by decide +kernel
theorem dX5_order_221 : decode cX5_order 221 = .ok (.getfield 116, 3) := by decide +kernel
theorem dX5_order_224 : decode cX5_order 224 = .ok (.iconst 1, 1) := by decide +kernel
theorem dX5_order_225 : decode cX5_order 225 = .ok (.iadd, 1) := by decide +kernel
theorem dX5_order_226 : decode cX5_order 226 = .ok (.putfield 116, 3) := by decide +kernel
theorem dX5_order_229 : decode cX5_order 229 = .ok (.aload_n 0, 1) := by decide +kernel
theorem dX5_order_230 : decode cX5_order 230 = .ok (.getfield 33, 3) := by decide +kernel
theorem dX5_order_233 : decode cX5_order 233 = .ok (.iload 11, 2) := by decide +kernel
theorem dX5_order_235 : decode cX5_order 235 = .ok (.iload_n 1, 1) := by decide +kernel
theorem dX5_order_236 : decode cX5_order 236 = .ok (.iastore, 1) := by decide +kernel
theorem dX5_order_237 : decode cX5_order 237 = .ok (.aload_n 0, 1) := by decide +kernel
theorem dX5_order_238 : decode cX5_order 238 = .ok (.getfield 36, 3) := by decide +kernel
theorem dX5_order_241 : decode cX5_order 241 = .ok (.iload 11, 2) := by decide +kernel
theorem dX5_order_243 : decode cX5_order 243 = .ok (.iload_n 2, 1) := by decide +kernel
theorem dX5_order_244 : decode cX5_order 244 = .ok (.iastore, 1) := by decide +kernel
theorem dX5_order_245 : decode cX5_order 245 = .ok (.aload_n 0, 1) := by decide +kernel
theorem dX5_order_246 : decode cX5_order 246 = .ok (.getfield 39, 3) := by decide +kernel
theorem dX5_order_249 : decode cX5_order 249 = .ok (.iload 11, 2) := by decide +kernel
theorem dX5_order_251 : decode cX5_order 251 = .ok (.iload_n 3, 1) := by decide +kernel
theorem dX5_order_252 : decode cX5_order 252 = .ok (.iastore, 1) := by decide +kernel
theorem dX5_order_253 : decode cX5_order 253 = .ok (.aload_n 0, 1) := by decide +kernel
theorem dX5_order_254 : decode cX5_order 254 = .ok (.getfield 42, 3) := by decide +kernel
theorem dX5_order_257 : decode cX5_order 257 = .ok (.iload 11, 2) := by decide +kernel
theorem dX5_order_259 : decode cX5_order 259 = .ok (.iload 4, 2) := by decide +kernel
theorem dX5_order_261 : decode cX5_order 261 = .ok (.iastore, 1) := by decide +kernel
theorem dX5_order_262 : decode cX5_order 262 = .ok (.aload_n 0, 1) := by decide +kernel
theorem dX5_order_263 : decode cX5_order 263 = .ok (.getfield 45, 3) := by decide +kernel
theorem dX5_order_266 : decode cX5_order 266 = .ok (.iload 11, 2) := by decide +kernel
theorem dX5_order_268 : decode cX5_order 268 = .ok (.iload 5, 2) := by decide +kernel
theorem dX5_order_270 : decode cX5_order 270 = .ok (.iastore, 1) := by decide +kernel
theorem dX5_order_271 : decode cX5_order 271 = .ok (.aload_n 0, 1) := by decide +kernel
theorem dX5_order_272 : decode cX5_order 272 = .ok (.getfield 48, 3) := by decide +kernel
theorem dX5_order_275 : decode cX5_order 275 = .ok (.iload 11, 2) := by decide +kernel
theorem dX5_order_277 : decode cX5_order 277 = .ok (.iload 6, 2) := by decide +kernel
theorem dX5_order_279 : decode cX5_order 279 = .ok (.iastore, 1) := by decide +kernel
theorem dX5_order_280 : decode cX5_order 280 = .ok (.aload_n 0, 1) := by decide +kernel
theorem dX5_order_281 : decode cX5_order 281 = .ok (.getfield 54, 3) := by decide +kernel
theorem dX5_order_284 : decode cX5_order 284 = .ok (.iload 11, 2) := by decide +kernel
theorem dX5_order_286 : decode cX5_order 286 = .ok (.iload 7, 2) := by decide +kernel
theorem dX5_order_288 : decode cX5_order 288 = .ok (.iastore, 1) := by decide +kernel
theorem dX5_order_289 : decode cX5_order 289 = .ok (.aload_n 0, 1) := by decide +kernel
theorem dX5_order_290 : decode cX5_order 290 = .ok (.getfield 57, 3) := by decide +kernel
theorem dX5_order_293 : decode cX5_order 293 = .ok (.iload 11, 2) := by decide +kernel
theorem dX5_order_295 : decode cX5_order 295 = .ok (.iconst 3, 1) := by decide +kernel
theorem dX5_order_296 : decode cX5_order 296 = .ok (.iastore, 1) := by decide +kernel
theorem dX5_order_297 : decode cX5_order 297 = .ok (.aload_n 0, 1) := by decide +kernel
theorem dX5_order_298 : decode cX5_order 298 = .ok (.iload 11, 2) := by decide +kernel
end
section
theorem dX5_order_300 : decode cX5_order 300 = .ok (.iload 6, 2) := by decide +kernel
theorem dX5_order_302 : decode cX5_order 302 = .ok (.ineg, 1) := by decide +kernel
theorem dX5_order_303 : decode cX5_order 303 = .ok (.invokevirtual 128, 3) := by decide +kernel
theorem dX5_order_306 : decode cX5_order 306 = .ok (.aload_n 0, 1) := by decide +kernel
theorem dX5_order_307 : decode cX5_order 307 = .ok (.iload 11, 2) := by decide +kernel
theorem dX5_order_309 : decode cX5_order 309 = .ok (.invokevirtual 170, 3) := by decide +kernel
theorem dX5_order_312 : decode cX5_order 312 = .ok (.aload_n 0, 1) := by decide +kernel
theorem dX5_order_313 : decode cX5_order 313 = .ok (.iload_n 2, 1) := by decide +kernel
theorem dX5_order_314 : decode cX5_order 314 = .ok (.invokevirtual 173, 3) := by decide +kernel
theorem dX5_order_317 : decode cX5_order 317 = .ok (.istore 12, 2) := by decide +kernel
theorem dX5_order_319 : decode cX5_order 319 = .ok (.iload 12, 2) := by decide +kernel
theorem dX5_order_321 : decode cX5_order 321 = .ok (.iconst (-1), 1) := by decide +kernel
theorem dX5_order_322 : decode cX5_order 322 = .ok (.if_icmp .eq 35, 3) := by decide +kernel
theorem dX5_order_325 : decode cX5_order 325 = .ok (.aload_n 0, 1) := by decide +kernel
theorem dX5_order_326 : decode cX5_order 326 = .ok (.getfield 42, 3) := by decide +kernel
theorem dX5_order_329 : decode cX5_order 329 = .ok (.iload 12, 2) := by decide +kernel
theorem dX5_order_331 : decode cX5_order 331 = .ok (.iconst 0, 1) := by decide +kernel
theorem dX5_order_332 : decode cX5_order 332 = .ok (.iastore, 1) := by decide +kernel
theorem dX5_order_333 : decode cX5_order 333 = .ok (.aload_n 0, 1) := by decide +kernel
theorem dX5_order_334 : decode cX5_order 334 = .ok (.getfield 57, 3) := by decide +kernel
theorem dX5_order_337 : decode cX5_order 337 = .ok (.iload 12, 2) := by decide +kernel
theorem dX5_order_339 : decode cX5_order 339 = .ok (.iconst 3, 1) := by decide +kernel
theorem dX5_order_340 : decode cX5_order 340 = .ok (.iastore, 1) := by decide +kernel
theorem dX5_order_341 : decode cX5_order 341 = .ok (.aload_n 0, 1) := by decide +kernel
theorem dX5_order_342 : decode cX5_order 342 = .ok (.iload 12, 2) := by decide +kernel
theorem dX5_order_344 : decode cX5_order 344 = .ok (.invokevirtual 170, 3) := by decide +kernel
theorem dX5_order_347 : decode cX5_order 347 = .ok (.aload_n 0, 1) := by decide +kernel
theorem dX5_order_348 : decode cX5_order 348 = .ok (.iload_n 2, 1) := by decide +kernel
theorem dX5_order_349 : decode cX5_order 349 = .ok (.invokevirtual 173, 3) := by decide +kernel
theorem dX5_order_352 : decode cX5_order 352 = .ok (.istore 12, 2) := by decide +kernel
theorem dX5_order_354 : decode cX5_order 354 = .ok (.goto (-35), 3) := by decide +kernel
theorem dX5_order_357 : decode cX5_order 357 = .ok (.iload 11, 2) := by decide +kernel
theorem dX5_order_359 : decode cX5_order 359 = .ok (.ireturn, 1) := by decide +kernel
set_option maxRecDepth 20000 in
theorem ggX5_refusal_X5_isAccount : GoodIn wsX5_refusal wsX5_isAccount := goodIn_r _ [6, 7, 8, 5, 9] (by decide +kernel) (by decide +kernel)
set_option maxRecDepth 20000 in
theorem gX5_refusal_X5_isAccount : GoodIn wsX5_refusal (va_wsS RX5 101 yX5_isAccount wsX5_isAccount) := goodIn_app (goodIn_of _ (by decide +kernel)) ggX5_refusal_X5_isAccount
set_option maxRecDepth 20000 in
theorem ggX5_refusal_X5_isIn : GoodIn wsX5_refusal wsX5_isIn := goodIn_r _ [9] (by decide +kernel) (by decide +kernel)
set_option maxRecDepth 20000 in
theorem gX5_refusal_X5_isIn : GoodIn wsX5_refusal (va_wsS RX5 97 yX5_isIn wsX5_isIn) := goodIn_app (goodIn_of _ (by decide +kernel)) ggX5_refusal_X5_isIn
set_option maxRecDepth 20000 in
theorem ggX5_refusal_X5_isThere : GoodIn wsX5_refusal wsX5_isThere := goodIn_r _ [13, 14, 15, 16, 17, 18, 19, 20, 21, 22, 23, 24, 25, 26, 27, 28, 29, 30, 31, 32, 33, 34, 35, 36, 37, 38, 39, 40, 41, 42, 43, 44, 45, 46] (by decide +kernel) (by decide +kernel)
set_option maxRecDepth 20000 in
theorem gX5_refusal_X5_isThere : GoodIn wsX5_refusal (wsV RX5 119 RX5 yX5_isThere wsX5_isThere) := goodIn_app (goodIn_of _ (by decide +kernel)) ggX5_refusal_X5_isThere
theorem dX5_refusal_0 : decode cX5_refusal 0 = .ok (.iload_n 1, 1) := by decide +kernel
theorem dX5_refusal_1 : decode cX5_refusal 1 = .ok (.invokestatic 101, 3) := by decide +kernel
theorem dX5_refusal_4 : decode cX5_refusal 4 = .ok (.ifCond .eq 17, 3) := by decide +kernel
theorem dX5_refusal_7 : decode cX5_refusal 7 = .ok (.iload_n 2, 1) := by decide +kernel
theorem dX5_refusal_8 : decode cX5_refusal 8 = .ok (.iconst 0, 1) := by decide +kernel
theorem dX5_refusal_9 : decode cX5_refusal 9 = .ok (.aload_n 0, 1) := by decide +kernel
theorem dX5_refusal_10 : decode cX5_refusal 10 = .ok (.getfield 116, 3) := by decide +kernel
theorem dX5_refusal_13 : decode cX5_refusal 13 = .ok (.iconst 1, 1) := by decide +kernel
theorem dX5_refusal_14 : decode cX5_refusal 14 = .ok (.isub, 1) := by decide +kernel
theorem dX5_refusal_15 : decode cX5_refusal 15 = .ok (.invokestatic 97, 3) := by decide +kernel
theorem dX5_refusal_18 : decode cX5_refusal 18 = .ok (.ifCond .ne 5, 3) := by decide +kernel
theorem dX5_refusal_21 : decode cX5_refusal 21 = .ok (.iconst 1, 1) := by decide +kernel
theorem dX5_refusal_22 : decode cX5_refusal 22 = .ok (.ireturn, 1) := by decide +kernel
theorem dX5_refusal_23 : decode cX5_refusal 23 = .ok (.aload_n 0, 1) := by decide +kernel
theorem dX5_refusal_24 : decode cX5_refusal 24 = .ok (.getfield 33, 3) := by decide +kernel
theorem dX5_refusal_27 : decode cX5_refusal 27 = .ok (.iload_n 2, 1) := by decide +kernel
theorem dX5_refusal_28 : decode cX5_refusal 28 = .ok (.iaload, 1) := by decide +kernel
theorem dX5_refusal_29 : decode cX5_refusal 29 = .ok (.iload_n 1, 1) := by decide +kernel
theorem dX5_refusal_30 : decode cX5_refusal 30 = .ok (.if_icmp .ne 7, 3) := by decide +kernel
theorem dX5_refusal_33 : decode cX5_refusal 33 = .ok (.iload_n 3, 1) := by decide +kernel
theorem dX5_refusal_34 : decode cX5_refusal 34 = .ok (.ifCond .ne 7, 3) := by decide +kernel
theorem dX5_refusal_37 : decode cX5_refusal 37 = .ok (.iconst 2, 1) := by decide +kernel
theorem dX5_refusal_38 : decode cX5_refusal 38 = .ok (.goto 16, 3) := by decide +kernel
theorem dX5_refusal_41 : decode cX5_refusal 41 = .ok (.aload_n 0, 1) := by decide +kernel
theorem dX5_refusal_42 : decode cX5_refusal 42 = .ok (.iload_n 2, 1) := by decide +kernel
theorem dX5_refusal_43 : decode cX5_refusal 43 = .ok (.invokevirtual 119, 3) := by decide +kernel
theorem dX5_refusal_46 : decode cX5_refusal 46 = .ok (.ifCond .ne 7, 3) := by decide +kernel
theorem dX5_refusal_49 : decode cX5_refusal 49 = .ok (.iconst 3, 1) := by decide +kernel
theorem dX5_refusal_50 : decode cX5_refusal 50 = .ok (.goto 4, 3) := by decide +kernel
theorem dX5_refusal_53 : decode cX5_refusal 53 = .ok (.iconst 0, 1) := by decide +kernel
theorem dX5_refusal_54 : decode cX5_refusal 54 = .ok (.ireturn, 1) := by decide +kernel
set_option maxRecDepth 20000 in
theorem ggX5_cancel_X5_refusal : GoodIn wsX5_cancel wsX5_refusal := goodIn_r _ [7, 8, 9, 10, 11, 6, 12, 13, 14, 15, 16, 17, 18, 19, 20, 38, 39, 40, 41, 42, 43, 44, 45, 46, 47, 48, 49, 50, 51, 52, 53, 54, 55, 56, 57, 58, 59, 60, 61, 62, 63, 64, 65, 66, 67, 68, 69] (by decide +kernel) (by decide +kernel)
set_option maxRecDepth 20000 in
theorem gX5_cancel_X5_refusal : GoodIn wsX5_cancel (wsV RX5 177 RX5 yX5_refusal wsX5_refusal) := goodIn_app (goodIn_of _ (by decide +kernel)) ggX5_cancel_X5_refusal
set_option maxRecDepth 20000 in
theorem ggX5_cancel_X5_cancelled : GoodIn wsX5_cancel wsX5_cancelled := goodIn_r _ [24, 2, 25, 20, 26, 27, 28, 6, 29, 9, 30, 31, 32, 33, 34, 35, 36, 37, 38, 39, 40, 41, 42, 43, 44, 45, 46, 47, 48, 49, 50, 51, 52, 53, 54, 55, 56, 57, 58, 59, 60, 61, 62, 63, 64, 65, 66, 67, 68, 69] (by decide +kernel) (by decide +kernel)
set_option maxRecDepth 20000 in
theorem gX5_cancel_X5_cancelled : GoodIn wsX5_cancel (wsV RX5 153 RX5 yX5_cancelled wsX5_cancelled) := goodIn_app (goodIn_of _ (by decide +kernel)) ggX5_cancel_X5_cancelled
theorem dX5_cancel_0 : decode cX5_cancel 0 = .ok (.aload_n 0, 1) := by decide +kernel
theorem dX5_cancel_1 : decode cX5_cancel 1 = .ok (.aload_n 0, 1) := by decide +kernel
theorem dX5_cancel_2 : decode cX5_cancel 2 = .ok (.iload_n 1, 1) := by decide +kernel
theorem dX5_cancel_3 : decode cX5_cancel 3 = .ok (.iload_n 2, 1) := by decide +kernel
theorem dX5_cancel_4 : decode cX5_cancel 4 = .ok (.iconst 1, 1) := by decide +kernel
theorem dX5_cancel_5 : decode cX5_cancel 5 = .ok (.invokevirtual 177, 3) := by decide +kernel
theorem dX5_cancel_8 : decode cX5_cancel 8 = .ok (.putfield 93, 3) := by decide +kernel
theorem dX5_cancel_11 : decode cX5_cancel 11 = .ok (.aload_n 0, 1) := by decide +kernel
theorem dX5_cancel_12 : decode cX5_cancel 12 = .ok (.getfield 93, 3) := by decide +kernel
theorem dX5_cancel_15 : decode cX5_cancel 15 = .ok (.ifCond .le 5, 3) := by decide +kernel
theorem dX5_cancel_18 : decode cX5_cancel 18 = .ok (.iconst 0, 1) := by decide +kernel
theorem dX5_cancel_19 : decode cX5_cancel 19 = .ok (.ireturn, 1) := by decide +kernel
theorem dX5_cancel_20 : decode cX5_cancel 20 = .ok (.aload_n 0, 1) := by decide +kernel
theorem dX5_cancel_21 : decode cX5_cancel 21 = .ok (.getfield 48, 3) := by decide +kernel
theorem dX5_cancel_24 : decode cX5_cancel 24 = .ok (.iload_n 2, 1) := by decide +kernel
theorem dX5_cancel_25 : decode cX5_cancel 25 = .ok (.iaload, 1) := by decide +kernel
theorem dX5_cancel_26 : decode cX5_cancel 26 = .ok (.istore_n 3, 1) := by decide +kernel
theorem dX5_cancel_27 : decode cX5_cancel 27 = .ok (.aload_n 0, 1) := by decide +kernel
theorem dX5_cancel_28 : decode cX5_cancel 28 = .ok (.iload_n 2, 1) := by decide +kernel
theorem dX5_cancel_29 : decode cX5_cancel 29 = .ok (.invokevirtual 153, 3) := by decide +kernel
theorem dX5_cancel_32 : decode cX5_cancel 32 = .ok (.iload_n 3, 1) := by decide +kernel
theorem dX5_cancel_33 : decode cX5_cancel 33 = .ok (.ireturn, 1) := by decide +kernel
set_option maxRecDepth 20000 in
theorem ggX5_reduce_X5_refusal : GoodIn wsX5_reduce wsX5_refusal := goodIn_r _ [8, 9, 10, 11, 12, 7, 13, 14, 15, 16, 17, 18, 19, 20, 21, 34, 35, 36, 37, 38, 39, 40, 41, 42, 43, 44, 45, 46, 47, 48, 49, 50, 51, 52, 53, 54, 55, 56, 57, 58, 59, 60, 61, 62, 63, 64, 65] (by decide +kernel) (by decide +kernel)
set_option maxRecDepth 20000 in
theorem gX5_reduce_X5_refusal : GoodIn wsX5_reduce (wsV RX5 177 RX5 yX5_refusal wsX5_refusal) := goodIn_app (goodIn_of _ (by decide +kernel)) ggX5_reduce_X5_refusal
set_option maxRecDepth 20000 in
theorem ggX5_reduce_X5_free : GoodIn wsX5_reduce wsX5_free := goodIn_r _ [25, 10, 26, 27, 28, 29, 30, 31, 32, 7, 33, 34, 35, 36, 37, 38, 39, 40, 41, 42, 43, 44, 45, 46, 47, 48, 49, 50, 51, 52, 53, 54, 55, 56, 57, 58, 59, 60, 61, 62, 63, 64, 65] (by decide +kernel) (by decide +kernel)
set_option maxRecDepth 20000 in
theorem gX5_reduce_X5_free : GoodIn wsX5_reduce (wsV RX5 128 RX5 yX5_free wsX5_free) := goodIn_app (goodIn_of _ (by decide +kernel)) ggX5_reduce_X5_free
theorem dX5_reduce_0 : decode cX5_reduce 0 = .ok (.aload_n 0, 1) := by decide +kernel
theorem dX5_reduce_1 : decode cX5_reduce 1 = .ok (.aload_n 0, 1) := by decide +kernel
theorem dX5_reduce_2 : decode cX5_reduce 2 = .ok (.iload_n 1, 1) := by decide +kernel
theorem dX5_reduce_3 : decode cX5_reduce 3 = .ok (.iload_n 2, 1) := by decide +kernel
theorem dX5_reduce_4 : decode cX5_reduce 4 = .ok (.iload_n 3, 1) := by decide +kernel
theorem dX5_reduce_5 : decode cX5_reduce 5 = .ok (.iconst 1, 1) := by decide +kernel
theorem dX5_reduce_6 : decode cX5_reduce 6 = .ok (.if_icmp .lt 7, 3) := by decide +kernel
theorem dX5_reduce_9 : decode cX5_reduce 9 = .ok (.iconst 1, 1) := by decide +kernel
theorem dX5_reduce_10 : decode cX5_reduce 10 = .ok (.goto 4, 3) := by decide +kernel
theorem dX5_reduce_13 : decode cX5_reduce 13 = .ok (.iconst 0, 1) := by decide +kernel
theorem dX5_reduce_14 : decode cX5_reduce 14 = .ok (.invokevirtual 177, 3) := by decide +kernel
theorem dX5_reduce_17 : decode cX5_reduce 17 = .ok (.putfield 93, 3) := by decide +kernel
theorem dX5_reduce_20 : decode cX5_reduce 20 = .ok (.aload_n 0, 1) := by decide +kernel
theorem dX5_reduce_21 : decode cX5_reduce 21 = .ok (.aload_n 0, 1) := by decide +kernel
theorem dX5_reduce_22 : decode cX5_reduce 22 = .ok (.getfield 93, 3) := by decide +kernel
theorem dX5_reduce_25 : decode cX5_reduce 25 = .ok (.ifCond .ne 17, 3) := by decide +kernel
theorem dX5_reduce_28 : decode cX5_reduce 28 = .ok (.aload_n 0, 1) := by decide +kernel
theorem dX5_reduce_29 : decode cX5_reduce 29 = .ok (.getfield 48, 3) := by decide +kernel
theorem dX5_reduce_32 : decode cX5_reduce 32 = .ok (.iload_n 2, 1) := by decide +kernel
theorem dX5_reduce_33 : decode cX5_reduce 33 = .ok (.iaload, 1) := by decide +kernel
theorem dX5_reduce_34 : decode cX5_reduce 34 = .ok (.iload_n 3, 1) := by decide +kernel
theorem dX5_reduce_35 : decode cX5_reduce 35 = .ok (.if_icmp .gt 7, 3) := by decide +kernel
theorem dX5_reduce_38 : decode cX5_reduce 38 = .ok (.iconst 3, 1) := by decide +kernel
theorem dX5_reduce_39 : decode cX5_reduce 39 = .ok (.goto 7, 3) := by decide +kernel
theorem dX5_reduce_42 : decode cX5_reduce 42 = .ok (.aload_n 0, 1) := by decide +kernel
theorem dX5_reduce_43 : decode cX5_reduce 43 = .ok (.getfield 93, 3) := by decide +kernel
theorem dX5_reduce_46 : decode cX5_reduce 46 = .ok (.putfield 93, 3) := by decide +kernel
theorem dX5_reduce_49 : decode cX5_reduce 49 = .ok (.aload_n 0, 1) := by decide +kernel
theorem dX5_reduce_50 : decode cX5_reduce 50 = .ok (.getfield 93, 3) := by decide +kernel
theorem dX5_reduce_53 : decode cX5_reduce 53 = .ok (.ifCond .le 5, 3) := by decide +kernel
theorem dX5_reduce_56 : decode cX5_reduce 56 = .ok (.iconst 0, 1) := by decide +kernel
theorem dX5_reduce_57 : decode cX5_reduce 57 = .ok (.ireturn, 1) := by decide +kernel
theorem dX5_reduce_58 : decode cX5_reduce 58 = .ok (.aload_n 0, 1) := by decide +kernel
theorem dX5_reduce_59 : decode cX5_reduce 59 = .ok (.iload_n 2, 1) := by decide +kernel
theorem dX5_reduce_60 : decode cX5_reduce 60 = .ok (.iload_n 3, 1) := by decide +kernel
theorem dX5_reduce_61 : decode cX5_reduce 61 = .ok (.invokevirtual 128, 3) := by decide +kernel
theorem dX5_reduce_64 : decode cX5_reduce 64 = .ok (.aload_n 0, 1) := by decide +kernel
theorem dX5_reduce_65 : decode cX5_reduce 65 = .ok (.getfield 48, 3) := by decide +kernel
theorem dX5_reduce_68 : decode cX5_reduce 68 = .ok (.iload_n 2, 1) := by decide +kernel
theorem dX5_reduce_69 : decode cX5_reduce 69 = .ok (.dup2, 1) := by decide +kernel
theorem dX5_reduce_70 : decode cX5_reduce 70 = .ok (.iaload, 1) := by decide +kernel
theorem dX5_reduce_71 : decode cX5_reduce 71 = .ok (.iload_n 3, 1) := by decide +kernel
theorem dX5_reduce_72 : decode cX5_reduce 72 = .ok (.isub, 1) := by decide +kernel
theorem dX5_reduce_73 : decode cX5_reduce 73 = .ok (.iastore, 1) := by decide +kernel
theorem dX5_reduce_74 : decode cX5_reduce 74 = .ok (.aload_n 0, 1) := by decide +kernel
theorem dX5_reduce_75 : decode cX5_reduce 75 = .ok (.getfield 51, 3) := by decide +kernel
theorem dX5_reduce_78 : decode cX5_reduce 78 = .ok (.iload_n 2, 1) := by decide +kernel
theorem dX5_reduce_79 : decode cX5_reduce 79 = .ok (.aload_n 0, 1) := by decide +kernel
theorem dX5_reduce_80 : decode cX5_reduce 80 = .ok (.getfield 51, 3) := by decide +kernel
theorem dX5_reduce_83 : decode cX5_reduce 83 = .ok (.iload_n 2, 1) := by decide +kernel
theorem dX5_reduce_84 : decode cX5_reduce 84 = .ok (.iaload, 1) := by decide +kernel
theorem dX5_reduce_85 : decode cX5_reduce 85 = .ok (.aload_n 0, 1) := by decide +kernel
theorem dX5_reduce_86 : decode cX5_reduce 86 = .ok (.getfield 48, 3) := by decide +kernel
theorem dX5_reduce_89 : decode cX5_reduce 89 = .ok (.iload_n 2, 1) := by decide +kernel
theorem dX5_reduce_90 : decode cX5_reduce 90 = .ok (.iaload, 1) := by decide +kernel
theorem dX5_reduce_91 : decode cX5_reduce 91 = .ok (.if_icmp .le 12, 3) := by decide +kernel
theorem dX5_reduce_94 : decode cX5_reduce 94 = .ok (.aload_n 0, 1) := by decide +kernel
theorem dX5_reduce_95 : decode cX5_reduce 95 = .ok (.getfield 48, 3) := by decide +kernel
theorem dX5_reduce_98 : decode cX5_reduce 98 = .ok (.iload_n 2, 1) := by decide +kernel
theorem dX5_reduce_99 : decode cX5_reduce 99 = .ok (.iaload, 1) := by decide +kernel
theorem dX5_reduce_100 : decode cX5_reduce 100 = .ok (.goto 9, 3) := by decide +kernel
theorem dX5_reduce_103 : decode cX5_reduce 103 = .ok (.aload_n 0, 1) := by decide +kernel
theorem dX5_reduce_104 : decode cX5_reduce 104 = .ok (.getfield 51, 3) := by decide +kernel
theorem dX5_reduce_107 : decode cX5_reduce 107 = .ok (.iload_n 2, 1) := by decide +kernel
theorem dX5_reduce_108 : decode cX5_reduce 108 = .ok (.iaload, 1) := by decide +kernel
theorem dX5_reduce_109 : decode cX5_reduce 109 = .ok (.iastore, 1) := by decide +kernel
theorem dX5_reduce_110 : decode cX5_reduce 110 = .ok (.aload_n 0, 1) := by decide +kernel
theorem dX5_reduce_111 : decode cX5_reduce 111 = .ok (.getfield 48, 3) := by decide +kernel
theorem dX5_reduce_114 : decode cX5_reduce 114 = .ok (.iload_n 2, 1) := by decide +kernel
theorem dX5_reduce_115 : decode cX5_reduce 115 = .ok (.iaload, 1) := by decide +kernel
theorem dX5_reduce_116 : decode cX5_reduce 116 = .ok (.ireturn, 1) := by decide +kernel
set_option maxRecDepth 20000 in
theorem ggX5_until_X5_refusal : GoodIn wsX5_until wsX5_refusal := goodIn_r _ [8, 9, 10, 11, 12, 7, 13, 14, 15, 16, 17, 18, 19, 20, 21, 22, 23, 24, 25, 26, 27, 28, 29, 30, 31, 32, 33, 34, 35, 36, 37, 38, 39, 40, 41, 42, 43, 44, 45, 46, 47, 48, 49, 50, 51, 52, 53] (by decide +kernel) (by decide +kernel)
set_option maxRecDepth 20000 in
theorem gX5_until_X5_refusal : GoodIn wsX5_until (wsV RX5 177 RX5 yX5_refusal wsX5_refusal) := goodIn_app (goodIn_of _ (by decide +kernel)) ggX5_until_X5_refusal
theorem dX5_until_0 : decode cX5_until 0 = .ok (.aload_n 0, 1) := by decide +kernel
theorem dX5_until_1 : decode cX5_until 1 = .ok (.aload_n 0, 1) := by decide +kernel
theorem dX5_until_2 : decode cX5_until 2 = .ok (.iload_n 1, 1) := by decide +kernel
theorem dX5_until_3 : decode cX5_until 3 = .ok (.iload_n 2, 1) := by decide +kernel
theorem dX5_until_4 : decode cX5_until 4 = .ok (.iload_n 3, 1) := by decide +kernel
theorem dX5_until_5 : decode cX5_until 5 = .ok (.ifCond .lt 7, 3) := by decide +kernel
theorem dX5_until_8 : decode cX5_until 8 = .ok (.iconst 1, 1) := by decide +kernel
theorem dX5_until_9 : decode cX5_until 9 = .ok (.goto 4, 3) := by decide +kernel
theorem dX5_until_12 : decode cX5_until 12 = .ok (.iconst 0, 1) := by decide +kernel
theorem dX5_until_13 : decode cX5_until 13 = .ok (.invokevirtual 177, 3) := by decide +kernel
theorem dX5_until_16 : decode cX5_until 16 = .ok (.putfield 93, 3) := by decide +kernel
theorem dX5_until_19 : decode cX5_until 19 = .ok (.aload_n 0, 1) := by decide +kernel
theorem dX5_until_20 : decode cX5_until 20 = .ok (.aload_n 0, 1) := by decide +kernel
theorem dX5_until_21 : decode cX5_until 21 = .ok (.getfield 93, 3) := by decide +kernel
theorem dX5_until_24 : decode cX5_until 24 = .ok (.ifCond .ne 19, 3) := by decide +kernel
theorem dX5_until_27 : decode cX5_until 27 = .ok (.iload_n 3, 1) := by decide +kernel
theorem dX5_until_28 : decode cX5_until 28 = .ok (.ifCond .eq 15, 3) := by decide +kernel
theorem dX5_until_31 : decode cX5_until 31 = .ok (.iload_n 3, 1) := by decide +kernel
theorem dX5_until_32 : decode cX5_until 32 = .ok (.aload_n 0, 1) := by decide +kernel
theorem dX5_until_33 : decode cX5_until 33 = .ok (.getfield 181, 3) := by decide +kernel
theorem dX5_until_36 : decode cX5_until 36 = .ok (.if_icmp .gt 7, 3) := by decide +kernel
theorem dX5_until_39 : decode cX5_until 39 = .ok (.iconst 3, 1) := by decide +kernel
theorem dX5_until_40 : decode cX5_until 40 = .ok (.goto 7, 3) := by decide +kernel
theorem dX5_until_43 : decode cX5_until 43 = .ok (.aload_n 0, 1) := by decide +kernel
theorem dX5_until_44 : decode cX5_until 44 = .ok (.getfield 93, 3) := by decide +kernel
theorem dX5_until_47 : decode cX5_until 47 = .ok (.putfield 93, 3) := by decide +kernel
theorem dX5_until_50 : decode cX5_until 50 = .ok (.aload_n 0, 1) := by decide +kernel
theorem dX5_until_51 : decode cX5_until 51 = .ok (.getfield 93, 3) := by decide +kernel
theorem dX5_until_54 : decode cX5_until 54 = .ok (.ifCond .ne 10, 3) := by decide +kernel
theorem dX5_until_57 : decode cX5_until 57 = .ok (.aload_n 0, 1) := by decide +kernel
theorem dX5_until_58 : decode cX5_until 58 = .ok (.getfield 60, 3) := by decide +kernel
theorem dX5_until_61 : decode cX5_until 61 = .ok (.iload_n 2, 1) := by decide +kernel
theorem dX5_until_62 : decode cX5_until 62 = .ok (.iload_n 3, 1) := by decide +kernel
theorem dX5_until_63 : decode cX5_until 63 = .ok (.iastore, 1) := by decide +kernel
theorem dX5_until_64 : decode cX5_until 64 = .ok (.return_, 1) := by decide +kernel
set_option maxRecDepth 20000 in
theorem ggX5_pass_X5_isIn : GoodIn wsX5_pass wsX5_isIn := goodIn_r _ [9] (by decide +kernel) (by decide +kernel)
set_option maxRecDepth 20000 in
theorem gX5_pass_X5_isIn : GoodIn wsX5_pass (va_wsS RX5 97 yX5_isIn wsX5_isIn) := goodIn_app (goodIn_of _ (by decide +kernel)) ggX5_pass_X5_isIn
set_option maxRecDepth 20000 in
theorem ggX5_pass_X5_isThere : GoodIn wsX5_pass wsX5_isThere := goodIn_r _ [13, 14, 34, 35, 36, 37, 38, 39, 40, 41, 42, 43, 44, 45, 46, 47, 48, 49, 50, 51, 52, 53, 54, 55, 56, 57, 58, 59, 60, 61, 62, 63, 64, 65] (by decide +kernel) (by decide +kernel)
set_option maxRecDepth 20000 in
theorem gX5_pass_X5_isThere : GoodIn wsX5_pass (wsV RX5 119 RX5 yX5_isThere wsX5_isThere) := goodIn_app (goodIn_of _ (by decide +kernel)) ggX5_pass_X5_isThere
set_option maxRecDepth 20000 in
theorem ggX5_pass_X5_cancelled : GoodIn wsX5_pass wsX5_cancelled := goodIn_r _ [18, 19, 20, 14, 21, 22, 23, 8, 24, 25, 26, 27, 28, 29, 30, 31, 32, 33, 34, 35, 36, 37, 38, 39, 40, 41, 42, 43, 44, 45, 46, 47, 48, 49, 50, 51, 52, 53, 54, 55, 56, 57, 58, 59, 60, 61, 62, 63, 64, 65] (by decide +kernel) (by decide +kernel)
set_option maxRecDepth 20000 in
theorem gX5_pass_X5_cancelled : GoodIn wsX5_pass (wsV RX5 153 RX5 yX5_cancelled wsX5_cancelled) := goodIn_app (goodIn_of _ (by decide +kernel)) ggX5_pass_X5_cancelled
theorem dX5_pass_0 : decode cX5_pass 0 = .ok (.aload_n 0, 1) := by decide +kernel
theorem dX5_pass_1 : decode cX5_pass 1 = .ok (.iload_n 1, 1) := by decide +kernel
theorem dX5_pass_2 : decode cX5_pass 2 = .ok (.iconst 0, 1) := by decide +kernel
theorem dX5_pass_3 : decode cX5_pass 3 = .ok (.ldc 111, 2) := by decide +kernel
theorem dX5_pass_5 : decode cX5_pass 5 = .ok (.invokestatic 97, 3) := by decide +kernel
theorem dX5_pass_8 : decode cX5_pass 8 = .ok (.ifCond .eq 7, 3) := by decide +kernel
theorem dX5_pass_11 : decode cX5_pass 11 = .ok (.iconst 0, 1) := by decide +kernel
theorem dX5_pass_12 : decode cX5_pass 12 = .ok (.goto 4, 3) := by decide +kernel
theorem dX5_pass_15 : decode cX5_pass 15 = .ok (.iconst 1, 1) := by decide +kernel
theorem dX5_pass_16 : decode cX5_pass 16 = .ok (.putfield 93, 3) := by decide +kernel
theorem dX5_pass_19 : decode cX5_pass 19 = .ok (.aload_n 0, 1) := by decide +kernel
theorem dX5_pass_20 : decode cX5_pass 20 = .ok (.getfield 93, 3) := by decide +kernel
theorem dX5_pass_23 : decode cX5_pass 23 = .ok (.ifCond .le 5, 3) := by decide +kernel
theorem dX5_pass_26 : decode cX5_pass 26 = .ok (.iconst 0, 1) := by decide +kernel
theorem dX5_pass_27 : decode cX5_pass 27 = .ok (.ireturn, 1) := by decide +kernel
theorem dX5_pass_28 : decode cX5_pass 28 = .ok (.aload_n 0, 1) := by decide +kernel
theorem dX5_pass_29 : decode cX5_pass 29 = .ok (.dup, 1) := by decide +kernel
theorem dX5_pass_30 : decode cX5_pass 30 = .ok (.getfield 181, 3) := by decide +kernel
theorem dX5_pass_33 : decode cX5_pass 33 = .ok (.iload_n 1, 1) := by decide +kernel
theorem dX5_pass_34 : decode cX5_pass 34 = .ok (.iadd, 1) := by decide +kernel
theorem dX5_pass_35 : decode cX5_pass 35 = .ok (.putfield 181, 3) := by decide +kernel
theorem dX5_pass_38 : decode cX5_pass 38 = .ok (.iconst 0, 1) := by decide +kernel
theorem dX5_pass_39 : decode cX5_pass 39 = .ok (.istore_n 2, 1) := by decide +kernel
theorem dX5_pass_40 : decode cX5_pass 40 = .ok (.iconst 0, 1) := by decide +kernel
theorem dX5_pass_41 : decode cX5_pass 41 = .ok (.istore_n 3, 1) := by decide +kernel
theorem dX5_pass_42 : decode cX5_pass 42 = .ok (.iload_n 3, 1) := by decide +kernel
theorem dX5_pass_43 : decode cX5_pass 43 = .ok (.aload_n 0, 1) := by decide +kernel
theorem dX5_pass_44 : decode cX5_pass 44 = .ok (.getfield 116, 3) := by decide +kernel
theorem dX5_pass_47 : decode cX5_pass 47 = .ok (.if_icmp .ge 47, 3) := by decide +kernel
theorem dX5_pass_50 : decode cX5_pass 50 = .ok (.aload_n 0, 1) := by decide +kernel
theorem dX5_pass_51 : decode cX5_pass 51 = .ok (.iload_n 3, 1) := by decide +kernel
theorem dX5_pass_52 : decode cX5_pass 52 = .ok (.invokevirtual 119, 3) := by decide +kernel
theorem dX5_pass_55 : decode cX5_pass 55 = .ok (.ifCond .eq 33, 3) := by decide +kernel
theorem dX5_pass_58 : decode cX5_pass 58 = .ok (.aload_n 0, 1) := by decide +kernel
theorem dX5_pass_59 : decode cX5_pass 59 = .ok (.getfield 60, 3) := by decide +kernel
theorem dX5_pass_62 : decode cX5_pass 62 = .ok (.iload_n 3, 1) := by decide +kernel
theorem dX5_pass_63 : decode cX5_pass 63 = .ok (.iaload, 1) := by decide +kernel
theorem dX5_pass_64 : decode cX5_pass 64 = .ok (.ifCond .le 24, 3) := by decide +kernel
theorem dX5_pass_67 : decode cX5_pass 67 = .ok (.aload_n 0, 1) := by decide +kernel
theorem dX5_pass_68 : decode cX5_pass 68 = .ok (.getfield 60, 3) := by decide +kernel
theorem dX5_pass_71 : decode cX5_pass 71 = .ok (.iload_n 3, 1) := by decide +kernel
theorem dX5_pass_72 : decode cX5_pass 72 = .ok (.iaload, 1) := by decide +kernel
theorem dX5_pass_73 : decode cX5_pass 73 = .ok (.aload_n 0, 1) := by decide +kernel
theorem dX5_pass_74 : decode cX5_pass 74 = .ok (.getfield 181, 3) := by decide +kernel
theorem dX5_pass_77 : decode cX5_pass 77 = .ok (.if_icmp .gt 11, 3) := by decide +kernel
theorem dX5_pass_80 : decode cX5_pass 80 = .ok (.aload_n 0, 1) := by decide +kernel
theorem dX5_pass_81 : decode cX5_pass 81 = .ok (.iload_n 3, 1) := by decide +kernel
theorem dX5_pass_82 : decode cX5_pass 82 = .ok (.invokevirtual 153, 3) := by decide +kernel
theorem dX5_pass_85 : decode cX5_pass 85 = .ok (.iinc 2 1, 3) := by decide +kernel
theorem dX5_pass_88 : decode cX5_pass 88 = .ok (.iinc 3 1, 3) := by decide +kernel
theorem dX5_pass_91 : decode cX5_pass 91 = .ok (.goto (-49), 3) := by decide +kernel
theorem dX5_pass_94 : decode cX5_pass 94 = .ok (.iload_n 2, 1) := by decide +kernel
theorem dX5_pass_95 : decode cX5_pass 95 = .ok (.ireturn, 1) := by decide +kernel
set_option maxRecDepth 20000 in
theorem ggX5_best_X5_isSymbol : GoodIn wsX5_best wsX5_isSymbol := goodIn_r _ [6, 7, 8, 5, 9] (by decide +kernel) (by decide +kernel)
set_option maxRecDepth 20000 in
theorem gX5_best_X5_isSymbol : GoodIn wsX5_best (va_wsS RX5 108 yX5_isSymbol wsX5_isSymbol) := goodIn_app (goodIn_of _ (by decide +kernel)) ggX5_best_X5_isSymbol
set_option maxRecDepth 20000 in
theorem ggX5_best_X5_isIn : GoodIn wsX5_best wsX5_isIn := goodIn_r _ [9] (by decide +kernel) (by decide +kernel)
set_option maxRecDepth 20000 in
theorem gX5_best_X5_isIn : GoodIn wsX5_best (va_wsS RX5 97 yX5_isIn wsX5_isIn) := goodIn_app (goodIn_of _ (by decide +kernel)) ggX5_best_X5_isIn
set_option maxRecDepth 20000 in
theorem ggX5_best_X5_first : GoodIn wsX5_best wsX5_first := goodIn_r _ [13, 14, 2, 15, 16, 17, 18, 5, 19, 20, 21, 22, 23, 24, 25, 26, 27, 28, 29, 30, 31, 32, 33, 34, 35, 36, 37, 38, 39, 40, 41, 42, 43, 44, 45, 46, 47, 48, 49, 50, 51, 52, 53, 54, 55, 56, 57] (by decide +kernel) (by decide +kernel)
set_option maxRecDepth 20000 in
theorem gX5_best_X5_first : GoodIn wsX5_best (wsV RX5 135 RX5 yX5_first wsX5_first) := goodIn_app (goodIn_of _ (by decide +kernel)) ggX5_best_X5_first
theorem dX5_best_0 : decode cX5_best 0 = .ok (.iload_n 1, 1) := by decide +kernel
theorem dX5_best_1 : decode cX5_best 1 = .ok (.invokestatic 108, 3) := by decide +kernel
theorem dX5_best_4 : decode cX5_best 4 = .ok (.ifCond .eq 21, 3) := by decide +kernel
theorem dX5_best_7 : decode cX5_best 7 = .ok (.iload_n 2, 1) := by decide +kernel
theorem dX5_best_8 : decode cX5_best 8 = .ok (.iconst 0, 1) := by decide +kernel
theorem dX5_best_9 : decode cX5_best 9 = .ok (.iconst 1, 1) := by decide +kernel
theorem dX5_best_10 : decode cX5_best 10 = .ok (.invokestatic 97, 3) := by decide +kernel
theorem dX5_best_13 : decode cX5_best 13 = .ok (.ifCond .eq 12, 3) := by decide +kernel
theorem dX5_best_16 : decode cX5_best 16 = .ok (.aload_n 0, 1) := by decide +kernel
theorem dX5_best_17 : decode cX5_best 17 = .ok (.iload_n 1, 1) := by decide +kernel
theorem dX5_best_18 : decode cX5_best 18 = .ok (.iload_n 2, 1) := by decide +kernel
theorem dX5_best_19 : decode cX5_best 19 = .ok (.invokevirtual 135, 3) := by decide +kernel
theorem dX5_best_22 : decode cX5_best 22 = .ok (.goto 4, 3) := by decide +kernel
theorem dX5_best_25 : decode cX5_best 25 = .ok (.iconst (-1), 1) := by decide +kernel
theorem dX5_best_26 : decode cX5_best 26 = .ok (.istore_n 3, 1) := by decide +kernel
theorem dX5_best_27 : decode cX5_best 27 = .ok (.aload_n 0, 1) := by decide +kernel
theorem dX5_best_28 : decode cX5_best 28 = .ok (.iload_n 1, 1) := by decide +kernel
theorem dX5_best_29 : decode cX5_best 29 = .ok (.invokestatic 108, 3) := by decide +kernel
theorem dX5_best_32 : decode cX5_best 32 = .ok (.ifCond .ne 7, 3) := by decide +kernel
theorem dX5_best_35 : decode cX5_best 35 = .ok (.iconst 1, 1) := by decide +kernel
theorem dX5_best_36 : decode cX5_best 36 = .ok (.goto 26, 3) := by decide +kernel
theorem dX5_best_39 : decode cX5_best 39 = .ok (.iload_n 2, 1) := by decide +kernel
theorem dX5_best_40 : decode cX5_best 40 = .ok (.iconst 0, 1) := by decide +kernel
theorem dX5_best_41 : decode cX5_best 41 = .ok (.iconst 1, 1) := by decide +kernel
theorem dX5_best_42 : decode cX5_best 42 = .ok (.invokestatic 97, 3) := by decide +kernel
theorem dX5_best_45 : decode cX5_best 45 = .ok (.ifCond .ne 7, 3) := by decide +kernel
theorem dX5_best_48 : decode cX5_best 48 = .ok (.iconst 2, 1) := by decide +kernel
theorem dX5_best_49 : decode cX5_best 49 = .ok (.goto 13, 3) := by decide +kernel
theorem dX5_best_52 : decode cX5_best 52 = .ok (.iload_n 3, 1) := by decide +kernel
theorem dX5_best_53 : decode cX5_best 53 = .ok (.iconst (-1), 1) := by decide +kernel
theorem dX5_best_54 : decode cX5_best 54 = .ok (.if_icmp .ne 7, 3) := by decide +kernel
theorem dX5_best_57 : decode cX5_best 57 = .ok (.iconst 3, 1) := by decide +kernel
theorem dX5_best_58 : decode cX5_best 58 = .ok (.goto 4, 3) := by decide +kernel
theorem dX5_best_61 : decode cX5_best 61 = .ok (.iconst 0, 1) := by decide +kernel
theorem dX5_best_62 : decode cX5_best 62 = .ok (.putfield 93, 3) := by decide +kernel
theorem dX5_best_65 : decode cX5_best 65 = .ok (.aload_n 0, 1) := by decide +kernel
theorem dX5_best_66 : decode cX5_best 66 = .ok (.getfield 93, 3) := by decide +kernel
theorem dX5_best_69 : decode cX5_best 69 = .ok (.ifCond .le 7, 3) := by decide +kernel
theorem dX5_best_72 : decode cX5_best 72 = .ok (.iconst 0, 1) := by decide +kernel
theorem dX5_best_73 : decode cX5_best 73 = .ok (.goto 9, 3) := by decide +kernel
theorem dX5_best_76 : decode cX5_best 76 = .ok (.aload_n 0, 1) := by decide +kernel
theorem dX5_best_77 : decode cX5_best 77 = .ok (.getfield 45, 3) := by decide +kernel
theorem dX5_best_80 : decode cX5_best 80 = .ok (.iload_n 3, 1) := by decide +kernel
theorem dX5_best_81 : decode cX5_best 81 = .ok (.iaload, 1) := by decide +kernel
theorem dX5_best_82 : decode cX5_best 82 = .ok (.ireturn, 1) := by decide +kernel
set_option maxRecDepth 20000 in
theorem ggX5_priceCount_X5_priceAt : GoodIn wsX5_priceCount wsX5_priceAt := goodIn_r _ [5, 6, 7, 8, 9, 10, 4, 11, 12, 13, 14, 15, 16, 17, 18, 19, 20, 21, 22, 23, 24, 25, 26, 27, 28, 29, 30, 31, 32, 33, 34, 35, 36, 37, 38, 39, 40, 41, 42, 43, 44, 45, 46, 47, 48, 49] (by decide +kernel) (by decide +kernel)
set_option maxRecDepth 20000 in
theorem gX5_priceCount_X5_priceAt : GoodIn wsX5_priceCount (wsV RX5 184 RX5 yX5_priceAt wsX5_priceAt) := goodIn_app (goodIn_of _ (by decide +kernel)) ggX5_priceCount_X5_priceAt
theorem dX5_priceCount_0 : decode cX5_priceCount 0 = .ok (.iconst 0, 1) := by decide +kernel
theorem dX5_priceCount_1 : decode cX5_priceCount 1 = .ok (.istore_n 3, 1) := by decide +kernel
theorem dX5_priceCount_2 : decode cX5_priceCount 2 = .ok (.aload_n 0, 1) := by decide +kernel
theorem dX5_priceCount_3 : decode cX5_priceCount 3 = .ok (.iload_n 1, 1) := by decide +kernel
theorem dX5_priceCount_4 : decode cX5_priceCount 4 = .ok (.iload_n 2, 1) := by decide +kernel
theorem dX5_priceCount_5 : decode cX5_priceCount 5 = .ok (.iload_n 3, 1) := by decide +kernel
theorem dX5_priceCount_6 : decode cX5_priceCount 6 = .ok (.invokevirtual 184, 3) := by decide +kernel
theorem dX5_priceCount_9 : decode cX5_priceCount 9 = .ok (.iconst (-1), 1) := by decide +kernel
theorem dX5_priceCount_10 : decode cX5_priceCount 10 = .ok (.if_icmp .eq 9, 3) := by decide +kernel
theorem dX5_priceCount_13 : decode cX5_priceCount 13 = .ok (.iinc 3 1, 3) := by decide +kernel
theorem dX5_priceCount_16 : decode cX5_priceCount 16 = .ok (.goto (-14), 3) := by decide +kernel
theorem dX5_priceCount_19 : decode cX5_priceCount 19 = .ok (.iload_n 3, 1) := by decide +kernel
theorem dX5_priceCount_20 : decode cX5_priceCount 20 = .ok (.ireturn, 1) := by decide +kernel
set_option maxRecDepth 20000 in
theorem ggX5_depth_X5_isSymbol : GoodIn wsX5_depth wsX5_isSymbol := goodIn_r _ [8, 9, 10, 7, 11] (by decide +kernel) (by decide +kernel)
set_option maxRecDepth 20000 in
theorem gX5_depth_X5_isSymbol : GoodIn wsX5_depth (va_wsS RX5 108 yX5_isSymbol wsX5_isSymbol) := goodIn_app (goodIn_of _ (by decide +kernel)) ggX5_depth_X5_isSymbol
set_option maxRecDepth 20000 in
theorem ggX5_depth_X5_isIn : GoodIn wsX5_depth wsX5_isIn := goodIn_r _ [11] (by decide +kernel) (by decide +kernel)
set_option maxRecDepth 20000 in
theorem gX5_depth_X5_isIn : GoodIn wsX5_depth (va_wsS RX5 97 yX5_isIn wsX5_isIn) := goodIn_app (goodIn_of _ (by decide +kernel)) ggX5_depth_X5_isIn
set_option maxRecDepth 20000 in
theorem ggX5_depth_X5_priceCount : GoodIn wsX5_depth wsX5_priceCount := goodIn_r _ [15, 16, 17, 18, 7, 19, 2, 3, 20, 21, 22, 23, 24, 25, 26, 27, 28, 29, 30, 31, 32, 33, 34, 35, 36, 37, 38, 39, 40, 41, 42, 43, 44, 45, 46, 47, 48, 49, 50, 51, 52, 53, 54, 55, 56, 57, 58, 59, 60, 61] (by decide +kernel) (by decide +kernel)
set_option maxRecDepth 20000 in
theorem gX5_depth_X5_priceCount : GoodIn wsX5_depth (wsV RX5 188 RX5 yX5_priceCount wsX5_priceCount) := goodIn_app (goodIn_of _ (by decide +kernel)) ggX5_depth_X5_priceCount
set_option maxRecDepth 20000 in
theorem ggX5_depth_X5_rests : GoodIn wsX5_depth wsX5_rests := goodIn_r _ [23, 24, 25, 26, 30, 31, 32, 33, 34, 35, 36, 37, 38, 39, 40, 41, 42, 43, 44, 45, 46, 47, 48, 49, 50, 51, 52, 53, 54, 55, 56, 57, 58, 59, 60, 61] (by decide +kernel) (by decide +kernel)
set_option maxRecDepth 20000 in
theorem gX5_depth_X5_rests : GoodIn wsX5_depth (wsV RX5 122 RX5 yX5_rests wsX5_rests) := goodIn_app (goodIn_of _ (by decide +kernel)) ggX5_depth_X5_rests
theorem dX5_depth_0 : decode cX5_depth 0 = .ok (.aload_n 0, 1) := by decide +kernel
theorem dX5_depth_1 : decode cX5_depth 1 = .ok (.iload_n 1, 1) := by decide +kernel
theorem dX5_depth_2 : decode cX5_depth 2 = .ok (.invokestatic 108, 3) := by decide +kernel
theorem dX5_depth_5 : decode cX5_depth 5 = .ok (.ifCond .ne 7, 3) := by decide +kernel
theorem dX5_depth_8 : decode cX5_depth 8 = .ok (.iconst 1, 1) := by decide +kernel
theorem dX5_depth_9 : decode cX5_depth 9 = .ok (.goto 28, 3) := by decide +kernel
theorem dX5_depth_12 : decode cX5_depth 12 = .ok (.iload_n 2, 1) := by decide +kernel
theorem dX5_depth_13 : decode cX5_depth 13 = .ok (.iconst 0, 1) := by decide +kernel
theorem dX5_depth_14 : decode cX5_depth 14 = .ok (.iconst 1, 1) := by decide +kernel
theorem dX5_depth_15 : decode cX5_depth 15 = .ok (.invokestatic 97, 3) := by decide +kernel
theorem dX5_depth_18 : decode cX5_depth 18 = .ok (.ifCond .eq 14, 3) := by decide +kernel
theorem dX5_depth_21 : decode cX5_depth 21 = .ok (.iload_n 3, 1) := by decide +kernel
theorem dX5_depth_22 : decode cX5_depth 22 = .ok (.iconst 0, 1) := by decide +kernel
theorem dX5_depth_23 : decode cX5_depth 23 = .ok (.sipush 10000, 3) := by decide +kernel
theorem dX5_depth_26 : decode cX5_depth 26 = .ok (.invokestatic 97, 3) := by decide +kernel
theorem dX5_depth_29 : decode cX5_depth 29 = .ok (.ifCond .ne 7, 3) := by decide +kernel
theorem dX5_depth_32 : decode cX5_depth 32 = .ok (.iconst 2, 1) := by decide +kernel
theorem dX5_depth_33 : decode cX5_depth 33 = .ok (.goto 4, 3) := by decide +kernel
theorem dX5_depth_36 : decode cX5_depth 36 = .ok (.iconst 0, 1) := by decide +kernel
theorem dX5_depth_37 : decode cX5_depth 37 = .ok (.putfield 93, 3) := by decide +kernel
theorem dX5_depth_40 : decode cX5_depth 40 = .ok (.aload_n 0, 1) := by decide +kernel
theorem dX5_depth_41 : decode cX5_depth 41 = .ok (.getfield 93, 3) := by decide +kernel
theorem dX5_depth_44 : decode cX5_depth 44 = .ok (.ifCond .le 5, 3) := by decide +kernel
theorem dX5_depth_47 : decode cX5_depth 47 = .ok (.iconst 0, 1) := by decide +kernel
theorem dX5_depth_48 : decode cX5_depth 48 = .ok (.ireturn, 1) := by decide +kernel
theorem dX5_depth_49 : decode cX5_depth 49 = .ok (.iload_n 3, 1) := by decide +kernel
theorem dX5_depth_50 : decode cX5_depth 50 = .ok (.ifCond .ne 10, 3) := by decide +kernel
theorem dX5_depth_53 : decode cX5_depth 53 = .ok (.aload_n 0, 1) := by decide +kernel
theorem dX5_depth_54 : decode cX5_depth 54 = .ok (.iload_n 1, 1) := by decide +kernel
theorem dX5_depth_55 : decode cX5_depth 55 = .ok (.iload_n 2, 1) := by decide +kernel
theorem dX5_depth_56 : decode cX5_depth 56 = .ok (.invokevirtual 188, 3) := by decide +kernel
theorem dX5_depth_59 : decode cX5_depth 59 = .ok (.ireturn, 1) := by decide +kernel
theorem dX5_depth_60 : decode cX5_depth 60 = .ok (.iconst 0, 1) := by decide +kernel
theorem dX5_depth_61 : decode cX5_depth 61 = .ok (.istore 4, 2) := by decide +kernel
theorem dX5_depth_63 : decode cX5_depth 63 = .ok (.iconst 0, 1) := by decide +kernel
theorem dX5_depth_64 : decode cX5_depth 64 = .ok (.istore 5, 2) := by decide +kernel
theorem dX5_depth_66 : decode cX5_depth 66 = .ok (.iload 5, 2) := by decide +kernel
theorem dX5_depth_68 : decode cX5_depth 68 = .ok (.aload_n 0, 1) := by decide +kernel
theorem dX5_depth_69 : decode cX5_depth 69 = .ok (.getfield 116, 3) := by decide +kernel
theorem dX5_depth_72 : decode cX5_depth 72 = .ok (.if_icmp .ge 48, 3) := by decide +kernel
theorem dX5_depth_75 : decode cX5_depth 75 = .ok (.aload_n 0, 1) := by decide +kernel
theorem dX5_depth_76 : decode cX5_depth 76 = .ok (.iload 5, 2) := by decide +kernel
theorem dX5_depth_78 : decode cX5_depth 78 = .ok (.iload_n 1, 1) := by decide +kernel
theorem dX5_depth_79 : decode cX5_depth 79 = .ok (.iload_n 2, 1) := by decide +kernel
theorem dX5_depth_80 : decode cX5_depth 80 = .ok (.invokevirtual 122, 3) := by decide +kernel
theorem dX5_depth_83 : decode cX5_depth 83 = .ok (.ifCond .eq 27, 3) := by decide +kernel
theorem dX5_depth_86 : decode cX5_depth 86 = .ok (.aload_n 0, 1) := by decide +kernel
theorem dX5_depth_87 : decode cX5_depth 87 = .ok (.getfield 45, 3) := by decide +kernel
theorem dX5_depth_90 : decode cX5_depth 90 = .ok (.iload 5, 2) := by decide +kernel
theorem dX5_depth_92 : decode cX5_depth 92 = .ok (.iaload, 1) := by decide +kernel
theorem dX5_depth_93 : decode cX5_depth 93 = .ok (.iload_n 3, 1) := by decide +kernel
theorem dX5_depth_94 : decode cX5_depth 94 = .ok (.if_icmp .ne 16, 3) := by decide +kernel
theorem dX5_depth_97 : decode cX5_depth 97 = .ok (.iload 4, 2) := by decide +kernel
theorem dX5_depth_99 : decode cX5_depth 99 = .ok (.aload_n 0, 1) := by decide +kernel
theorem dX5_depth_100 : decode cX5_depth 100 = .ok (.getfield 51, 3) := by decide +kernel
theorem dX5_depth_103 : decode cX5_depth 103 = .ok (.iload 5, 2) := by decide +kernel
theorem dX5_depth_105 : decode cX5_depth 105 = .ok (.iaload, 1) := by decide +kernel
theorem dX5_depth_106 : decode cX5_depth 106 = .ok (.iadd, 1) := by decide +kernel
theorem dX5_depth_107 : decode cX5_depth 107 = .ok (.goto 5, 3) := by decide +kernel
theorem dX5_depth_110 : decode cX5_depth 110 = .ok (.iload 4, 2) := by decide +kernel
theorem dX5_depth_112 : decode cX5_depth 112 = .ok (.istore 4, 2) := by decide +kernel
theorem dX5_depth_114 : decode cX5_depth 114 = .ok (.iinc 5 1, 3) := by decide +kernel
theorem dX5_depth_117 : decode cX5_depth 117 = .ok (.goto (-51), 3) := by decide +kernel
theorem dX5_depth_120 : decode cX5_depth 120 = .ok (.iload 4, 2) := by decide +kernel
theorem dX5_depth_122 : decode cX5_depth 122 = .ok (.ireturn, 1) := by decide +kernel
set_option maxRecDepth 20000 in
theorem ggX5_priceAt_X5_rests : GoodIn wsX5_priceAt wsX5_rests := goodIn_r _ [7, 8, 9, 10, 14, 15, 16, 17, 18, 19, 20, 21, 22, 23, 24, 25, 26, 27, 28, 29, 30, 31, 32, 33, 34, 35, 36, 37, 38, 39, 40, 41, 42, 43, 44, 45] (by decide +kernel) (by decide +kernel)
set_option maxRecDepth 20000 in
theorem gX5_priceAt_X5_rests : GoodIn wsX5_priceAt (wsV RX5 122 RX5 yX5_rests wsX5_rests) := goodIn_app (goodIn_of _ (by decide +kernel)) ggX5_priceAt_X5_rests
set_option maxRecDepth 20000 in
theorem ggX5_priceAt_X5_isBetter : GoodIn wsX5_priceAt wsX5_isBetter := goodIn_r _ [13] (by decide +kernel) (by decide +kernel)
set_option maxRecDepth 20000 in
theorem gX5_priceAt_X5_isBetter : GoodIn wsX5_priceAt (va_wsS RX5 125 yX5_isBetter wsX5_isBetter) := goodIn_app (goodIn_of _ (by decide +kernel)) ggX5_priceAt_X5_isBetter
theorem dX5_priceAt_0 : decode cX5_priceAt 0 = .ok (.iconst (-1), 1) := by decide +kernel
theorem dX5_priceAt_1 : decode cX5_priceAt 1 = .ok (.istore 4, 2) := by decide +kernel
theorem dX5_priceAt_3 : decode cX5_priceAt 3 = .ok (.iconst 0, 1) := by decide +kernel
theorem dX5_priceAt_4 : decode cX5_priceAt 4 = .ok (.istore 5, 2) := by decide +kernel
theorem dX5_priceAt_6 : decode cX5_priceAt 6 = .ok (.iload 5, 2) := by decide +kernel
theorem dX5_priceAt_8 : decode cX5_priceAt 8 = .ok (.iload_n 3, 1) := by decide +kernel
theorem dX5_priceAt_9 : decode cX5_priceAt 9 = .ok (.if_icmp .gt 123, 3) := by decide +kernel
theorem dX5_priceAt_12 : decode cX5_priceAt 12 = .ok (.iconst (-1), 1) := by decide +kernel
theorem dX5_priceAt_13 : decode cX5_priceAt 13 = .ok (.istore 6, 2) := by decide +kernel
theorem dX5_priceAt_15 : decode cX5_priceAt 15 = .ok (.iconst 0, 1) := by decide +kernel
theorem dX5_priceAt_16 : decode cX5_priceAt 16 = .ok (.istore 7, 2) := by decide +kernel
theorem dX5_priceAt_18 : decode cX5_priceAt 18 = .ok (.iload 7, 2) := by decide +kernel
theorem dX5_priceAt_20 : decode cX5_priceAt 20 = .ok (.aload_n 0, 1) := by decide +kernel
theorem dX5_priceAt_21 : decode cX5_priceAt 21 = .ok (.getfield 116, 3) := by decide +kernel
theorem dX5_priceAt_24 : decode cX5_priceAt 24 = .ok (.if_icmp .ge 90, 3) := by decide +kernel
theorem dX5_priceAt_27 : decode cX5_priceAt 27 = .ok (.aload_n 0, 1) := by decide +kernel
theorem dX5_priceAt_28 : decode cX5_priceAt 28 = .ok (.iload 7, 2) := by decide +kernel
theorem dX5_priceAt_30 : decode cX5_priceAt 30 = .ok (.iload_n 1, 1) := by decide +kernel
theorem dX5_priceAt_31 : decode cX5_priceAt 31 = .ok (.iload_n 2, 1) := by decide +kernel
theorem dX5_priceAt_32 : decode cX5_priceAt 32 = .ok (.invokevirtual 122, 3) := by decide +kernel
theorem dX5_priceAt_35 : decode cX5_priceAt 35 = .ok (.ifCond .eq 29, 3) := by decide +kernel
theorem dX5_priceAt_38 : decode cX5_priceAt 38 = .ok (.iload 4, 2) := by decide +kernel
theorem dX5_priceAt_40 : decode cX5_priceAt 40 = .ok (.iconst (-1), 1) := by decide +kernel
theorem dX5_priceAt_41 : decode cX5_priceAt 41 = .ok (.if_icmp .eq 19, 3) := by decide +kernel
theorem dX5_priceAt_44 : decode cX5_priceAt 44 = .ok (.iload_n 2, 1) := by decide +kernel
theorem dX5_priceAt_45 : decode cX5_priceAt 45 = .ok (.iload 4, 2) := by decide +kernel
theorem dX5_priceAt_47 : decode cX5_priceAt 47 = .ok (.aload_n 0, 1) := by decide +kernel
theorem dX5_priceAt_48 : decode cX5_priceAt 48 = .ok (.getfield 45, 3) := by decide +kernel
theorem dX5_priceAt_51 : decode cX5_priceAt 51 = .ok (.iload 7, 2) := by decide +kernel
theorem dX5_priceAt_53 : decode cX5_priceAt 53 = .ok (.iaload, 1) := by decide +kernel
theorem dX5_priceAt_54 : decode cX5_priceAt 54 = .ok (.invokestatic 125, 3) := by decide +kernel
theorem dX5_priceAt_57 : decode cX5_priceAt 57 = .ok (.ifCond .eq 7, 3) := by decide +kernel
theorem dX5_priceAt_60 : decode cX5_priceAt 60 = .ok (.iconst 1, 1) := by decide +kernel
theorem dX5_priceAt_61 : decode cX5_priceAt 61 = .ok (.goto 4, 3) := by decide +kernel
theorem dX5_priceAt_64 : decode cX5_priceAt 64 = .ok (.iconst 0, 1) := by decide +kernel
theorem dX5_priceAt_65 : decode cX5_priceAt 65 = .ok (.istore 8, 2) := by decide +kernel
theorem dX5_priceAt_67 : decode cX5_priceAt 67 = .ok (.iload 8, 2) := by decide +kernel
theorem dX5_priceAt_69 : decode cX5_priceAt 69 = .ok (.ifCond .eq 35, 3) := by decide +kernel
theorem dX5_priceAt_72 : decode cX5_priceAt 72 = .ok (.iload 6, 2) := by decide +kernel
theorem dX5_priceAt_74 : decode cX5_priceAt 74 = .ok (.iconst (-1), 1) := by decide +kernel
theorem dX5_priceAt_75 : decode cX5_priceAt 75 = .ok (.if_icmp .eq 19, 3) := by decide +kernel
theorem dX5_priceAt_78 : decode cX5_priceAt 78 = .ok (.iload_n 2, 1) := by decide +kernel
theorem dX5_priceAt_79 : decode cX5_priceAt 79 = .ok (.aload_n 0, 1) := by decide +kernel
theorem dX5_priceAt_80 : decode cX5_priceAt 80 = .ok (.getfield 45, 3) := by decide +kernel
theorem dX5_priceAt_83 : decode cX5_priceAt 83 = .ok (.iload 7, 2) := by decide +kernel
theorem dX5_priceAt_85 : decode cX5_priceAt 85 = .ok (.iaload, 1) := by decide +kernel
theorem dX5_priceAt_86 : decode cX5_priceAt 86 = .ok (.iload 6, 2) := by decide +kernel
theorem dX5_priceAt_88 : decode cX5_priceAt 88 = .ok (.invokestatic 125, 3) := by decide +kernel
theorem dX5_priceAt_91 : decode cX5_priceAt 91 = .ok (.ifCond .eq 13, 3) := by decide +kernel
theorem dX5_priceAt_94 : decode cX5_priceAt 94 = .ok (.aload_n 0, 1) := by decide +kernel
theorem dX5_priceAt_95 : decode cX5_priceAt 95 = .ok (.getfield 45, 3) := by decide +kernel
theorem dX5_priceAt_98 : decode cX5_priceAt 98 = .ok (.iload 7, 2) := by decide +kernel
theorem dX5_priceAt_100 : decode cX5_priceAt 100 = .ok (.iaload, 1) := by decide +kernel
theorem dX5_priceAt_101 : decode cX5_priceAt 101 = .ok (.goto 5, 3) := by decide +kernel
theorem dX5_priceAt_104 : decode cX5_priceAt 104 = .ok (.iload 6, 2) := by decide +kernel
theorem dX5_priceAt_106 : decode cX5_priceAt 106 = .ok (.istore 6, 2) := by decide +kernel
theorem dX5_priceAt_108 : decode cX5_priceAt 108 = .ok (.iinc 7 1, 3) := by decide +kernel
theorem dX5_priceAt_111 : decode cX5_priceAt 111 = .ok (.goto (-93), 3) := by decide +kernel
theorem dX5_priceAt_114 : decode cX5_priceAt 114 = .ok (.iload 6, 2) := by decide +kernel
theorem dX5_priceAt_116 : decode cX5_priceAt 116 = .ok (.istore 4, 2) := by decide +kernel
theorem dX5_priceAt_118 : decode cX5_priceAt 118 = .ok (.iload 4, 2) := by decide +kernel
theorem dX5_priceAt_120 : decode cX5_priceAt 120 = .ok (.iconst (-1), 1) := by decide +kernel
theorem dX5_priceAt_121 : decode cX5_priceAt 121 = .ok (.if_icmp .ne 5, 3) := by decide +kernel
theorem dX5_priceAt_124 : decode cX5_priceAt 124 = .ok (.iconst (-1), 1) := by decide +kernel
theorem dX5_priceAt_125 : decode cX5_priceAt 125 = .ok (.ireturn, 1) := by decide +kernel
theorem dX5_priceAt_126 : decode cX5_priceAt 126 = .ok (.iinc 5 1, 3) := by decide +kernel
theorem dX5_priceAt_129 : decode cX5_priceAt 129 = .ok (.goto (-123), 3) := by decide +kernel
theorem dX5_priceAt_132 : decode cX5_priceAt 132 = .ok (.iload 4, 2) := by decide +kernel
theorem dX5_priceAt_134 : decode cX5_priceAt 134 = .ok (.ireturn, 1) := by decide +kernel
set_option maxRecDepth 20000 in
theorem ggX5_level_X5_isIn : GoodIn wsX5_level wsX5_isIn := goodIn_r _ [8] (by decide +kernel) (by decide +kernel)
set_option maxRecDepth 20000 in
theorem gX5_level_X5_isIn : GoodIn wsX5_level (va_wsS RX5 97 yX5_isIn wsX5_isIn) := goodIn_app (goodIn_of _ (by decide +kernel)) ggX5_level_X5_isIn
set_option maxRecDepth 20000 in
theorem ggX5_level_X5_isSymbol : GoodIn wsX5_level wsX5_isSymbol := goodIn_r _ [11, 5, 6, 7, 8] (by decide +kernel) (by decide +kernel)
set_option maxRecDepth 20000 in
theorem gX5_level_X5_isSymbol : GoodIn wsX5_level (va_wsS RX5 108 yX5_isSymbol wsX5_isSymbol) := goodIn_app (goodIn_of _ (by decide +kernel)) ggX5_level_X5_isSymbol
set_option maxRecDepth 20000 in
theorem ggX5_level_X5_priceAt : GoodIn wsX5_level wsX5_priceAt := goodIn_r _ [15, 2, 3, 16, 17, 18, 7, 19, 20, 21, 22, 23, 24, 25, 26, 27, 28, 29, 30, 31, 32, 33, 34, 35, 36, 37, 38, 39, 40, 41, 42, 43, 44, 45, 46, 47, 48, 49, 50, 51, 52, 53, 54, 55, 56, 57] (by decide +kernel) (by decide +kernel)
set_option maxRecDepth 20000 in
theorem gX5_level_X5_priceAt : GoodIn wsX5_level (wsV RX5 184 RX5 yX5_priceAt wsX5_priceAt) := goodIn_app (goodIn_of _ (by decide +kernel)) ggX5_level_X5_priceAt
set_option maxRecDepth 20000 in
theorem ggX5_level_X5_rests : GoodIn wsX5_level wsX5_rests := goodIn_r _ [19, 20, 21, 22, 26, 27, 28, 29, 30, 31, 32, 33, 34, 35, 36, 37, 38, 39, 40, 41, 42, 43, 44, 45, 46, 47, 48, 49, 50, 51, 52, 53, 54, 55, 56, 57] (by decide +kernel) (by decide +kernel)
set_option maxRecDepth 20000 in
theorem gX5_level_X5_rests : GoodIn wsX5_level (wsV RX5 122 RX5 yX5_rests wsX5_rests) := goodIn_app (goodIn_of _ (by decide +kernel)) ggX5_level_X5_rests
theorem dX5_level_0 : decode cX5_level 0 = .ok (.iload_n 2, 1) := by decide +kernel
theorem dX5_level_1 : decode cX5_level 1 = .ok (.iconst 0, 1) := by decide +kernel
theorem dX5_level_2 : decode cX5_level 2 = .ok (.iconst 1, 1) := by decide +kernel
theorem dX5_level_3 : decode cX5_level 3 = .ok (.invokestatic 97, 3) := by decide +kernel
theorem dX5_level_6 : decode cX5_level 6 = .ok (.istore 5, 2) := by decide +kernel
theorem dX5_level_8 : decode cX5_level 8 = .ok (.iload_n 1, 1) := by decide +kernel
theorem dX5_level_9 : decode cX5_level 9 = .ok (.invokestatic 108, 3) := by decide +kernel
theorem dX5_level_12 : decode cX5_level 12 = .ok (.ifCond .eq 22, 3) := by decide +kernel
theorem dX5_level_15 : decode cX5_level 15 = .ok (.iload 5, 2) := by decide +kernel
theorem dX5_level_17 : decode cX5_level 17 = .ok (.ifCond .eq 17, 3) := by decide +kernel
theorem dX5_level_20 : decode cX5_level 20 = .ok (.iload_n 3, 1) := by decide +kernel
theorem dX5_level_21 : decode cX5_level 21 = .ok (.ifCond .lt 13, 3) := by decide +kernel
theorem dX5_level_24 : decode cX5_level 24 = .ok (.aload_n 0, 1) := by decide +kernel
theorem dX5_level_25 : decode cX5_level 25 = .ok (.iload_n 1, 1) := by decide +kernel
theorem dX5_level_26 : decode cX5_level 26 = .ok (.iload_n 2, 1) := by decide +kernel
theorem dX5_level_27 : decode cX5_level 27 = .ok (.iload_n 3, 1) := by decide +kernel
theorem dX5_level_28 : decode cX5_level 28 = .ok (.invokevirtual 184, 3) := by decide +kernel
theorem dX5_level_31 : decode cX5_level 31 = .ok (.goto 4, 3) := by decide +kernel
theorem dX5_level_34 : decode cX5_level 34 = .ok (.iconst (-1), 1) := by decide +kernel
theorem dX5_level_35 : decode cX5_level 35 = .ok (.istore 6, 2) := by decide +kernel
theorem dX5_level_37 : decode cX5_level 37 = .ok (.aload_n 0, 1) := by decide +kernel
theorem dX5_level_38 : decode cX5_level 38 = .ok (.iload_n 1, 1) := by decide +kernel
theorem dX5_level_39 : decode cX5_level 39 = .ok (.invokestatic 108, 3) := by decide +kernel
theorem dX5_level_42 : decode cX5_level 42 = .ok (.ifCond .eq 18, 3) := by decide +kernel
theorem dX5_level_45 : decode cX5_level 45 = .ok (.iload_n 3, 1) := by decide +kernel
theorem dX5_level_46 : decode cX5_level 46 = .ok (.ifCond .lt 14, 3) := by decide +kernel
theorem dX5_level_49 : decode cX5_level 49 = .ok (.iload 5, 2) := by decide +kernel
theorem dX5_level_51 : decode cX5_level 51 = .ok (.ifCond .eq 13, 3) := by decide +kernel
theorem dX5_level_54 : decode cX5_level 54 = .ok (.iload 6, 2) := by decide +kernel
theorem dX5_level_56 : decode cX5_level 56 = .ok (.iconst (-1), 1) := by decide +kernel
theorem dX5_level_57 : decode cX5_level 57 = .ok (.if_icmp .ne 7, 3) := by decide +kernel
theorem dX5_level_60 : decode cX5_level 60 = .ok (.iconst 1, 1) := by decide +kernel
theorem dX5_level_61 : decode cX5_level 61 = .ok (.goto 23, 3) := by decide +kernel
theorem dX5_level_64 : decode cX5_level 64 = .ok (.iload 5, 2) := by decide +kernel
theorem dX5_level_66 : decode cX5_level 66 = .ok (.ifCond .eq 13, 3) := by decide +kernel
theorem dX5_level_69 : decode cX5_level 69 = .ok (.iload 4, 2) := by decide +kernel
theorem dX5_level_71 : decode cX5_level 71 = .ok (.iconst 0, 1) := by decide +kernel
theorem dX5_level_72 : decode cX5_level 72 = .ok (.iconst 2, 1) := by decide +kernel
theorem dX5_level_73 : decode cX5_level 73 = .ok (.invokestatic 97, 3) := by decide +kernel
theorem dX5_level_76 : decode cX5_level 76 = .ok (.ifCond .ne 7, 3) := by decide +kernel
theorem dX5_level_79 : decode cX5_level 79 = .ok (.iconst 2, 1) := by decide +kernel
theorem dX5_level_80 : decode cX5_level 80 = .ok (.goto 4, 3) := by decide +kernel
theorem dX5_level_83 : decode cX5_level 83 = .ok (.iconst 0, 1) := by decide +kernel
theorem dX5_level_84 : decode cX5_level 84 = .ok (.putfield 93, 3) := by decide +kernel
theorem dX5_level_87 : decode cX5_level 87 = .ok (.aload_n 0, 1) := by decide +kernel
theorem dX5_level_88 : decode cX5_level 88 = .ok (.getfield 93, 3) := by decide +kernel
theorem dX5_level_91 : decode cX5_level 91 = .ok (.ifCond .gt 8, 3) := by decide +kernel
theorem dX5_level_94 : decode cX5_level 94 = .ok (.iload 4, 2) := by decide +kernel
theorem dX5_level_96 : decode cX5_level 96 = .ok (.ifCond .ne 17, 3) := by decide +kernel
theorem dX5_level_99 : decode cX5_level 99 = .ok (.aload_n 0, 1) := by decide +kernel
theorem dX5_level_100 : decode cX5_level 100 = .ok (.getfield 93, 3) := by decide +kernel
theorem dX5_level_103 : decode cX5_level 103 = .ok (.ifCond .le 7, 3) := by decide +kernel
theorem dX5_level_106 : decode cX5_level 106 = .ok (.iconst 0, 1) := by decide +kernel
theorem dX5_level_107 : decode cX5_level 107 = .ok (.goto 5, 3) := by decide +kernel
theorem dX5_level_110 : decode cX5_level 110 = .ok (.iload 6, 2) := by decide +kernel
theorem dX5_level_112 : decode cX5_level 112 = .ok (.ireturn, 1) := by decide +kernel
theorem dX5_level_113 : decode cX5_level 113 = .ok (.iconst 0, 1) := by decide +kernel
theorem dX5_level_114 : decode cX5_level 114 = .ok (.istore 7, 2) := by decide +kernel
theorem dX5_level_116 : decode cX5_level 116 = .ok (.iconst 0, 1) := by decide +kernel
theorem dX5_level_117 : decode cX5_level 117 = .ok (.istore 8, 2) := by decide +kernel
theorem dX5_level_119 : decode cX5_level 119 = .ok (.iload 8, 2) := by decide +kernel
theorem dX5_level_121 : decode cX5_level 121 = .ok (.aload_n 0, 1) := by decide +kernel
theorem dX5_level_122 : decode cX5_level 122 = .ok (.getfield 116, 3) := by decide +kernel
theorem dX5_level_125 : decode cX5_level 125 = .ok (.if_icmp .ge 71, 3) := by decide +kernel
theorem dX5_level_128 : decode cX5_level 128 = .ok (.aload_n 0, 1) := by decide +kernel
theorem dX5_level_129 : decode cX5_level 129 = .ok (.iload 8, 2) := by decide +kernel
theorem dX5_level_131 : decode cX5_level 131 = .ok (.iload_n 1, 1) := by decide +kernel
theorem dX5_level_132 : decode cX5_level 132 = .ok (.iload_n 2, 1) := by decide +kernel
theorem dX5_level_133 : decode cX5_level 133 = .ok (.invokevirtual 122, 3) := by decide +kernel
theorem dX5_level_136 : decode cX5_level 136 = .ok (.ifCond .eq 19, 3) := by decide +kernel
theorem dX5_level_139 : decode cX5_level 139 = .ok (.aload_n 0, 1) := by decide +kernel
theorem dX5_level_140 : decode cX5_level 140 = .ok (.getfield 45, 3) := by decide +kernel
theorem dX5_level_143 : decode cX5_level 143 = .ok (.iload 8, 2) := by decide +kernel
theorem dX5_level_145 : decode cX5_level 145 = .ok (.iaload, 1) := by decide +kernel
theorem dX5_level_146 : decode cX5_level 146 = .ok (.iload 6, 2) := by decide +kernel
theorem dX5_level_148 : decode cX5_level 148 = .ok (.if_icmp .ne 7, 3) := by decide +kernel
theorem dX5_level_151 : decode cX5_level 151 = .ok (.iconst 1, 1) := by decide +kernel
theorem dX5_level_152 : decode cX5_level 152 = .ok (.goto 4, 3) := by decide +kernel
theorem dX5_level_155 : decode cX5_level 155 = .ok (.iconst 0, 1) := by decide +kernel
theorem dX5_level_156 : decode cX5_level 156 = .ok (.istore 9, 2) := by decide +kernel
theorem dX5_level_158 : decode cX5_level 158 = .ok (.iload 9, 2) := by decide +kernel
theorem dX5_level_160 : decode cX5_level 160 = .ok (.ifCond .eq 26, 3) := by decide +kernel
theorem dX5_level_163 : decode cX5_level 163 = .ok (.iload 7, 2) := by decide +kernel
theorem dX5_level_165 : decode cX5_level 165 = .ok (.iload 4, 2) := by decide +kernel
theorem dX5_level_167 : decode cX5_level 167 = .ok (.iconst 1, 1) := by decide +kernel
theorem dX5_level_168 : decode cX5_level 168 = .ok (.if_icmp .ne 7, 3) := by decide +kernel
theorem dX5_level_171 : decode cX5_level 171 = .ok (.iconst 1, 1) := by decide +kernel
theorem dX5_level_172 : decode cX5_level 172 = .ok (.goto 10, 3) := by decide +kernel
theorem dX5_level_175 : decode cX5_level 175 = .ok (.aload_n 0, 1) := by decide +kernel
theorem dX5_level_176 : decode cX5_level 176 = .ok (.getfield 48, 3) := by decide +kernel
theorem dX5_level_179 : decode cX5_level 179 = .ok (.iload 8, 2) := by decide +kernel
theorem dX5_level_181 : decode cX5_level 181 = .ok (.iaload, 1) := by decide +kernel
theorem dX5_level_182 : decode cX5_level 182 = .ok (.iadd, 1) := by decide +kernel
theorem dX5_level_183 : decode cX5_level 183 = .ok (.goto 5, 3) := by decide +kernel
theorem dX5_level_186 : decode cX5_level 186 = .ok (.iload 7, 2) := by decide +kernel
theorem dX5_level_188 : decode cX5_level 188 = .ok (.istore 7, 2) := by decide +kernel
theorem dX5_level_190 : decode cX5_level 190 = .ok (.iinc 8 1, 3) := by decide +kernel
theorem dX5_level_193 : decode cX5_level 193 = .ok (.goto (-74), 3) := by decide +kernel
theorem dX5_level_196 : decode cX5_level 196 = .ok (.iload 7, 2) := by decide +kernel
theorem dX5_level_198 : decode cX5_level 198 = .ok (.ireturn, 1) := by decide +kernel
set_option maxRecDepth 20000 in
theorem ggX5_about_X5_isIn : GoodIn wsX5_about wsX5_isIn := goodIn_r _ [12] (by decide +kernel) (by decide +kernel)
set_option maxRecDepth 20000 in
theorem gX5_about_X5_isIn : GoodIn wsX5_about (va_wsS RX5 97 yX5_isIn wsX5_isIn) := goodIn_app (goodIn_of _ (by decide +kernel)) ggX5_about_X5_isIn
theorem dX5_about_0 : decode cX5_about 0 = .ok (.aload_n 0, 1) := by decide +kernel
theorem dX5_about_1 : decode cX5_about 1 = .ok (.iload_n 1, 1) := by decide +kernel
theorem dX5_about_2 : decode cX5_about 2 = .ok (.iconst 0, 1) := by decide +kernel
theorem dX5_about_3 : decode cX5_about 3 = .ok (.aload_n 0, 1) := by decide +kernel
theorem dX5_about_4 : decode cX5_about 4 = .ok (.getfield 116, 3) := by decide +kernel
theorem dX5_about_7 : decode cX5_about 7 = .ok (.iconst 1, 1) := by decide +kernel
theorem dX5_about_8 : decode cX5_about 8 = .ok (.isub, 1) := by decide +kernel
theorem dX5_about_9 : decode cX5_about 9 = .ok (.invokestatic 97, 3) := by decide +kernel
theorem dX5_about_12 : decode cX5_about 12 = .ok (.ifCond .ne 7, 3) := by decide +kernel
theorem dX5_about_15 : decode cX5_about 15 = .ok (.iconst 1, 1) := by decide +kernel
theorem dX5_about_16 : decode cX5_about 16 = .ok (.goto 17, 3) := by decide +kernel
theorem dX5_about_19 : decode cX5_about 19 = .ok (.iload_n 2, 1) := by decide +kernel
theorem dX5_about_20 : decode cX5_about 20 = .ok (.iconst 0, 1) := by decide +kernel
theorem dX5_about_21 : decode cX5_about 21 = .ok (.iconst 5, 1) := by decide +kernel
theorem dX5_about_22 : decode cX5_about 22 = .ok (.invokestatic 97, 3) := by decide +kernel
theorem dX5_about_25 : decode cX5_about 25 = .ok (.ifCond .ne 7, 3) := by decide +kernel
theorem dX5_about_28 : decode cX5_about 28 = .ok (.iconst 2, 1) := by decide +kernel
theorem dX5_about_29 : decode cX5_about 29 = .ok (.goto 4, 3) := by decide +kernel
theorem dX5_about_32 : decode cX5_about 32 = .ok (.iconst 0, 1) := by decide +kernel
theorem dX5_about_33 : decode cX5_about 33 = .ok (.putfield 93, 3) := by decide +kernel
theorem dX5_about_36 : decode cX5_about 36 = .ok (.aload_n 0, 1) := by decide +kernel
theorem dX5_about_37 : decode cX5_about 37 = .ok (.getfield 93, 3) := by decide +kernel
theorem dX5_about_40 : decode cX5_about 40 = .ok (.ifCond .le 5, 3) := by decide +kernel
theorem dX5_about_43 : decode cX5_about 43 = .ok (.iconst 0, 1) := by decide +kernel
theorem dX5_about_44 : decode cX5_about 44 = .ok (.ireturn, 1) := by decide +kernel
theorem dX5_about_45 : decode cX5_about 45 = .ok (.iload_n 2, 1) := by decide +kernel
theorem dX5_about_46 : decode cX5_about 46 = .ok (.ifCond .ne 12, 3) := by decide +kernel
theorem dX5_about_49 : decode cX5_about 49 = .ok (.aload_n 0, 1) := by decide +kernel
theorem dX5_about_50 : decode cX5_about 50 = .ok (.getfield 33, 3) := by decide +kernel
theorem dX5_about_53 : decode cX5_about 53 = .ok (.iload_n 1, 1) := by decide +kernel
theorem dX5_about_54 : decode cX5_about 54 = .ok (.iaload, 1) := by decide +kernel
theorem dX5_about_55 : decode cX5_about 55 = .ok (.goto 78, 3) := by decide +kernel
theorem dX5_about_58 : decode cX5_about 58 = .ok (.iload_n 2, 1) := by decide +kernel
theorem dX5_about_59 : decode cX5_about 59 = .ok (.iconst 1, 1) := by decide +kernel
theorem dX5_about_60 : decode cX5_about 60 = .ok (.if_icmp .ne 12, 3) := by decide +kernel
theorem dX5_about_63 : decode cX5_about 63 = .ok (.aload_n 0, 1) := by decide +kernel
theorem dX5_about_64 : decode cX5_about 64 = .ok (.getfield 48, 3) := by decide +kernel
theorem dX5_about_67 : decode cX5_about 67 = .ok (.iload_n 1, 1) := by decide +kernel
theorem dX5_about_68 : decode cX5_about 68 = .ok (.iaload, 1) := by decide +kernel
theorem dX5_about_69 : decode cX5_about 69 = .ok (.goto 64, 3) := by decide +kernel
theorem dX5_about_72 : decode cX5_about 72 = .ok (.iload_n 2, 1) := by decide +kernel
theorem dX5_about_73 : decode cX5_about 73 = .ok (.iconst 2, 1) := by decide +kernel
theorem dX5_about_74 : decode cX5_about 74 = .ok (.if_icmp .ne 25, 3) := by decide +kernel
theorem dX5_about_77 : decode cX5_about 77 = .ok (.aload_n 0, 1) := by decide +kernel
theorem dX5_about_78 : decode cX5_about 78 = .ok (.getfield 57, 3) := by decide +kernel
theorem dX5_about_81 : decode cX5_about 81 = .ok (.iload_n 1, 1) := by decide +kernel
theorem dX5_about_82 : decode cX5_about 82 = .ok (.iaload, 1) := by decide +kernel
theorem dX5_about_83 : decode cX5_about 83 = .ok (.ifCond .ne 12, 3) := by decide +kernel
theorem dX5_about_86 : decode cX5_about 86 = .ok (.aload_n 0, 1) := by decide +kernel
theorem dX5_about_87 : decode cX5_about 87 = .ok (.getfield 51, 3) := by decide +kernel
theorem dX5_about_90 : decode cX5_about 90 = .ok (.iload_n 1, 1) := by decide +kernel
theorem dX5_about_91 : decode cX5_about 91 = .ok (.iaload, 1) := by decide +kernel
theorem dX5_about_92 : decode cX5_about 92 = .ok (.goto 41, 3) := by decide +kernel
theorem dX5_about_95 : decode cX5_about 95 = .ok (.iconst 0, 1) := by decide +kernel
theorem dX5_about_96 : decode cX5_about 96 = .ok (.goto 37, 3) := by decide +kernel
theorem dX5_about_99 : decode cX5_about 99 = .ok (.iload_n 2, 1) := by decide +kernel
theorem dX5_about_100 : decode cX5_about 100 = .ok (.iconst 3, 1) := by decide +kernel
theorem dX5_about_101 : decode cX5_about 101 = .ok (.if_icmp .ne 12, 3) := by decide +kernel
theorem dX5_about_104 : decode cX5_about 104 = .ok (.aload_n 0, 1) := by decide +kernel
theorem dX5_about_105 : decode cX5_about 105 = .ok (.getfield 57, 3) := by decide +kernel
theorem dX5_about_108 : decode cX5_about 108 = .ok (.iload_n 1, 1) := by decide +kernel
theorem dX5_about_109 : decode cX5_about 109 = .ok (.iaload, 1) := by decide +kernel
theorem dX5_about_110 : decode cX5_about 110 = .ok (.goto 23, 3) := by decide +kernel
theorem dX5_about_113 : decode cX5_about 113 = .ok (.iload_n 2, 1) := by decide +kernel
theorem dX5_about_114 : decode cX5_about 114 = .ok (.iconst 4, 1) := by decide +kernel
theorem dX5_about_115 : decode cX5_about 115 = .ok (.if_icmp .ne 12, 3) := by decide +kernel
theorem dX5_about_118 : decode cX5_about 118 = .ok (.aload_n 0, 1) := by decide +kernel
theorem dX5_about_119 : decode cX5_about 119 = .ok (.getfield 60, 3) := by decide +kernel
theorem dX5_about_122 : decode cX5_about 122 = .ok (.iload_n 1, 1) := by decide +kernel
theorem dX5_about_123 : decode cX5_about 123 = .ok (.iaload, 1) := by decide +kernel
theorem dX5_about_124 : decode cX5_about 124 = .ok (.goto 9, 3) := by decide +kernel
theorem dX5_about_127 : decode cX5_about 127 = .ok (.aload_n 0, 1) := by decide +kernel
theorem dX5_about_128 : decode cX5_about 128 = .ok (.getfield 63, 3) := by decide +kernel
theorem dX5_about_131 : decode cX5_about 131 = .ok (.iload_n 1, 1) := by decide +kernel
theorem dX5_about_132 : decode cX5_about 132 = .ok (.iaload, 1) := by decide +kernel
theorem dX5_about_133 : decode cX5_about 133 = .ok (.ireturn, 1) := by decide +kernel
set_option maxRecDepth 20000 in
theorem ggX5_ahead_X5_isIn : GoodIn wsX5_ahead wsX5_isIn := goodIn_r _ [12] (by decide +kernel) (by decide +kernel)
set_option maxRecDepth 20000 in
theorem gX5_ahead_X5_isIn : GoodIn wsX5_ahead (va_wsS RX5 97 yX5_isIn wsX5_isIn) := goodIn_app (goodIn_of _ (by decide +kernel)) ggX5_ahead_X5_isIn
set_option maxRecDepth 20000 in
theorem ggX5_ahead_X5_rests : GoodIn wsX5_ahead wsX5_rests := goodIn_r _ [16, 2, 4, 5, 17, 18, 19, 20, 21, 22, 23, 24, 25, 26, 27, 28, 29, 30, 31, 32, 33, 34, 35, 36, 37, 38, 39, 40, 41, 42, 43, 44, 45, 46, 47, 48] (by decide +kernel) (by decide +kernel)
set_option maxRecDepth 20000 in
theorem gX5_ahead_X5_rests : GoodIn wsX5_ahead (wsV RX5 122 RX5 yX5_rests wsX5_rests) := goodIn_app (goodIn_of _ (by decide +kernel)) ggX5_ahead_X5_rests
theorem dX5_ahead_0 : decode cX5_ahead 0 = .ok (.aload_n 0, 1) := by decide +kernel
theorem dX5_ahead_1 : decode cX5_ahead 1 = .ok (.iload_n 1, 1) := by decide +kernel
theorem dX5_ahead_2 : decode cX5_ahead 2 = .ok (.iconst 0, 1) := by decide +kernel
theorem dX5_ahead_3 : decode cX5_ahead 3 = .ok (.aload_n 0, 1) := by decide +kernel
theorem dX5_ahead_4 : decode cX5_ahead 4 = .ok (.getfield 116, 3) := by decide +kernel
theorem dX5_ahead_7 : decode cX5_ahead 7 = .ok (.iconst 1, 1) := by decide +kernel
theorem dX5_ahead_8 : decode cX5_ahead 8 = .ok (.isub, 1) := by decide +kernel
theorem dX5_ahead_9 : decode cX5_ahead 9 = .ok (.invokestatic 97, 3) := by decide +kernel
theorem dX5_ahead_12 : decode cX5_ahead 12 = .ok (.ifCond .ne 7, 3) := by decide +kernel
theorem dX5_ahead_15 : decode cX5_ahead 15 = .ok (.iconst 1, 1) := by decide +kernel
theorem dX5_ahead_16 : decode cX5_ahead 16 = .ok (.goto 17, 3) := by decide +kernel
theorem dX5_ahead_19 : decode cX5_ahead 19 = .ok (.aload_n 0, 1) := by decide +kernel
theorem dX5_ahead_20 : decode cX5_ahead 20 = .ok (.getfield 57, 3) := by decide +kernel
theorem dX5_ahead_23 : decode cX5_ahead 23 = .ok (.iload_n 1, 1) := by decide +kernel
theorem dX5_ahead_24 : decode cX5_ahead 24 = .ok (.iaload, 1) := by decide +kernel
theorem dX5_ahead_25 : decode cX5_ahead 25 = .ok (.ifCond .eq 7, 3) := by decide +kernel
theorem dX5_ahead_28 : decode cX5_ahead 28 = .ok (.iconst 2, 1) := by decide +kernel
theorem dX5_ahead_29 : decode cX5_ahead 29 = .ok (.goto 4, 3) := by decide +kernel
theorem dX5_ahead_32 : decode cX5_ahead 32 = .ok (.iconst 0, 1) := by decide +kernel
theorem dX5_ahead_33 : decode cX5_ahead 33 = .ok (.putfield 93, 3) := by decide +kernel
theorem dX5_ahead_36 : decode cX5_ahead 36 = .ok (.iconst 0, 1) := by decide +kernel
theorem dX5_ahead_37 : decode cX5_ahead 37 = .ok (.istore_n 2, 1) := by decide +kernel
theorem dX5_ahead_38 : decode cX5_ahead 38 = .ok (.iconst 0, 1) := by decide +kernel
theorem dX5_ahead_39 : decode cX5_ahead 39 = .ok (.istore_n 3, 1) := by decide +kernel
theorem dX5_ahead_40 : decode cX5_ahead 40 = .ok (.iload_n 3, 1) := by decide +kernel
theorem dX5_ahead_41 : decode cX5_ahead 41 = .ok (.aload_n 0, 1) := by decide +kernel
theorem dX5_ahead_42 : decode cX5_ahead 42 = .ok (.getfield 116, 3) := by decide +kernel
theorem dX5_ahead_45 : decode cX5_ahead 45 = .ok (.if_icmp .ge 79, 3) := by decide +kernel
theorem dX5_ahead_48 : decode cX5_ahead 48 = .ok (.aload_n 0, 1) := by decide +kernel
theorem dX5_ahead_49 : decode cX5_ahead 49 = .ok (.getfield 93, 3) := by decide +kernel
theorem dX5_ahead_52 : decode cX5_ahead 52 = .ok (.ifCond .ne 72, 3) := by decide +kernel
theorem dX5_ahead_55 : decode cX5_ahead 55 = .ok (.aload_n 0, 1) := by decide +kernel
theorem dX5_ahead_56 : decode cX5_ahead 56 = .ok (.iload_n 3, 1) := by decide +kernel
theorem dX5_ahead_57 : decode cX5_ahead 57 = .ok (.aload_n 0, 1) := by decide +kernel
theorem dX5_ahead_58 : decode cX5_ahead 58 = .ok (.getfield 36, 3) := by decide +kernel
theorem dX5_ahead_61 : decode cX5_ahead 61 = .ok (.iload_n 1, 1) := by decide +kernel
theorem dX5_ahead_62 : decode cX5_ahead 62 = .ok (.iaload, 1) := by decide +kernel
theorem dX5_ahead_63 : decode cX5_ahead 63 = .ok (.aload_n 0, 1) := by decide +kernel
theorem dX5_ahead_64 : decode cX5_ahead 64 = .ok (.getfield 39, 3) := by decide +kernel
theorem dX5_ahead_67 : decode cX5_ahead 67 = .ok (.iload_n 1, 1) := by decide +kernel
theorem dX5_ahead_68 : decode cX5_ahead 68 = .ok (.iaload, 1) := by decide +kernel
theorem dX5_ahead_69 : decode cX5_ahead 69 = .ok (.invokevirtual 122, 3) := by decide +kernel
theorem dX5_ahead_72 : decode cX5_ahead 72 = .ok (.ifCond .eq 44, 3) := by decide +kernel
theorem dX5_ahead_75 : decode cX5_ahead 75 = .ok (.aload_n 0, 1) := by decide +kernel
theorem dX5_ahead_76 : decode cX5_ahead 76 = .ok (.getfield 45, 3) := by decide +kernel
theorem dX5_ahead_79 : decode cX5_ahead 79 = .ok (.iload_n 3, 1) := by decide +kernel
theorem dX5_ahead_80 : decode cX5_ahead 80 = .ok (.iaload, 1) := by decide +kernel
theorem dX5_ahead_81 : decode cX5_ahead 81 = .ok (.aload_n 0, 1) := by decide +kernel
theorem dX5_ahead_82 : decode cX5_ahead 82 = .ok (.getfield 45, 3) := by decide +kernel
theorem dX5_ahead_85 : decode cX5_ahead 85 = .ok (.iload_n 1, 1) := by decide +kernel
theorem dX5_ahead_86 : decode cX5_ahead 86 = .ok (.iaload, 1) := by decide +kernel
theorem dX5_ahead_87 : decode cX5_ahead 87 = .ok (.if_icmp .ne 29, 3) := by decide +kernel
theorem dX5_ahead_90 : decode cX5_ahead 90 = .ok (.aload_n 0, 1) := by decide +kernel
theorem dX5_ahead_91 : decode cX5_ahead 91 = .ok (.getfield 66, 3) := by decide +kernel
theorem dX5_ahead_94 : decode cX5_ahead 94 = .ok (.iload_n 3, 1) := by decide +kernel
theorem dX5_ahead_95 : decode cX5_ahead 95 = .ok (.iaload, 1) := by decide +kernel
theorem dX5_ahead_96 : decode cX5_ahead 96 = .ok (.aload_n 0, 1) := by decide +kernel
theorem dX5_ahead_97 : decode cX5_ahead 97 = .ok (.getfield 66, 3) := by decide +kernel
theorem dX5_ahead_100 : decode cX5_ahead 100 = .ok (.iload_n 1, 1) := by decide +kernel
theorem dX5_ahead_101 : decode cX5_ahead 101 = .ok (.iaload, 1) := by decide +kernel
theorem dX5_ahead_102 : decode cX5_ahead 102 = .ok (.if_icmp .ge 14, 3) := by decide +kernel
theorem dX5_ahead_105 : decode cX5_ahead 105 = .ok (.iload_n 2, 1) := by decide +kernel
theorem dX5_ahead_106 : decode cX5_ahead 106 = .ok (.aload_n 0, 1) := by decide +kernel
theorem dX5_ahead_107 : decode cX5_ahead 107 = .ok (.getfield 51, 3) := by decide +kernel
theorem dX5_ahead_110 : decode cX5_ahead 110 = .ok (.iload_n 3, 1) := by decide +kernel
theorem dX5_ahead_111 : decode cX5_ahead 111 = .ok (.iaload, 1) := by decide +kernel
theorem dX5_ahead_112 : decode cX5_ahead 112 = .ok (.iadd, 1) := by decide +kernel
theorem dX5_ahead_113 : decode cX5_ahead 113 = .ok (.goto 4, 3) := by decide +kernel
theorem dX5_ahead_116 : decode cX5_ahead 116 = .ok (.iload_n 2, 1) := by decide +kernel
theorem dX5_ahead_117 : decode cX5_ahead 117 = .ok (.istore_n 2, 1) := by decide +kernel
theorem dX5_ahead_118 : decode cX5_ahead 118 = .ok (.iinc 3 1, 3) := by decide +kernel
theorem dX5_ahead_121 : decode cX5_ahead 121 = .ok (.goto (-81), 3) := by decide +kernel
theorem dX5_ahead_124 : decode cX5_ahead 124 = .ok (.iload_n 2, 1) := by decide +kernel
theorem dX5_ahead_125 : decode cX5_ahead 125 = .ok (.ireturn, 1) := by decide +kernel
set_option maxRecDepth 20000 in
theorem ggX5_cash_X5_isAccount : GoodIn wsX5_cash wsX5_isAccount := goodIn_r _ [7, 8, 9, 6, 10] (by decide +kernel) (by decide +kernel)
set_option maxRecDepth 20000 in
theorem gX5_cash_X5_isAccount : GoodIn wsX5_cash (va_wsS RX5 101 yX5_isAccount wsX5_isAccount) := goodIn_app (goodIn_of _ (by decide +kernel)) ggX5_cash_X5_isAccount
set_option maxRecDepth 20000 in
theorem ggX5_cash_X5_isIn : GoodIn wsX5_cash wsX5_isIn := goodIn_r _ [10] (by decide +kernel) (by decide +kernel)
set_option maxRecDepth 20000 in
theorem gX5_cash_X5_isIn : GoodIn wsX5_cash (va_wsS RX5 97 yX5_isIn wsX5_isIn) := goodIn_app (goodIn_of _ (by decide +kernel)) ggX5_cash_X5_isIn
theorem dX5_cash_0 : decode cX5_cash 0 = .ok (.aload_n 0, 1) := by decide +kernel
theorem dX5_cash_1 : decode cX5_cash 1 = .ok (.iload_n 1, 1) := by decide +kernel
theorem dX5_cash_2 : decode cX5_cash 2 = .ok (.invokestatic 101, 3) := by decide +kernel
theorem dX5_cash_5 : decode cX5_cash 5 = .ok (.ifCond .ne 7, 3) := by decide +kernel
theorem dX5_cash_8 : decode cX5_cash 8 = .ok (.iconst 1, 1) := by decide +kernel
theorem dX5_cash_9 : decode cX5_cash 9 = .ok (.goto 17, 3) := by decide +kernel
theorem dX5_cash_12 : decode cX5_cash 12 = .ok (.iload_n 2, 1) := by decide +kernel
theorem dX5_cash_13 : decode cX5_cash 13 = .ok (.iconst 0, 1) := by decide +kernel
theorem dX5_cash_14 : decode cX5_cash 14 = .ok (.iconst 1, 1) := by decide +kernel
theorem dX5_cash_15 : decode cX5_cash 15 = .ok (.invokestatic 97, 3) := by decide +kernel
theorem dX5_cash_18 : decode cX5_cash 18 = .ok (.ifCond .ne 7, 3) := by decide +kernel
theorem dX5_cash_21 : decode cX5_cash 21 = .ok (.iconst 2, 1) := by decide +kernel
theorem dX5_cash_22 : decode cX5_cash 22 = .ok (.goto 4, 3) := by decide +kernel
theorem dX5_cash_25 : decode cX5_cash 25 = .ok (.iconst 0, 1) := by decide +kernel
theorem dX5_cash_26 : decode cX5_cash 26 = .ok (.putfield 93, 3) := by decide +kernel
theorem dX5_cash_29 : decode cX5_cash 29 = .ok (.aload_n 0, 1) := by decide +kernel
theorem dX5_cash_30 : decode cX5_cash 30 = .ok (.getfield 93, 3) := by decide +kernel
theorem dX5_cash_33 : decode cX5_cash 33 = .ok (.ifCond .le 7, 3) := by decide +kernel
theorem dX5_cash_36 : decode cX5_cash 36 = .ok (.lconst 0, 1) := by decide +kernel
theorem dX5_cash_37 : decode cX5_cash 37 = .ok (.goto 22, 3) := by decide +kernel
theorem dX5_cash_40 : decode cX5_cash 40 = .ok (.iload_n 2, 1) := by decide +kernel
theorem dX5_cash_41 : decode cX5_cash 41 = .ok (.ifCond .ne 12, 3) := by decide +kernel
theorem dX5_cash_44 : decode cX5_cash 44 = .ok (.aload_n 0, 1) := by decide +kernel
theorem dX5_cash_45 : decode cX5_cash 45 = .ok (.getfield 7, 3) := by decide +kernel
theorem dX5_cash_48 : decode cX5_cash 48 = .ok (.iload_n 1, 1) := by decide +kernel
theorem dX5_cash_49 : decode cX5_cash 49 = .ok (.laload, 1) := by decide +kernel
theorem dX5_cash_50 : decode cX5_cash 50 = .ok (.goto 9, 3) := by decide +kernel
theorem dX5_cash_53 : decode cX5_cash 53 = .ok (.aload_n 0, 1) := by decide +kernel
theorem dX5_cash_54 : decode cX5_cash 54 = .ok (.getfield 13, 3) := by decide +kernel
theorem dX5_cash_57 : decode cX5_cash 57 = .ok (.iload_n 1, 1) := by decide +kernel
theorem dX5_cash_58 : decode cX5_cash 58 = .ok (.laload, 1) := by decide +kernel
theorem dX5_cash_59 : decode cX5_cash 59 = .ok (.lreturn, 1) := by decide +kernel
set_option maxRecDepth 20000 in
theorem ggX5_shares_X5_isAccount : GoodIn wsX5_shares wsX5_isAccount := goodIn_r _ [9, 10, 11, 8, 12] (by decide +kernel) (by decide +kernel)
set_option maxRecDepth 20000 in
theorem gX5_shares_X5_isAccount : GoodIn wsX5_shares (va_wsS RX5 101 yX5_isAccount wsX5_isAccount) := goodIn_app (goodIn_of _ (by decide +kernel)) ggX5_shares_X5_isAccount
set_option maxRecDepth 20000 in
theorem ggX5_shares_X5_isSymbol : GoodIn wsX5_shares wsX5_isSymbol := goodIn_r _ [15, 10, 11, 8, 12] (by decide +kernel) (by decide +kernel)
set_option maxRecDepth 20000 in
theorem gX5_shares_X5_isSymbol : GoodIn wsX5_shares (va_wsS RX5 108 yX5_isSymbol wsX5_isSymbol) := goodIn_app (goodIn_of _ (by decide +kernel)) ggX5_shares_X5_isSymbol
set_option maxRecDepth 20000 in
theorem ggX5_shares_X5_isIn : GoodIn wsX5_shares wsX5_isIn := goodIn_r _ [12] (by decide +kernel) (by decide +kernel)
set_option maxRecDepth 20000 in
theorem gX5_shares_X5_isIn : GoodIn wsX5_shares (va_wsS RX5 97 yX5_isIn wsX5_isIn) := goodIn_app (goodIn_of _ (by decide +kernel)) ggX5_shares_X5_isIn
set_option maxRecDepth 20000 in
theorem ggX5_shares_X5_cell : GoodIn wsX5_shares wsX5_cell := goodIn_r _ [18] (by decide +kernel) (by decide +kernel)
set_option maxRecDepth 20000 in
theorem gX5_shares_X5_cell : GoodIn wsX5_shares (va_wsS RX5 112 yX5_cell wsX5_cell) := goodIn_app (goodIn_of _ (by decide +kernel)) ggX5_shares_X5_cell
theorem dX5_shares_0 : decode cX5_shares 0 = .ok (.aload_n 0, 1) := by decide +kernel
theorem dX5_shares_1 : decode cX5_shares 1 = .ok (.iload_n 1, 1) := by decide +kernel
theorem dX5_shares_2 : decode cX5_shares 2 = .ok (.invokestatic 101, 3) := by decide +kernel
theorem dX5_shares_5 : decode cX5_shares 5 = .ok (.ifCond .eq 10, 3) := by decide +kernel
theorem dX5_shares_8 : decode cX5_shares 8 = .ok (.iload_n 2, 1) := by decide +kernel
theorem dX5_shares_9 : decode cX5_shares 9 = .ok (.invokestatic 108, 3) := by decide +kernel
theorem dX5_shares_12 : decode cX5_shares 12 = .ok (.ifCond .ne 7, 3) := by decide +kernel
theorem dX5_shares_15 : decode cX5_shares 15 = .ok (.iconst 1, 1) := by decide +kernel
theorem dX5_shares_16 : decode cX5_shares 16 = .ok (.goto 17, 3) := by decide +kernel
theorem dX5_shares_19 : decode cX5_shares 19 = .ok (.iload_n 3, 1) := by decide +kernel
theorem dX5_shares_20 : decode cX5_shares 20 = .ok (.iconst 0, 1) := by decide +kernel
theorem dX5_shares_21 : decode cX5_shares 21 = .ok (.iconst 3, 1) := by decide +kernel
theorem dX5_shares_22 : decode cX5_shares 22 = .ok (.invokestatic 97, 3) := by decide +kernel
theorem dX5_shares_25 : decode cX5_shares 25 = .ok (.ifCond .ne 7, 3) := by decide +kernel
theorem dX5_shares_28 : decode cX5_shares 28 = .ok (.iconst 2, 1) := by decide +kernel
theorem dX5_shares_29 : decode cX5_shares 29 = .ok (.goto 4, 3) := by decide +kernel
theorem dX5_shares_32 : decode cX5_shares 32 = .ok (.iconst 0, 1) := by decide +kernel
theorem dX5_shares_33 : decode cX5_shares 33 = .ok (.putfield 93, 3) := by decide +kernel
theorem dX5_shares_36 : decode cX5_shares 36 = .ok (.aload_n 0, 1) := by decide +kernel
theorem dX5_shares_37 : decode cX5_shares 37 = .ok (.getfield 93, 3) := by decide +kernel
theorem dX5_shares_40 : decode cX5_shares 40 = .ok (.ifCond .le 5, 3) := by decide +kernel
theorem dX5_shares_43 : decode cX5_shares 43 = .ok (.iconst 0, 1) := by decide +kernel
theorem dX5_shares_44 : decode cX5_shares 44 = .ok (.ireturn, 1) := by decide +kernel
theorem dX5_shares_45 : decode cX5_shares 45 = .ok (.iload_n 1, 1) := by decide +kernel
theorem dX5_shares_46 : decode cX5_shares 46 = .ok (.iload_n 2, 1) := by decide +kernel
theorem dX5_shares_47 : decode cX5_shares 47 = .ok (.invokestatic 112, 3) := by decide +kernel
theorem dX5_shares_50 : decode cX5_shares 50 = .ok (.istore 4, 2) := by decide +kernel
theorem dX5_shares_52 : decode cX5_shares 52 = .ok (.iload_n 3, 1) := by decide +kernel
theorem dX5_shares_53 : decode cX5_shares 53 = .ok (.ifCond .ne 13, 3) := by decide +kernel
theorem dX5_shares_56 : decode cX5_shares 56 = .ok (.aload_n 0, 1) := by decide +kernel
theorem dX5_shares_57 : decode cX5_shares 57 = .ok (.getfield 16, 3) := by decide +kernel
theorem dX5_shares_60 : decode cX5_shares 60 = .ok (.iload 4, 2) := by decide +kernel
theorem dX5_shares_62 : decode cX5_shares 62 = .ok (.iaload, 1) := by decide +kernel
theorem dX5_shares_63 : decode cX5_shares 63 = .ok (.goto 40, 3) := by decide +kernel
theorem dX5_shares_66 : decode cX5_shares 66 = .ok (.iload_n 3, 1) := by decide +kernel
theorem dX5_shares_67 : decode cX5_shares 67 = .ok (.iconst 1, 1) := by decide +kernel
theorem dX5_shares_68 : decode cX5_shares 68 = .ok (.if_icmp .ne 13, 3) := by decide +kernel
theorem dX5_shares_71 : decode cX5_shares 71 = .ok (.aload_n 0, 1) := by decide +kernel
theorem dX5_shares_72 : decode cX5_shares 72 = .ok (.getfield 20, 3) := by decide +kernel
theorem dX5_shares_75 : decode cX5_shares 75 = .ok (.iload 4, 2) := by decide +kernel
theorem dX5_shares_77 : decode cX5_shares 77 = .ok (.iaload, 1) := by decide +kernel
theorem dX5_shares_78 : decode cX5_shares 78 = .ok (.goto 25, 3) := by decide +kernel
theorem dX5_shares_81 : decode cX5_shares 81 = .ok (.iload_n 3, 1) := by decide +kernel
theorem dX5_shares_82 : decode cX5_shares 82 = .ok (.iconst 2, 1) := by decide +kernel
theorem dX5_shares_83 : decode cX5_shares 83 = .ok (.if_icmp .ne 13, 3) := by decide +kernel
theorem dX5_shares_86 : decode cX5_shares 86 = .ok (.aload_n 0, 1) := by decide +kernel
theorem dX5_shares_87 : decode cX5_shares 87 = .ok (.getfield 23, 3) := by decide +kernel
theorem dX5_shares_90 : decode cX5_shares 90 = .ok (.iload 4, 2) := by decide +kernel
theorem dX5_shares_92 : decode cX5_shares 92 = .ok (.iaload, 1) := by decide +kernel
theorem dX5_shares_93 : decode cX5_shares 93 = .ok (.goto 10, 3) := by decide +kernel
theorem dX5_shares_96 : decode cX5_shares 96 = .ok (.aload_n 0, 1) := by decide +kernel
theorem dX5_shares_97 : decode cX5_shares 97 = .ok (.getfield 26, 3) := by decide +kernel
theorem dX5_shares_100 : decode cX5_shares 100 = .ok (.iload 4, 2) := by decide +kernel
theorem dX5_shares_102 : decode cX5_shares 102 = .ok (.iaload, 1) := by decide +kernel
theorem dX5_shares_103 : decode cX5_shares 103 = .ok (.ireturn, 1) := by decide +kernel
set_option maxRecDepth 20000 in
theorem ggX5_count_X5_isIn : GoodIn wsX5_count wsX5_isIn := goodIn_r _ [9] (by decide +kernel) (by decide +kernel)
set_option maxRecDepth 20000 in
theorem gX5_count_X5_isIn : GoodIn wsX5_count (va_wsS RX5 97 yX5_isIn wsX5_isIn) := goodIn_app (goodIn_of _ (by decide +kernel)) ggX5_count_X5_isIn
set_option maxRecDepth 20000 in
theorem ggX5_count_X5_there : GoodIn wsX5_count wsX5_there := goodIn_r _ [13, 3, 14, 15, 16, 8, 17, 18, 19, 20, 21, 22, 23, 24, 25, 26, 27, 28, 29, 30, 31, 32, 33, 34, 35, 36, 37, 38, 39, 40, 41, 42, 43, 44, 45, 46, 47, 48, 49, 50] (by decide +kernel) (by decide +kernel)
set_option maxRecDepth 20000 in
theorem gX5_count_X5_there : GoodIn wsX5_count (wsV RX5 166 RX5 yX5_there wsX5_there) := goodIn_app (goodIn_of _ (by decide +kernel)) ggX5_count_X5_there
theorem dX5_count_0 : decode cX5_count 0 = .ok (.aload_n 0, 1) := by decide +kernel
theorem dX5_count_1 : decode cX5_count 1 = .ok (.iload_n 1, 1) := by decide +kernel
theorem dX5_count_2 : decode cX5_count 2 = .ok (.iconst 0, 1) := by decide +kernel
theorem dX5_count_3 : decode cX5_count 3 = .ok (.iconst 4, 1) := by decide +kernel
theorem dX5_count_4 : decode cX5_count 4 = .ok (.invokestatic 97, 3) := by decide +kernel
theorem dX5_count_7 : decode cX5_count 7 = .ok (.ifCond .eq 7, 3) := by decide +kernel
theorem dX5_count_10 : decode cX5_count 10 = .ok (.iconst 0, 1) := by decide +kernel
theorem dX5_count_11 : decode cX5_count 11 = .ok (.goto 4, 3) := by decide +kernel
theorem dX5_count_14 : decode cX5_count 14 = .ok (.iconst 1, 1) := by decide +kernel
theorem dX5_count_15 : decode cX5_count 15 = .ok (.putfield 93, 3) := by decide +kernel
theorem dX5_count_18 : decode cX5_count 18 = .ok (.aload_n 0, 1) := by decide +kernel
theorem dX5_count_19 : decode cX5_count 19 = .ok (.getfield 93, 3) := by decide +kernel
theorem dX5_count_22 : decode cX5_count 22 = .ok (.ifCond .gt 8, 3) := by decide +kernel
theorem dX5_count_25 : decode cX5_count 25 = .ok (.iload_n 1, 1) := by decide +kernel
theorem dX5_count_26 : decode cX5_count 26 = .ok (.iconst 3, 1) := by decide +kernel
theorem dX5_count_27 : decode cX5_count 27 = .ok (.if_icmp .eq 54, 3) := by decide +kernel
theorem dX5_count_30 : decode cX5_count 30 = .ok (.aload_n 0, 1) := by decide +kernel
theorem dX5_count_31 : decode cX5_count 31 = .ok (.getfield 93, 3) := by decide +kernel
theorem dX5_count_34 : decode cX5_count 34 = .ok (.ifCond .le 7, 3) := by decide +kernel
theorem dX5_count_37 : decode cX5_count 37 = .ok (.iconst 0, 1) := by decide +kernel
theorem dX5_count_38 : decode cX5_count 38 = .ok (.goto 42, 3) := by decide +kernel
theorem dX5_count_41 : decode cX5_count 41 = .ok (.iload_n 1, 1) := by decide +kernel
theorem dX5_count_42 : decode cX5_count 42 = .ok (.ifCond .ne 10, 3) := by decide +kernel
theorem dX5_count_45 : decode cX5_count 45 = .ok (.aload_n 0, 1) := by decide +kernel
theorem dX5_count_46 : decode cX5_count 46 = .ok (.getfield 132, 3) := by decide +kernel
theorem dX5_count_49 : decode cX5_count 49 = .ok (.goto 31, 3) := by decide +kernel
theorem dX5_count_52 : decode cX5_count 52 = .ok (.iload_n 1, 1) := by decide +kernel
theorem dX5_count_53 : decode cX5_count 53 = .ok (.iconst 1, 1) := by decide +kernel
theorem dX5_count_54 : decode cX5_count 54 = .ok (.if_icmp .ne 10, 3) := by decide +kernel
theorem dX5_count_57 : decode cX5_count 57 = .ok (.aload_n 0, 1) := by decide +kernel
theorem dX5_count_58 : decode cX5_count 58 = .ok (.getfield 116, 3) := by decide +kernel
theorem dX5_count_61 : decode cX5_count 61 = .ok (.goto 19, 3) := by decide +kernel
theorem dX5_count_64 : decode cX5_count 64 = .ok (.iload_n 1, 1) := by decide +kernel
theorem dX5_count_65 : decode cX5_count 65 = .ok (.iconst 2, 1) := by decide +kernel
theorem dX5_count_66 : decode cX5_count 66 = .ok (.if_icmp .ne 10, 3) := by decide +kernel
theorem dX5_count_69 : decode cX5_count 69 = .ok (.aload_n 0, 1) := by decide +kernel
theorem dX5_count_70 : decode cX5_count 70 = .ok (.invokevirtual 166, 3) := by decide +kernel
theorem dX5_count_73 : decode cX5_count 73 = .ok (.goto 7, 3) := by decide +kernel
theorem dX5_count_76 : decode cX5_count 76 = .ok (.aload_n 0, 1) := by decide +kernel
theorem dX5_count_77 : decode cX5_count 77 = .ok (.getfield 181, 3) := by decide +kernel
theorem dX5_count_80 : decode cX5_count 80 = .ok (.ireturn, 1) := by decide +kernel
theorem dX5_count_81 : decode cX5_count 81 = .ok (.iconst 0, 1) := by decide +kernel
theorem dX5_count_82 : decode cX5_count 82 = .ok (.istore_n 2, 1) := by decide +kernel
theorem dX5_count_83 : decode cX5_count 83 = .ok (.iconst 0, 1) := by decide +kernel
theorem dX5_count_84 : decode cX5_count 84 = .ok (.istore_n 3, 1) := by decide +kernel
theorem dX5_count_85 : decode cX5_count 85 = .ok (.iload_n 3, 1) := by decide +kernel
theorem dX5_count_86 : decode cX5_count 86 = .ok (.sipush 512, 3) := by decide +kernel
theorem dX5_count_89 : decode cX5_count 89 = .ok (.if_icmp .ge 26, 3) := by decide +kernel
theorem dX5_count_92 : decode cX5_count 92 = .ok (.aload_n 0, 1) := by decide +kernel
theorem dX5_count_93 : decode cX5_count 93 = .ok (.getfield 29, 3) := by decide +kernel
theorem dX5_count_96 : decode cX5_count 96 = .ok (.iload_n 3, 1) := by decide +kernel
theorem dX5_count_97 : decode cX5_count 97 = .ok (.baload, 1) := by decide +kernel
theorem dX5_count_98 : decode cX5_count 98 = .ok (.ifCond .eq 9, 3) := by decide +kernel
theorem dX5_count_101 : decode cX5_count 101 = .ok (.iload_n 2, 1) := by decide +kernel
theorem dX5_count_102 : decode cX5_count 102 = .ok (.iconst 1, 1) := by decide +kernel
theorem dX5_count_103 : decode cX5_count 103 = .ok (.iadd, 1) := by decide +kernel
theorem dX5_count_104 : decode cX5_count 104 = .ok (.goto 4, 3) := by decide +kernel
theorem dX5_count_107 : decode cX5_count 107 = .ok (.iload_n 2, 1) := by decide +kernel
theorem dX5_count_108 : decode cX5_count 108 = .ok (.istore_n 2, 1) := by decide +kernel
theorem dX5_count_109 : decode cX5_count 109 = .ok (.iinc 3 1, 3) := by decide +kernel
theorem dX5_count_112 : decode cX5_count 112 = .ok (.goto (-27), 3) := by decide +kernel
theorem dX5_count_115 : decode cX5_count 115 = .ok (.iload_n 2, 1) := by decide +kernel
theorem dX5_count_116 : decode cX5_count 116 = .ok (.ireturn, 1) := by decide +kernel
set_option maxRecDepth 20000 in
theorem ggX5_trade_X5_isIn : GoodIn wsX5_trade wsX5_isIn := goodIn_r _ [7] (by decide +kernel) (by decide +kernel)
set_option maxRecDepth 20000 in
theorem gX5_trade_X5_isIn : GoodIn wsX5_trade (va_wsS RX5 97 yX5_isIn wsX5_isIn) := goodIn_app (goodIn_of _ (by decide +kernel)) ggX5_trade_X5_isIn
theorem dX5_trade_0 : decode cX5_trade 0 = .ok (.aload_n 0, 1) := by decide +kernel
theorem dX5_trade_1 : decode cX5_trade 1 = .ok (.iload_n 1, 1) := by decide +kernel
theorem dX5_trade_2 : decode cX5_trade 2 = .ok (.ifCond .lt 18, 3) := by decide +kernel
theorem dX5_trade_5 : decode cX5_trade 5 = .ok (.iload_n 1, 1) := by decide +kernel
theorem dX5_trade_6 : decode cX5_trade 6 = .ok (.aload_n 0, 1) := by decide +kernel
theorem dX5_trade_7 : decode cX5_trade 7 = .ok (.getfield 132, 3) := by decide +kernel
theorem dX5_trade_10 : decode cX5_trade 10 = .ok (.if_icmp .ge 10, 3) := by decide +kernel
theorem dX5_trade_13 : decode cX5_trade 13 = .ok (.iload_n 1, 1) := by decide +kernel
theorem dX5_trade_14 : decode cX5_trade 14 = .ok (.sipush 300, 3) := by decide +kernel
theorem dX5_trade_17 : decode cX5_trade 17 = .ok (.if_icmp .lt 7, 3) := by decide +kernel
theorem dX5_trade_20 : decode cX5_trade 20 = .ok (.iconst 1, 1) := by decide +kernel
theorem dX5_trade_21 : decode cX5_trade 21 = .ok (.goto 17, 3) := by decide +kernel
theorem dX5_trade_24 : decode cX5_trade 24 = .ok (.iload_n 2, 1) := by decide +kernel
theorem dX5_trade_25 : decode cX5_trade 25 = .ok (.iconst 0, 1) := by decide +kernel
theorem dX5_trade_26 : decode cX5_trade 26 = .ok (.iconst 3, 1) := by decide +kernel
theorem dX5_trade_27 : decode cX5_trade 27 = .ok (.invokestatic 97, 3) := by decide +kernel
theorem dX5_trade_30 : decode cX5_trade 30 = .ok (.ifCond .ne 7, 3) := by decide +kernel
theorem dX5_trade_33 : decode cX5_trade 33 = .ok (.iconst 2, 1) := by decide +kernel
theorem dX5_trade_34 : decode cX5_trade 34 = .ok (.goto 4, 3) := by decide +kernel
theorem dX5_trade_37 : decode cX5_trade 37 = .ok (.iconst 0, 1) := by decide +kernel
theorem dX5_trade_38 : decode cX5_trade 38 = .ok (.putfield 93, 3) := by decide +kernel
theorem dX5_trade_41 : decode cX5_trade 41 = .ok (.aload_n 0, 1) := by decide +kernel
theorem dX5_trade_42 : decode cX5_trade 42 = .ok (.getfield 93, 3) := by decide +kernel
theorem dX5_trade_45 : decode cX5_trade 45 = .ok (.ifCond .le 7, 3) := by decide +kernel
theorem dX5_trade_48 : decode cX5_trade 48 = .ok (.iconst 0, 1) := by decide +kernel
theorem dX5_trade_49 : decode cX5_trade 49 = .ok (.goto 13, 3) := by decide +kernel
theorem dX5_trade_52 : decode cX5_trade 52 = .ok (.aload_n 0, 1) := by decide +kernel
theorem dX5_trade_53 : decode cX5_trade 53 = .ok (.getfield 78, 3) := by decide +kernel
theorem dX5_trade_56 : decode cX5_trade 56 = .ok (.iconst 4, 1) := by decide +kernel
theorem dX5_trade_57 : decode cX5_trade 57 = .ok (.iload_n 1, 1) := by decide +kernel
theorem dX5_trade_58 : decode cX5_trade 58 = .ok (.imul, 1) := by decide +kernel
theorem dX5_trade_59 : decode cX5_trade 59 = .ok (.iload_n 2, 1) := by decide +kernel
theorem dX5_trade_60 : decode cX5_trade 60 = .ok (.iadd, 1) := by decide +kernel
theorem dX5_trade_61 : decode cX5_trade 61 = .ok (.iaload, 1) := by decide +kernel
theorem dX5_trade_62 : decode cX5_trade 62 = .ok (.ireturn, 1) := by decide +kernel
set_option maxRecDepth 20000 in
theorem ggX5_symbol_X5_isSymbol : GoodIn wsX5_symbol wsX5_isSymbol := goodIn_r _ [9, 10, 11, 8, 12] (by decide +kernel) (by decide +kernel)
set_option maxRecDepth 20000 in
theorem gX5_symbol_X5_isSymbol : GoodIn wsX5_symbol (va_wsS RX5 108 yX5_isSymbol wsX5_isSymbol) := goodIn_app (goodIn_of _ (by decide +kernel)) ggX5_symbol_X5_isSymbol
set_option maxRecDepth 20000 in
theorem ggX5_symbol_X5_isIn : GoodIn wsX5_symbol wsX5_isIn := goodIn_r _ [12] (by decide +kernel) (by decide +kernel)
set_option maxRecDepth 20000 in
theorem gX5_symbol_X5_isIn : GoodIn wsX5_symbol (va_wsS RX5 97 yX5_isIn wsX5_isIn) := goodIn_app (goodIn_of _ (by decide +kernel)) ggX5_symbol_X5_isIn
theorem dX5_symbol_0 : decode cX5_symbol 0 = .ok (.aload_n 0, 1) := by decide +kernel
theorem dX5_symbol_1 : decode cX5_symbol 1 = .ok (.iload_n 1, 1) := by decide +kernel
theorem dX5_symbol_2 : decode cX5_symbol 2 = .ok (.invokestatic 108, 3) := by decide +kernel
theorem dX5_symbol_5 : decode cX5_symbol 5 = .ok (.ifCond .ne 7, 3) := by decide +kernel
theorem dX5_symbol_8 : decode cX5_symbol 8 = .ok (.iconst 1, 1) := by decide +kernel
theorem dX5_symbol_9 : decode cX5_symbol 9 = .ok (.goto 17, 3) := by decide +kernel
theorem dX5_symbol_12 : decode cX5_symbol 12 = .ok (.iload_n 2, 1) := by decide +kernel
theorem dX5_symbol_13 : decode cX5_symbol 13 = .ok (.iconst 0, 1) := by decide +kernel
theorem dX5_symbol_14 : decode cX5_symbol 14 = .ok (.iconst 3, 1) := by decide +kernel
theorem dX5_symbol_15 : decode cX5_symbol 15 = .ok (.invokestatic 97, 3) := by decide +kernel
theorem dX5_symbol_18 : decode cX5_symbol 18 = .ok (.ifCond .ne 7, 3) := by decide +kernel
theorem dX5_symbol_21 : decode cX5_symbol 21 = .ok (.iconst 2, 1) := by decide +kernel
theorem dX5_symbol_22 : decode cX5_symbol 22 = .ok (.goto 4, 3) := by decide +kernel
theorem dX5_symbol_25 : decode cX5_symbol 25 = .ok (.iconst 0, 1) := by decide +kernel
theorem dX5_symbol_26 : decode cX5_symbol 26 = .ok (.putfield 93, 3) := by decide +kernel
theorem dX5_symbol_29 : decode cX5_symbol 29 = .ok (.aload_n 0, 1) := by decide +kernel
theorem dX5_symbol_30 : decode cX5_symbol 30 = .ok (.getfield 93, 3) := by decide +kernel
theorem dX5_symbol_33 : decode cX5_symbol 33 = .ok (.ifCond .le 7, 3) := by decide +kernel
theorem dX5_symbol_36 : decode cX5_symbol 36 = .ok (.iconst 0, 1) := by decide +kernel
theorem dX5_symbol_37 : decode cX5_symbol 37 = .ok (.goto 50, 3) := by decide +kernel
theorem dX5_symbol_40 : decode cX5_symbol 40 = .ok (.iload_n 2, 1) := by decide +kernel
theorem dX5_symbol_41 : decode cX5_symbol 41 = .ok (.ifCond .ne 12, 3) := by decide +kernel
theorem dX5_symbol_44 : decode cX5_symbol 44 = .ok (.aload_n 0, 1) := by decide +kernel
theorem dX5_symbol_45 : decode cX5_symbol 45 = .ok (.getfield 81, 3) := by decide +kernel
theorem dX5_symbol_48 : decode cX5_symbol 48 = .ok (.iload_n 1, 1) := by decide +kernel
theorem dX5_symbol_49 : decode cX5_symbol 49 = .ok (.iaload, 1) := by decide +kernel
theorem dX5_symbol_50 : decode cX5_symbol 50 = .ok (.goto 37, 3) := by decide +kernel
theorem dX5_symbol_53 : decode cX5_symbol 53 = .ok (.iload_n 2, 1) := by decide +kernel
theorem dX5_symbol_54 : decode cX5_symbol 54 = .ok (.iconst 1, 1) := by decide +kernel
theorem dX5_symbol_55 : decode cX5_symbol 55 = .ok (.if_icmp .ne 12, 3) := by decide +kernel
theorem dX5_symbol_58 : decode cX5_symbol 58 = .ok (.aload_n 0, 1) := by decide +kernel
theorem dX5_symbol_59 : decode cX5_symbol 59 = .ok (.getfield 84, 3) := by decide +kernel
theorem dX5_symbol_62 : decode cX5_symbol 62 = .ok (.iload_n 1, 1) := by decide +kernel
theorem dX5_symbol_63 : decode cX5_symbol 63 = .ok (.iaload, 1) := by decide +kernel
theorem dX5_symbol_64 : decode cX5_symbol 64 = .ok (.goto 23, 3) := by decide +kernel
theorem dX5_symbol_67 : decode cX5_symbol 67 = .ok (.iload_n 2, 1) := by decide +kernel
theorem dX5_symbol_68 : decode cX5_symbol 68 = .ok (.iconst 2, 1) := by decide +kernel
theorem dX5_symbol_69 : decode cX5_symbol 69 = .ok (.if_icmp .ne 12, 3) := by decide +kernel
theorem dX5_symbol_72 : decode cX5_symbol 72 = .ok (.aload_n 0, 1) := by decide +kernel
theorem dX5_symbol_73 : decode cX5_symbol 73 = .ok (.getfield 87, 3) := by decide +kernel
theorem dX5_symbol_76 : decode cX5_symbol 76 = .ok (.iload_n 1, 1) := by decide +kernel
theorem dX5_symbol_77 : decode cX5_symbol 77 = .ok (.iaload, 1) := by decide +kernel
theorem dX5_symbol_78 : decode cX5_symbol 78 = .ok (.goto 9, 3) := by decide +kernel
theorem dX5_symbol_81 : decode cX5_symbol 81 = .ok (.aload_n 0, 1) := by decide +kernel
theorem dX5_symbol_82 : decode cX5_symbol 82 = .ok (.getfield 90, 3) := by decide +kernel
theorem dX5_symbol_85 : decode cX5_symbol 85 = .ok (.iload_n 1, 1) := by decide +kernel
theorem dX5_symbol_86 : decode cX5_symbol 86 = .ok (.iaload, 1) := by decide +kernel
theorem dX5_symbol_87 : decode cX5_symbol 87 = .ok (.ireturn, 1) := by decide +kernel
set_option maxRecDepth 20000 in
theorem ggX5_business_X5_cell : GoodIn wsX5_business wsX5_cell := goodIn_r _ [6] (by decide +kernel) (by decide +kernel)
set_option maxRecDepth 20000 in
theorem gX5_business_X5_cell : GoodIn wsX5_business (va_wsS RX5 112 yX5_cell wsX5_cell) := goodIn_app (goodIn_of _ (by decide +kernel)) ggX5_business_X5_cell
theorem dX5_business_0 : decode cX5_business 0 = .ok (.aload_n 0, 1) := by decide +kernel
theorem dX5_business_1 : decode cX5_business 1 = .ok (.getfield 23, 3) := by decide +kernel
theorem dX5_business_4 : decode cX5_business 4 = .ok (.iload_n 1, 1) := by decide +kernel
theorem dX5_business_5 : decode cX5_business 5 = .ok (.iload_n 2, 1) := by decide +kernel
theorem dX5_business_6 : decode cX5_business 6 = .ok (.invokestatic 112, 3) := by decide +kernel
theorem dX5_business_9 : decode cX5_business 9 = .ok (.iaload, 1) := by decide +kernel
theorem dX5_business_10 : decode cX5_business 10 = .ok (.aload_n 0, 1) := by decide +kernel
theorem dX5_business_11 : decode cX5_business 11 = .ok (.getfield 26, 3) := by decide +kernel
theorem dX5_business_14 : decode cX5_business 14 = .ok (.iload_n 1, 1) := by decide +kernel
theorem dX5_business_15 : decode cX5_business 15 = .ok (.iload_n 2, 1) := by decide +kernel
theorem dX5_business_16 : decode cX5_business 16 = .ok (.invokestatic 112, 3) := by decide +kernel
theorem dX5_business_19 : decode cX5_business 19 = .ok (.iaload, 1) := by decide +kernel
theorem dX5_business_20 : decode cX5_business 20 = .ok (.iadd, 1) := by decide +kernel
theorem dX5_business_21 : decode cX5_business 21 = .ok (.ireturn, 1) := by decide +kernel
set_option maxRecDepth 20000 in
theorem ggX5_busiest_X5_isSymbol : GoodIn wsX5_busiest wsX5_isSymbol := goodIn_r _ [5, 6, 7, 4, 8] (by decide +kernel) (by decide +kernel)
set_option maxRecDepth 20000 in
theorem gX5_busiest_X5_isSymbol : GoodIn wsX5_busiest (va_wsS RX5 108 yX5_isSymbol wsX5_isSymbol) := goodIn_app (goodIn_of _ (by decide +kernel)) ggX5_busiest_X5_isSymbol
set_option maxRecDepth 20000 in
theorem ggX5_busiest_X5_business : GoodIn wsX5_busiest wsX5_business := goodIn_r _ [12, 13, 14, 15, 16, 4, 17, 18, 19, 20, 21, 22, 23, 24, 25, 26, 27, 28, 29, 30, 31, 32, 33, 34, 35, 36, 37, 38, 39, 40, 41, 42, 43, 44, 45, 46, 47, 48, 49] (by decide +kernel) (by decide +kernel)
set_option maxRecDepth 20000 in
theorem gX5_busiest_X5_business : GoodIn wsX5_busiest (wsV RX5 191 RX5 yX5_business wsX5_business) := goodIn_app (goodIn_of _ (by decide +kernel)) ggX5_busiest_X5_business
end
section
theorem dX5_busiest_0 : decode cX5_busiest 0 = .ok (.aload_n 0, 1) := by decide +kernel
theorem dX5_busiest_1 : decode cX5_busiest 1 = .ok (.iload_n 1, 1) := by decide +kernel
theorem dX5_busiest_2 : decode cX5_busiest 2 = .ok (.invokestatic 108, 3) := by decide +kernel
theorem dX5_busiest_5 : decode cX5_busiest 5 = .ok (.ifCond .eq 11, 3) := by decide +kernel
theorem dX5_busiest_8 : decode cX5_busiest 8 = .ok (.iload_n 2, 1) := by decide +kernel
theorem dX5_busiest_9 : decode cX5_busiest 9 = .ok (.ifCond .lt 7, 3) := by decide +kernel
theorem dX5_busiest_12 : decode cX5_busiest 12 = .ok (.iconst 0, 1) := by decide +kernel
theorem dX5_busiest_13 : decode cX5_busiest 13 = .ok (.goto 4, 3) := by decide +kernel
theorem dX5_busiest_16 : decode cX5_busiest 16 = .ok (.iconst 1, 1) := by decide +kernel
theorem dX5_busiest_17 : decode cX5_busiest 17 = .ok (.putfield 93, 3) := by decide +kernel
theorem dX5_busiest_20 : decode cX5_busiest 20 = .ok (.iconst 0, 1) := by decide +kernel
theorem dX5_busiest_21 : decode cX5_busiest 21 = .ok (.istore_n 3, 1) := by decide +kernel
theorem dX5_busiest_22 : decode cX5_busiest 22 = .ok (.iload_n 3, 1) := by decide +kernel
theorem dX5_busiest_23 : decode cX5_busiest 23 = .ok (.sipush 512, 3) := by decide +kernel
theorem dX5_busiest_26 : decode cX5_busiest 26 = .ok (.if_icmp .ge 111, 3) := by decide +kernel
theorem dX5_busiest_29 : decode cX5_busiest 29 = .ok (.aload_n 0, 1) := by decide +kernel
theorem dX5_busiest_30 : decode cX5_busiest 30 = .ok (.getfield 93, 3) := by decide +kernel
theorem dX5_busiest_33 : decode cX5_busiest 33 = .ok (.ifCond .ne 104, 3) := by decide +kernel
theorem dX5_busiest_36 : decode cX5_busiest 36 = .ok (.iconst 0, 1) := by decide +kernel
theorem dX5_busiest_37 : decode cX5_busiest 37 = .ok (.istore 4, 2) := by decide +kernel
theorem dX5_busiest_39 : decode cX5_busiest 39 = .ok (.iconst 0, 1) := by decide +kernel
theorem dX5_busiest_40 : decode cX5_busiest 40 = .ok (.istore 5, 2) := by decide +kernel
theorem dX5_busiest_42 : decode cX5_busiest 42 = .ok (.iload 5, 2) := by decide +kernel
theorem dX5_busiest_44 : decode cX5_busiest 44 = .ok (.sipush 512, 3) := by decide +kernel
theorem dX5_busiest_47 : decode cX5_busiest 47 = .ok (.if_icmp .ge 67, 3) := by decide +kernel
theorem dX5_busiest_50 : decode cX5_busiest 50 = .ok (.aload_n 0, 1) := by decide +kernel
theorem dX5_busiest_51 : decode cX5_busiest 51 = .ok (.iload_n 3, 1) := by decide +kernel
theorem dX5_busiest_52 : decode cX5_busiest 52 = .ok (.iload_n 1, 1) := by decide +kernel
theorem dX5_busiest_53 : decode cX5_busiest 53 = .ok (.invokevirtual 191, 3) := by decide +kernel
theorem dX5_busiest_56 : decode cX5_busiest 56 = .ok (.ifCond .le 58, 3) := by decide +kernel
theorem dX5_busiest_59 : decode cX5_busiest 59 = .ok (.aload_n 0, 1) := by decide +kernel
theorem dX5_busiest_60 : decode cX5_busiest 60 = .ok (.iload 5, 2) := by decide +kernel
theorem dX5_busiest_62 : decode cX5_busiest 62 = .ok (.iload_n 1, 1) := by decide +kernel
theorem dX5_busiest_63 : decode cX5_busiest 63 = .ok (.invokevirtual 191, 3) := by decide +kernel
theorem dX5_busiest_66 : decode cX5_busiest 66 = .ok (.aload_n 0, 1) := by decide +kernel
theorem dX5_busiest_67 : decode cX5_busiest 67 = .ok (.iload_n 3, 1) := by decide +kernel
theorem dX5_busiest_68 : decode cX5_busiest 68 = .ok (.iload_n 1, 1) := by decide +kernel
theorem dX5_busiest_69 : decode cX5_busiest 69 = .ok (.invokevirtual 191, 3) := by decide +kernel
theorem dX5_busiest_72 : decode cX5_busiest 72 = .ok (.if_icmp .gt 25, 3) := by decide +kernel
theorem dX5_busiest_75 : decode cX5_busiest 75 = .ok (.aload_n 0, 1) := by decide +kernel
theorem dX5_busiest_76 : decode cX5_busiest 76 = .ok (.iload 5, 2) := by decide +kernel
theorem dX5_busiest_78 : decode cX5_busiest 78 = .ok (.iload_n 1, 1) := by decide +kernel
theorem dX5_busiest_79 : decode cX5_busiest 79 = .ok (.invokevirtual 191, 3) := by decide +kernel
theorem dX5_busiest_82 : decode cX5_busiest 82 = .ok (.aload_n 0, 1) := by decide +kernel
theorem dX5_busiest_83 : decode cX5_busiest 83 = .ok (.iload_n 3, 1) := by decide +kernel
theorem dX5_busiest_84 : decode cX5_busiest 84 = .ok (.iload_n 1, 1) := by decide +kernel
theorem dX5_busiest_85 : decode cX5_busiest 85 = .ok (.invokevirtual 191, 3) := by decide +kernel
theorem dX5_busiest_88 : decode cX5_busiest 88 = .ok (.if_icmp .ne 16, 3) := by decide +kernel
theorem dX5_busiest_91 : decode cX5_busiest 91 = .ok (.iload 5, 2) := by decide +kernel
theorem dX5_busiest_93 : decode cX5_busiest 93 = .ok (.iload_n 3, 1) := by decide +kernel
theorem dX5_busiest_94 : decode cX5_busiest 94 = .ok (.if_icmp .ge 10, 3) := by decide +kernel
theorem dX5_busiest_97 : decode cX5_busiest 97 = .ok (.iload 4, 2) := by decide +kernel
theorem dX5_busiest_99 : decode cX5_busiest 99 = .ok (.iconst 1, 1) := by decide +kernel
theorem dX5_busiest_100 : decode cX5_busiest 100 = .ok (.iadd, 1) := by decide +kernel
theorem dX5_busiest_101 : decode cX5_busiest 101 = .ok (.goto 5, 3) := by decide +kernel
theorem dX5_busiest_104 : decode cX5_busiest 104 = .ok (.iload 4, 2) := by decide +kernel
theorem dX5_busiest_106 : decode cX5_busiest 106 = .ok (.istore 4, 2) := by decide +kernel
theorem dX5_busiest_108 : decode cX5_busiest 108 = .ok (.iinc 5 1, 3) := by decide +kernel
theorem dX5_busiest_111 : decode cX5_busiest 111 = .ok (.goto (-69), 3) := by decide +kernel
theorem dX5_busiest_114 : decode cX5_busiest 114 = .ok (.aload_n 0, 1) := by decide +kernel
theorem dX5_busiest_115 : decode cX5_busiest 115 = .ok (.iload_n 3, 1) := by decide +kernel
theorem dX5_busiest_116 : decode cX5_busiest 116 = .ok (.iload_n 1, 1) := by decide +kernel
theorem dX5_busiest_117 : decode cX5_busiest 117 = .ok (.invokevirtual 191, 3) := by decide +kernel
theorem dX5_busiest_120 : decode cX5_busiest 120 = .ok (.ifCond .le 11, 3) := by decide +kernel
theorem dX5_busiest_123 : decode cX5_busiest 123 = .ok (.iload 4, 2) := by decide +kernel
theorem dX5_busiest_125 : decode cX5_busiest 125 = .ok (.iload_n 2, 1) := by decide +kernel
theorem dX5_busiest_126 : decode cX5_busiest 126 = .ok (.if_icmp .ne 5, 3) := by decide +kernel
theorem dX5_busiest_129 : decode cX5_busiest 129 = .ok (.iload_n 3, 1) := by decide +kernel
theorem dX5_busiest_130 : decode cX5_busiest 130 = .ok (.ireturn, 1) := by decide +kernel
theorem dX5_busiest_131 : decode cX5_busiest 131 = .ok (.iinc 3 1, 3) := by decide +kernel
theorem dX5_busiest_134 : decode cX5_busiest 134 = .ok (.goto (-112), 3) := by decide +kernel
theorem dX5_busiest_137 : decode cX5_busiest 137 = .ok (.aload_n 0, 1) := by decide +kernel
theorem dX5_busiest_138 : decode cX5_busiest 138 = .ok (.iconst 1, 1) := by decide +kernel
theorem dX5_busiest_139 : decode cX5_busiest 139 = .ok (.putfield 93, 3) := by decide +kernel
theorem dX5_busiest_142 : decode cX5_busiest 142 = .ok (.iconst 0, 1) := by decide +kernel
theorem dX5_busiest_143 : decode cX5_busiest 143 = .ok (.ireturn, 1) := by decide +kernel
theorem dJ9_max_7cf53_0 : decode cJ9_max_7cf53 0 = .ok (.iload_n 0, 1) := by decide +kernel
theorem dJ9_max_7cf53_1 : decode cJ9_max_7cf53 1 = .ok (.iload_n 1, 1) := by decide +kernel
theorem dJ9_max_7cf53_2 : decode cJ9_max_7cf53 2 = .ok (.if_icmp .lt 7, 3) := by decide +kernel
theorem dJ9_max_7cf53_5 : decode cJ9_max_7cf53 5 = .ok (.iload_n 0, 1) := by decide +kernel
theorem dJ9_max_7cf53_6 : decode cJ9_max_7cf53 6 = .ok (.goto 4, 3) := by decide +kernel
theorem dJ9_max_7cf53_9 : decode cJ9_max_7cf53 9 = .ok (.iload_n 1, 1) := by decide +kernel
theorem dJ9_max_7cf53_10 : decode cJ9_max_7cf53 10 = .ok (.ireturn, 1) := by decide +kernel
theorem dJ9_min_7cf53_0 : decode cJ9_min_7cf53 0 = .ok (.iload_n 0, 1) := by decide +kernel
theorem dJ9_min_7cf53_1 : decode cJ9_min_7cf53 1 = .ok (.iload_n 1, 1) := by decide +kernel
theorem dJ9_min_7cf53_2 : decode cJ9_min_7cf53 2 = .ok (.if_icmp .gt 7, 3) := by decide +kernel
theorem dJ9_min_7cf53_5 : decode cJ9_min_7cf53 5 = .ok (.iload_n 0, 1) := by decide +kernel
theorem dJ9_min_7cf53_6 : decode cJ9_min_7cf53 6 = .ok (.goto 4, 3) := by decide +kernel
theorem dJ9_min_7cf53_9 : decode cJ9_min_7cf53 9 = .ok (.iload_n 1, 1) := by decide +kernel
theorem dJ9_min_7cf53_10 : decode cJ9_min_7cf53 10 = .ok (.ireturn, 1) := by decide +kernel
end
section
abbrev vwCl : List vw_C := [(RX0, TX0, 3), (RX1, TX1, 8), (RX2, TX2, 13), (RX3, TX3, 9), (RX4, TX4, 5), (RX5, TX5, 32)]
end
section
abbrev tyl (cI cJ cZ : ClassId) : List (ClassId × FieldType) := [(cI, .int), (cJ, .long), (cZ, .boolean)]
def wH (cI cJ cZ : ClassId) (ad : Nat → Nat) (z : SH) : va_W := [(ad 0, .inr (4, [.ref (ad 1), .ref (ad 2), .ref (ad 3), .ref (ad 4), .int (z.1 0)])), (ad 1, .inr (1, [.ref (ad 5), .ref (ad 6), .ref (ad 7), .ref (ad 8), .ref (ad 9), .ref (ad 10), .ref (ad 11), .int (z.1 1)])), (ad 2, .inr (2, [.ref (ad 12), .ref (ad 13), .ref (ad 14), .ref (ad 15), .ref (ad 16), .ref (ad 17), .ref (ad 18), .ref (ad 19), .ref (ad 20), .ref (ad 21), .ref (ad 22), .int (z.1 2), .int (z.1 3)])), (ad 3, .inr (0, [.ref (ad 2), .ref (ad 23), .ref (ad 24)])), (ad 4, .inr (3, [.ref (ad 25), .ref (ad 26), .ref (ad 27), .ref (ad 28), .ref (ad 29), .ref (ad 30), .ref (ad 31), .ref (ad 32), .int (z.1 4)])), (ad 5, .inl (cJ, 512, .inr (.inl (z.2.2 5)))), (ad 6, .inl (cJ, 512, .inr (.inl (z.2.2 6)))), (ad 7, .inl (cI, 2048, .inl (z.2.1 7))), (ad 8, .inl (cI, 2048, .inl (z.2.1 8))), (ad 9, .inl (cI, 2048, .inl (z.2.1 9))), (ad 10, .inl (cI, 2048, .inl (z.2.1 10))), (ad 11, .inl (cZ, 512, .inl (z.2.1 11))), (ad 12, .inl (cI, 512, .inl (z.2.1 12))), (ad 13, .inl (cI, 512, .inl (z.2.1 13))), (ad 14, .inl (cI, 512, .inl (z.2.1 14))), (ad 15, .inl (cI, 512, .inl (z.2.1 15))), (ad 16, .inl (cI, 512, .inl (z.2.1 16))), (ad 17, .inl (cI, 512, .inl (z.2.1 17))), (ad 18, .inl (cI, 512, .inl (z.2.1 18))), (ad 19, .inl (cI, 512, .inl (z.2.1 19))), (ad 20, .inl (cI, 512, .inl (z.2.1 20))), (ad 21, .inl (cI, 512, .inl (z.2.1 21))), (ad 22, .inl (cI, 512, .inl (z.2.1 22))), (ad 23, .inl (cI, 800, .inl (z.2.1 23))), (ad 24, .inl (cI, 8, .inl (z.2.1 24))), (ad 25, .inl (cI, 300, .inl (z.2.1 25))), (ad 26, .inl (cI, 300, .inl (z.2.1 26))), (ad 27, .inl (cI, 300, .inl (z.2.1 27))), (ad 28, .inl (cI, 300, .inl (z.2.1 28))), (ad 29, .inl (cI, 4, .inl (z.2.1 29))), (ad 30, .inl (cI, 4, .inl (z.2.1 30))), (ad 31, .inl (cI, 4, .inl (z.2.1 31))), (ad 32, .inl (cI, 4, .inl (z.2.1 32)))]
theorem wH_same (cI cJ cZ : ClassId) (ad : Nat → Nat) : wSame (wH cI cJ cZ ad) := fun _ _ => rfl
theorem wH_0 (cI cJ cZ : ClassId) (ad : Nat → Nat) (z : SH) : (wH cI cJ cZ ad z)[0]? = some (ad 0, .inr (4, [.ref (ad 1), .ref (ad 2), .ref (ad 3), .ref (ad 4), .int (z.1 0)])) := rfl
theorem wH_1 (cI cJ cZ : ClassId) (ad : Nat → Nat) (z : SH) : (wH cI cJ cZ ad z)[1]? = some (ad 1, .inr (1, [.ref (ad 5), .ref (ad 6), .ref (ad 7), .ref (ad 8), .ref (ad 9), .ref (ad 10), .ref (ad 11), .int (z.1 1)])) := rfl
theorem wH_2 (cI cJ cZ : ClassId) (ad : Nat → Nat) (z : SH) : (wH cI cJ cZ ad z)[2]? = some (ad 2, .inr (2, [.ref (ad 12), .ref (ad 13), .ref (ad 14), .ref (ad 15), .ref (ad 16), .ref (ad 17), .ref (ad 18), .ref (ad 19), .ref (ad 20), .ref (ad 21), .ref (ad 22), .int (z.1 2), .int (z.1 3)])) := rfl
theorem wH_3 (cI cJ cZ : ClassId) (ad : Nat → Nat) (z : SH) : (wH cI cJ cZ ad z)[3]? = some (ad 3, .inr (0, [.ref (ad 2), .ref (ad 23), .ref (ad 24)])) := rfl
theorem wH_4 (cI cJ cZ : ClassId) (ad : Nat → Nat) (z : SH) : (wH cI cJ cZ ad z)[4]? = some (ad 4, .inr (3, [.ref (ad 25), .ref (ad 26), .ref (ad 27), .ref (ad 28), .ref (ad 29), .ref (ad 30), .ref (ad 31), .ref (ad 32), .int (z.1 4)])) := rfl
theorem wH_5 (cI cJ cZ : ClassId) (ad : Nat → Nat) (z : SH) : (wH cI cJ cZ ad z)[5]? = some (ad 5, .inl (cJ, 512, .inr (.inl (z.2.2 5)))) := rfl
theorem wH_6 (cI cJ cZ : ClassId) (ad : Nat → Nat) (z : SH) : (wH cI cJ cZ ad z)[6]? = some (ad 6, .inl (cJ, 512, .inr (.inl (z.2.2 6)))) := rfl
theorem wH_7 (cI cJ cZ : ClassId) (ad : Nat → Nat) (z : SH) : (wH cI cJ cZ ad z)[7]? = some (ad 7, .inl (cI, 2048, .inl (z.2.1 7))) := rfl
theorem wH_8 (cI cJ cZ : ClassId) (ad : Nat → Nat) (z : SH) : (wH cI cJ cZ ad z)[8]? = some (ad 8, .inl (cI, 2048, .inl (z.2.1 8))) := rfl
theorem wH_9 (cI cJ cZ : ClassId) (ad : Nat → Nat) (z : SH) : (wH cI cJ cZ ad z)[9]? = some (ad 9, .inl (cI, 2048, .inl (z.2.1 9))) := rfl
theorem wH_10 (cI cJ cZ : ClassId) (ad : Nat → Nat) (z : SH) : (wH cI cJ cZ ad z)[10]? = some (ad 10, .inl (cI, 2048, .inl (z.2.1 10))) := rfl
theorem wH_11 (cI cJ cZ : ClassId) (ad : Nat → Nat) (z : SH) : (wH cI cJ cZ ad z)[11]? = some (ad 11, .inl (cZ, 512, .inl (z.2.1 11))) := rfl
theorem wH_12 (cI cJ cZ : ClassId) (ad : Nat → Nat) (z : SH) : (wH cI cJ cZ ad z)[12]? = some (ad 12, .inl (cI, 512, .inl (z.2.1 12))) := rfl
theorem wH_13 (cI cJ cZ : ClassId) (ad : Nat → Nat) (z : SH) : (wH cI cJ cZ ad z)[13]? = some (ad 13, .inl (cI, 512, .inl (z.2.1 13))) := rfl
theorem wH_14 (cI cJ cZ : ClassId) (ad : Nat → Nat) (z : SH) : (wH cI cJ cZ ad z)[14]? = some (ad 14, .inl (cI, 512, .inl (z.2.1 14))) := rfl
theorem wH_15 (cI cJ cZ : ClassId) (ad : Nat → Nat) (z : SH) : (wH cI cJ cZ ad z)[15]? = some (ad 15, .inl (cI, 512, .inl (z.2.1 15))) := rfl
theorem wH_16 (cI cJ cZ : ClassId) (ad : Nat → Nat) (z : SH) : (wH cI cJ cZ ad z)[16]? = some (ad 16, .inl (cI, 512, .inl (z.2.1 16))) := rfl
theorem wH_17 (cI cJ cZ : ClassId) (ad : Nat → Nat) (z : SH) : (wH cI cJ cZ ad z)[17]? = some (ad 17, .inl (cI, 512, .inl (z.2.1 17))) := rfl
theorem wH_18 (cI cJ cZ : ClassId) (ad : Nat → Nat) (z : SH) : (wH cI cJ cZ ad z)[18]? = some (ad 18, .inl (cI, 512, .inl (z.2.1 18))) := rfl
theorem wH_19 (cI cJ cZ : ClassId) (ad : Nat → Nat) (z : SH) : (wH cI cJ cZ ad z)[19]? = some (ad 19, .inl (cI, 512, .inl (z.2.1 19))) := rfl
theorem wH_20 (cI cJ cZ : ClassId) (ad : Nat → Nat) (z : SH) : (wH cI cJ cZ ad z)[20]? = some (ad 20, .inl (cI, 512, .inl (z.2.1 20))) := rfl
theorem wH_21 (cI cJ cZ : ClassId) (ad : Nat → Nat) (z : SH) : (wH cI cJ cZ ad z)[21]? = some (ad 21, .inl (cI, 512, .inl (z.2.1 21))) := rfl
theorem wH_22 (cI cJ cZ : ClassId) (ad : Nat → Nat) (z : SH) : (wH cI cJ cZ ad z)[22]? = some (ad 22, .inl (cI, 512, .inl (z.2.1 22))) := rfl
theorem wH_23 (cI cJ cZ : ClassId) (ad : Nat → Nat) (z : SH) : (wH cI cJ cZ ad z)[23]? = some (ad 23, .inl (cI, 800, .inl (z.2.1 23))) := rfl
theorem wH_24 (cI cJ cZ : ClassId) (ad : Nat → Nat) (z : SH) : (wH cI cJ cZ ad z)[24]? = some (ad 24, .inl (cI, 8, .inl (z.2.1 24))) := rfl
theorem wH_25 (cI cJ cZ : ClassId) (ad : Nat → Nat) (z : SH) : (wH cI cJ cZ ad z)[25]? = some (ad 25, .inl (cI, 300, .inl (z.2.1 25))) := rfl
theorem wH_26 (cI cJ cZ : ClassId) (ad : Nat → Nat) (z : SH) : (wH cI cJ cZ ad z)[26]? = some (ad 26, .inl (cI, 300, .inl (z.2.1 26))) := rfl
theorem wH_27 (cI cJ cZ : ClassId) (ad : Nat → Nat) (z : SH) : (wH cI cJ cZ ad z)[27]? = some (ad 27, .inl (cI, 300, .inl (z.2.1 27))) := rfl
theorem wH_28 (cI cJ cZ : ClassId) (ad : Nat → Nat) (z : SH) : (wH cI cJ cZ ad z)[28]? = some (ad 28, .inl (cI, 300, .inl (z.2.1 28))) := rfl
theorem wH_29 (cI cJ cZ : ClassId) (ad : Nat → Nat) (z : SH) : (wH cI cJ cZ ad z)[29]? = some (ad 29, .inl (cI, 4, .inl (z.2.1 29))) := rfl
theorem wH_30 (cI cJ cZ : ClassId) (ad : Nat → Nat) (z : SH) : (wH cI cJ cZ ad z)[30]? = some (ad 30, .inl (cI, 4, .inl (z.2.1 30))) := rfl
theorem wH_31 (cI cJ cZ : ClassId) (ad : Nat → Nat) (z : SH) : (wH cI cJ cZ ad z)[31]? = some (ad 31, .inl (cI, 4, .inl (z.2.1 31))) := rfl
theorem wH_32 (cI cJ cZ : ClassId) (ad : Nat → Nat) (z : SH) : (wH cI cJ cZ ad z)[32]? = some (ad 32, .inl (cI, 4, .inl (z.2.1 32))) := rfl
theorem wH_s5 (cI cJ cZ : ClassId) (ad : Nat → Nat) (z : SH) (i : Int32) (v : Int64) : (wH cI cJ cZ ad z).set 5 (ad 5, .inl (cJ, 512, .inr (.inl (vp_updL (z.2.2 5) i.toNatClampNeg v)))) = wH cI cJ cZ ad (sl z 5 i v) := rfl
theorem wH_s6 (cI cJ cZ : ClassId) (ad : Nat → Nat) (z : SH) (i : Int32) (v : Int64) : (wH cI cJ cZ ad z).set 6 (ad 6, .inl (cJ, 512, .inr (.inl (vp_updL (z.2.2 6) i.toNatClampNeg v)))) = wH cI cJ cZ ad (sl z 6 i v) := rfl
theorem wH_s7 (cI cJ cZ : ClassId) (ad : Nat → Nat) (z : SH) (i v : Int32) : (wH cI cJ cZ ad z).set 7 (ad 7, .inl (cI, 2048, .inl (upd (z.2.1 7) i.toNatClampNeg v))) = wH cI cJ cZ ad (sa z 7 i v) := rfl
theorem wH_s8 (cI cJ cZ : ClassId) (ad : Nat → Nat) (z : SH) (i v : Int32) : (wH cI cJ cZ ad z).set 8 (ad 8, .inl (cI, 2048, .inl (upd (z.2.1 8) i.toNatClampNeg v))) = wH cI cJ cZ ad (sa z 8 i v) := rfl
theorem wH_s9 (cI cJ cZ : ClassId) (ad : Nat → Nat) (z : SH) (i v : Int32) : (wH cI cJ cZ ad z).set 9 (ad 9, .inl (cI, 2048, .inl (upd (z.2.1 9) i.toNatClampNeg v))) = wH cI cJ cZ ad (sa z 9 i v) := rfl
theorem wH_s10 (cI cJ cZ : ClassId) (ad : Nat → Nat) (z : SH) (i v : Int32) : (wH cI cJ cZ ad z).set 10 (ad 10, .inl (cI, 2048, .inl (upd (z.2.1 10) i.toNatClampNeg v))) = wH cI cJ cZ ad (sa z 10 i v) := rfl
theorem wH_s11 (cI cJ cZ : ClassId) (ad : Nat → Nat) (z : SH) (i v : Int32) : (wH cI cJ cZ ad z).set 11 (ad 11, .inl (cZ, 512, .inl (upd (z.2.1 11) i.toNatClampNeg v))) = wH cI cJ cZ ad (sa z 11 i v) := rfl
theorem wH_s12 (cI cJ cZ : ClassId) (ad : Nat → Nat) (z : SH) (i v : Int32) : (wH cI cJ cZ ad z).set 12 (ad 12, .inl (cI, 512, .inl (upd (z.2.1 12) i.toNatClampNeg v))) = wH cI cJ cZ ad (sa z 12 i v) := rfl
theorem wH_s13 (cI cJ cZ : ClassId) (ad : Nat → Nat) (z : SH) (i v : Int32) : (wH cI cJ cZ ad z).set 13 (ad 13, .inl (cI, 512, .inl (upd (z.2.1 13) i.toNatClampNeg v))) = wH cI cJ cZ ad (sa z 13 i v) := rfl
theorem wH_s14 (cI cJ cZ : ClassId) (ad : Nat → Nat) (z : SH) (i v : Int32) : (wH cI cJ cZ ad z).set 14 (ad 14, .inl (cI, 512, .inl (upd (z.2.1 14) i.toNatClampNeg v))) = wH cI cJ cZ ad (sa z 14 i v) := rfl
theorem wH_s15 (cI cJ cZ : ClassId) (ad : Nat → Nat) (z : SH) (i v : Int32) : (wH cI cJ cZ ad z).set 15 (ad 15, .inl (cI, 512, .inl (upd (z.2.1 15) i.toNatClampNeg v))) = wH cI cJ cZ ad (sa z 15 i v) := rfl
theorem wH_s16 (cI cJ cZ : ClassId) (ad : Nat → Nat) (z : SH) (i v : Int32) : (wH cI cJ cZ ad z).set 16 (ad 16, .inl (cI, 512, .inl (upd (z.2.1 16) i.toNatClampNeg v))) = wH cI cJ cZ ad (sa z 16 i v) := rfl
theorem wH_s17 (cI cJ cZ : ClassId) (ad : Nat → Nat) (z : SH) (i v : Int32) : (wH cI cJ cZ ad z).set 17 (ad 17, .inl (cI, 512, .inl (upd (z.2.1 17) i.toNatClampNeg v))) = wH cI cJ cZ ad (sa z 17 i v) := rfl
theorem wH_s18 (cI cJ cZ : ClassId) (ad : Nat → Nat) (z : SH) (i v : Int32) : (wH cI cJ cZ ad z).set 18 (ad 18, .inl (cI, 512, .inl (upd (z.2.1 18) i.toNatClampNeg v))) = wH cI cJ cZ ad (sa z 18 i v) := rfl
theorem wH_s19 (cI cJ cZ : ClassId) (ad : Nat → Nat) (z : SH) (i v : Int32) : (wH cI cJ cZ ad z).set 19 (ad 19, .inl (cI, 512, .inl (upd (z.2.1 19) i.toNatClampNeg v))) = wH cI cJ cZ ad (sa z 19 i v) := rfl
theorem wH_s20 (cI cJ cZ : ClassId) (ad : Nat → Nat) (z : SH) (i v : Int32) : (wH cI cJ cZ ad z).set 20 (ad 20, .inl (cI, 512, .inl (upd (z.2.1 20) i.toNatClampNeg v))) = wH cI cJ cZ ad (sa z 20 i v) := rfl
theorem wH_s21 (cI cJ cZ : ClassId) (ad : Nat → Nat) (z : SH) (i v : Int32) : (wH cI cJ cZ ad z).set 21 (ad 21, .inl (cI, 512, .inl (upd (z.2.1 21) i.toNatClampNeg v))) = wH cI cJ cZ ad (sa z 21 i v) := rfl
theorem wH_s22 (cI cJ cZ : ClassId) (ad : Nat → Nat) (z : SH) (i v : Int32) : (wH cI cJ cZ ad z).set 22 (ad 22, .inl (cI, 512, .inl (upd (z.2.1 22) i.toNatClampNeg v))) = wH cI cJ cZ ad (sa z 22 i v) := rfl
theorem wH_s23 (cI cJ cZ : ClassId) (ad : Nat → Nat) (z : SH) (i v : Int32) : (wH cI cJ cZ ad z).set 23 (ad 23, .inl (cI, 800, .inl (upd (z.2.1 23) i.toNatClampNeg v))) = wH cI cJ cZ ad (sa z 23 i v) := rfl
theorem wH_s24 (cI cJ cZ : ClassId) (ad : Nat → Nat) (z : SH) (i v : Int32) : (wH cI cJ cZ ad z).set 24 (ad 24, .inl (cI, 8, .inl (upd (z.2.1 24) i.toNatClampNeg v))) = wH cI cJ cZ ad (sa z 24 i v) := rfl
theorem wH_s25 (cI cJ cZ : ClassId) (ad : Nat → Nat) (z : SH) (i v : Int32) : (wH cI cJ cZ ad z).set 25 (ad 25, .inl (cI, 300, .inl (upd (z.2.1 25) i.toNatClampNeg v))) = wH cI cJ cZ ad (sa z 25 i v) := rfl
theorem wH_s26 (cI cJ cZ : ClassId) (ad : Nat → Nat) (z : SH) (i v : Int32) : (wH cI cJ cZ ad z).set 26 (ad 26, .inl (cI, 300, .inl (upd (z.2.1 26) i.toNatClampNeg v))) = wH cI cJ cZ ad (sa z 26 i v) := rfl
theorem wH_s27 (cI cJ cZ : ClassId) (ad : Nat → Nat) (z : SH) (i v : Int32) : (wH cI cJ cZ ad z).set 27 (ad 27, .inl (cI, 300, .inl (upd (z.2.1 27) i.toNatClampNeg v))) = wH cI cJ cZ ad (sa z 27 i v) := rfl
theorem wH_s28 (cI cJ cZ : ClassId) (ad : Nat → Nat) (z : SH) (i v : Int32) : (wH cI cJ cZ ad z).set 28 (ad 28, .inl (cI, 300, .inl (upd (z.2.1 28) i.toNatClampNeg v))) = wH cI cJ cZ ad (sa z 28 i v) := rfl
theorem wH_s29 (cI cJ cZ : ClassId) (ad : Nat → Nat) (z : SH) (i v : Int32) : (wH cI cJ cZ ad z).set 29 (ad 29, .inl (cI, 4, .inl (upd (z.2.1 29) i.toNatClampNeg v))) = wH cI cJ cZ ad (sa z 29 i v) := rfl
theorem wH_s30 (cI cJ cZ : ClassId) (ad : Nat → Nat) (z : SH) (i v : Int32) : (wH cI cJ cZ ad z).set 30 (ad 30, .inl (cI, 4, .inl (upd (z.2.1 30) i.toNatClampNeg v))) = wH cI cJ cZ ad (sa z 30 i v) := rfl
theorem wH_s31 (cI cJ cZ : ClassId) (ad : Nat → Nat) (z : SH) (i v : Int32) : (wH cI cJ cZ ad z).set 31 (ad 31, .inl (cI, 4, .inl (upd (z.2.1 31) i.toNatClampNeg v))) = wH cI cJ cZ ad (sa z 31 i v) := rfl
theorem wH_s32 (cI cJ cZ : ClassId) (ad : Nat → Nat) (z : SH) (i v : Int32) : (wH cI cJ cZ ad z).set 32 (ad 32, .inl (cI, 4, .inl (upd (z.2.1 32) i.toNatClampNeg v))) = wH cI cJ cZ ad (sa z 32 i v) := rfl
theorem wH_si0 (cI cJ cZ : ClassId) (ad : Nat → Nat) (z : SH) (v : Int32) : (wH cI cJ cZ ad z).set 0 (ad 0, .inr (4, ([.ref (ad 1), .ref (ad 2), .ref (ad 3), .ref (ad 4), .int (z.1 0)] : List Value).set 4 (.int v))) = wH cI cJ cZ ad (si z 0 v) := rfl
theorem wH_si1 (cI cJ cZ : ClassId) (ad : Nat → Nat) (z : SH) (v : Int32) : (wH cI cJ cZ ad z).set 1 (ad 1, .inr (1, ([.ref (ad 5), .ref (ad 6), .ref (ad 7), .ref (ad 8), .ref (ad 9), .ref (ad 10), .ref (ad 11), .int (z.1 1)] : List Value).set 7 (.int v))) = wH cI cJ cZ ad (si z 1 v) := rfl
theorem wH_si2 (cI cJ cZ : ClassId) (ad : Nat → Nat) (z : SH) (v : Int32) : (wH cI cJ cZ ad z).set 2 (ad 2, .inr (2, ([.ref (ad 12), .ref (ad 13), .ref (ad 14), .ref (ad 15), .ref (ad 16), .ref (ad 17), .ref (ad 18), .ref (ad 19), .ref (ad 20), .ref (ad 21), .ref (ad 22), .int (z.1 2), .int (z.1 3)] : List Value).set 11 (.int v))) = wH cI cJ cZ ad (si z 2 v) := rfl
theorem wH_si3 (cI cJ cZ : ClassId) (ad : Nat → Nat) (z : SH) (v : Int32) : (wH cI cJ cZ ad z).set 2 (ad 2, .inr (2, ([.ref (ad 12), .ref (ad 13), .ref (ad 14), .ref (ad 15), .ref (ad 16), .ref (ad 17), .ref (ad 18), .ref (ad 19), .ref (ad 20), .ref (ad 21), .ref (ad 22), .int (z.1 2), .int (z.1 3)] : List Value).set 12 (.int v))) = wH cI cJ cZ ad (si z 3 v) := rfl
theorem wH_si4 (cI cJ cZ : ClassId) (ad : Nat → Nat) (z : SH) (v : Int32) : (wH cI cJ cZ ad z).set 4 (ad 4, .inr (3, ([.ref (ad 25), .ref (ad 26), .ref (ad 27), .ref (ad 28), .ref (ad 29), .ref (ad 30), .ref (ad 31), .ref (ad 32), .int (z.1 4)] : List Value).set 8 (.int v))) = wH cI cJ cZ ad (si z 4 v) := rfl
def wM (cI cJ cZ : ClassId) (ad : Nat → Nat) (z : SH) : va_W := [(ad 0, .inr (5, [.int (z.1 0), .int (z.1 1), .ref (ad 1), .ref (ad 2), .ref (ad 3), .ref (ad 4), .ref (ad 5), .ref (ad 6), .ref (ad 7), .int (z.1 2), .ref (ad 8), .ref (ad 9), .ref (ad 10), .ref (ad 11), .ref (ad 12), .ref (ad 13), .ref (ad 14), .ref (ad 15), .ref (ad 16), .ref (ad 17), .ref (ad 18), .ref (ad 19), .int (z.1 3), .ref (ad 20), .ref (ad 21), .ref (ad 22), .int (z.1 4), .ref (ad 23), .ref (ad 24), .ref (ad 25), .ref (ad 26), .ref (ad 27)])), (ad 1, .inl (cJ, 512, .inr (.inl (z.2.2 1)))), (ad 2, .inl (cJ, 512, .inr (.inl (z.2.2 2)))), (ad 3, .inl (cI, 2048, .inl (z.2.1 3))), (ad 4, .inl (cI, 2048, .inl (z.2.1 4))), (ad 5, .inl (cI, 2048, .inl (z.2.1 5))), (ad 6, .inl (cI, 2048, .inl (z.2.1 6))), (ad 7, .inl (cZ, 512, .inl (z.2.1 7))), (ad 8, .inl (cI, 520, .inl (z.2.1 8))), (ad 9, .inl (cI, 520, .inl (z.2.1 9))), (ad 10, .inl (cI, 520, .inl (z.2.1 10))), (ad 11, .inl (cI, 520, .inl (z.2.1 11))), (ad 12, .inl (cI, 520, .inl (z.2.1 12))), (ad 13, .inl (cI, 520, .inl (z.2.1 13))), (ad 14, .inl (cI, 520, .inl (z.2.1 14))), (ad 15, .inl (cI, 520, .inl (z.2.1 15))), (ad 16, .inl (cI, 520, .inl (z.2.1 16))), (ad 17, .inl (cI, 520, .inl (z.2.1 17))), (ad 18, .inl (cI, 520, .inl (z.2.1 18))), (ad 19, .inl (cI, 520, .inl (z.2.1 19))), (ad 20, .inl (cI, 520, .inl (z.2.1 20))), (ad 21, .inl (cI, 520, .inl (z.2.1 21))), (ad 22, .inl (cI, 520, .inl (z.2.1 22))), (ad 23, .inl (cI, 1200, .inl (z.2.1 23))), (ad 24, .inl (cI, 4, .inl (z.2.1 24))), (ad 25, .inl (cI, 4, .inl (z.2.1 25))), (ad 26, .inl (cI, 4, .inl (z.2.1 26))), (ad 27, .inl (cI, 4, .inl (z.2.1 27)))]
theorem wM_same (cI cJ cZ : ClassId) (ad : Nat → Nat) : wSame (wM cI cJ cZ ad) := fun _ _ => rfl
theorem wM_0 (cI cJ cZ : ClassId) (ad : Nat → Nat) (z : SH) : (wM cI cJ cZ ad z)[0]? = some (ad 0, .inr (5, [.int (z.1 0), .int (z.1 1), .ref (ad 1), .ref (ad 2), .ref (ad 3), .ref (ad 4), .ref (ad 5), .ref (ad 6), .ref (ad 7), .int (z.1 2), .ref (ad 8), .ref (ad 9), .ref (ad 10), .ref (ad 11), .ref (ad 12), .ref (ad 13), .ref (ad 14), .ref (ad 15), .ref (ad 16), .ref (ad 17), .ref (ad 18), .ref (ad 19), .int (z.1 3), .ref (ad 20), .ref (ad 21), .ref (ad 22), .int (z.1 4), .ref (ad 23), .ref (ad 24), .ref (ad 25), .ref (ad 26), .ref (ad 27)])) := rfl
theorem wM_1 (cI cJ cZ : ClassId) (ad : Nat → Nat) (z : SH) : (wM cI cJ cZ ad z)[1]? = some (ad 1, .inl (cJ, 512, .inr (.inl (z.2.2 1)))) := rfl
theorem wM_2 (cI cJ cZ : ClassId) (ad : Nat → Nat) (z : SH) : (wM cI cJ cZ ad z)[2]? = some (ad 2, .inl (cJ, 512, .inr (.inl (z.2.2 2)))) := rfl
theorem wM_3 (cI cJ cZ : ClassId) (ad : Nat → Nat) (z : SH) : (wM cI cJ cZ ad z)[3]? = some (ad 3, .inl (cI, 2048, .inl (z.2.1 3))) := rfl
theorem wM_4 (cI cJ cZ : ClassId) (ad : Nat → Nat) (z : SH) : (wM cI cJ cZ ad z)[4]? = some (ad 4, .inl (cI, 2048, .inl (z.2.1 4))) := rfl
theorem wM_5 (cI cJ cZ : ClassId) (ad : Nat → Nat) (z : SH) : (wM cI cJ cZ ad z)[5]? = some (ad 5, .inl (cI, 2048, .inl (z.2.1 5))) := rfl
theorem wM_6 (cI cJ cZ : ClassId) (ad : Nat → Nat) (z : SH) : (wM cI cJ cZ ad z)[6]? = some (ad 6, .inl (cI, 2048, .inl (z.2.1 6))) := rfl
theorem wM_7 (cI cJ cZ : ClassId) (ad : Nat → Nat) (z : SH) : (wM cI cJ cZ ad z)[7]? = some (ad 7, .inl (cZ, 512, .inl (z.2.1 7))) := rfl
theorem wM_8 (cI cJ cZ : ClassId) (ad : Nat → Nat) (z : SH) : (wM cI cJ cZ ad z)[8]? = some (ad 8, .inl (cI, 520, .inl (z.2.1 8))) := rfl
theorem wM_9 (cI cJ cZ : ClassId) (ad : Nat → Nat) (z : SH) : (wM cI cJ cZ ad z)[9]? = some (ad 9, .inl (cI, 520, .inl (z.2.1 9))) := rfl
theorem wM_10 (cI cJ cZ : ClassId) (ad : Nat → Nat) (z : SH) : (wM cI cJ cZ ad z)[10]? = some (ad 10, .inl (cI, 520, .inl (z.2.1 10))) := rfl
theorem wM_11 (cI cJ cZ : ClassId) (ad : Nat → Nat) (z : SH) : (wM cI cJ cZ ad z)[11]? = some (ad 11, .inl (cI, 520, .inl (z.2.1 11))) := rfl
theorem wM_12 (cI cJ cZ : ClassId) (ad : Nat → Nat) (z : SH) : (wM cI cJ cZ ad z)[12]? = some (ad 12, .inl (cI, 520, .inl (z.2.1 12))) := rfl
theorem wM_13 (cI cJ cZ : ClassId) (ad : Nat → Nat) (z : SH) : (wM cI cJ cZ ad z)[13]? = some (ad 13, .inl (cI, 520, .inl (z.2.1 13))) := rfl
theorem wM_14 (cI cJ cZ : ClassId) (ad : Nat → Nat) (z : SH) : (wM cI cJ cZ ad z)[14]? = some (ad 14, .inl (cI, 520, .inl (z.2.1 14))) := rfl
theorem wM_15 (cI cJ cZ : ClassId) (ad : Nat → Nat) (z : SH) : (wM cI cJ cZ ad z)[15]? = some (ad 15, .inl (cI, 520, .inl (z.2.1 15))) := rfl
theorem wM_16 (cI cJ cZ : ClassId) (ad : Nat → Nat) (z : SH) : (wM cI cJ cZ ad z)[16]? = some (ad 16, .inl (cI, 520, .inl (z.2.1 16))) := rfl
theorem wM_17 (cI cJ cZ : ClassId) (ad : Nat → Nat) (z : SH) : (wM cI cJ cZ ad z)[17]? = some (ad 17, .inl (cI, 520, .inl (z.2.1 17))) := rfl
theorem wM_18 (cI cJ cZ : ClassId) (ad : Nat → Nat) (z : SH) : (wM cI cJ cZ ad z)[18]? = some (ad 18, .inl (cI, 520, .inl (z.2.1 18))) := rfl
theorem wM_19 (cI cJ cZ : ClassId) (ad : Nat → Nat) (z : SH) : (wM cI cJ cZ ad z)[19]? = some (ad 19, .inl (cI, 520, .inl (z.2.1 19))) := rfl
theorem wM_20 (cI cJ cZ : ClassId) (ad : Nat → Nat) (z : SH) : (wM cI cJ cZ ad z)[20]? = some (ad 20, .inl (cI, 520, .inl (z.2.1 20))) := rfl
theorem wM_21 (cI cJ cZ : ClassId) (ad : Nat → Nat) (z : SH) : (wM cI cJ cZ ad z)[21]? = some (ad 21, .inl (cI, 520, .inl (z.2.1 21))) := rfl
theorem wM_22 (cI cJ cZ : ClassId) (ad : Nat → Nat) (z : SH) : (wM cI cJ cZ ad z)[22]? = some (ad 22, .inl (cI, 520, .inl (z.2.1 22))) := rfl
theorem wM_23 (cI cJ cZ : ClassId) (ad : Nat → Nat) (z : SH) : (wM cI cJ cZ ad z)[23]? = some (ad 23, .inl (cI, 1200, .inl (z.2.1 23))) := rfl
theorem wM_24 (cI cJ cZ : ClassId) (ad : Nat → Nat) (z : SH) : (wM cI cJ cZ ad z)[24]? = some (ad 24, .inl (cI, 4, .inl (z.2.1 24))) := rfl
theorem wM_25 (cI cJ cZ : ClassId) (ad : Nat → Nat) (z : SH) : (wM cI cJ cZ ad z)[25]? = some (ad 25, .inl (cI, 4, .inl (z.2.1 25))) := rfl
theorem wM_26 (cI cJ cZ : ClassId) (ad : Nat → Nat) (z : SH) : (wM cI cJ cZ ad z)[26]? = some (ad 26, .inl (cI, 4, .inl (z.2.1 26))) := rfl
theorem wM_27 (cI cJ cZ : ClassId) (ad : Nat → Nat) (z : SH) : (wM cI cJ cZ ad z)[27]? = some (ad 27, .inl (cI, 4, .inl (z.2.1 27))) := rfl
theorem wM_s1 (cI cJ cZ : ClassId) (ad : Nat → Nat) (z : SH) (i : Int32) (v : Int64) : (wM cI cJ cZ ad z).set 1 (ad 1, .inl (cJ, 512, .inr (.inl (vp_updL (z.2.2 1) i.toNatClampNeg v)))) = wM cI cJ cZ ad (sl z 1 i v) := rfl
theorem wM_s2 (cI cJ cZ : ClassId) (ad : Nat → Nat) (z : SH) (i : Int32) (v : Int64) : (wM cI cJ cZ ad z).set 2 (ad 2, .inl (cJ, 512, .inr (.inl (vp_updL (z.2.2 2) i.toNatClampNeg v)))) = wM cI cJ cZ ad (sl z 2 i v) := rfl
theorem wM_s3 (cI cJ cZ : ClassId) (ad : Nat → Nat) (z : SH) (i v : Int32) : (wM cI cJ cZ ad z).set 3 (ad 3, .inl (cI, 2048, .inl (upd (z.2.1 3) i.toNatClampNeg v))) = wM cI cJ cZ ad (sa z 3 i v) := rfl
theorem wM_s4 (cI cJ cZ : ClassId) (ad : Nat → Nat) (z : SH) (i v : Int32) : (wM cI cJ cZ ad z).set 4 (ad 4, .inl (cI, 2048, .inl (upd (z.2.1 4) i.toNatClampNeg v))) = wM cI cJ cZ ad (sa z 4 i v) := rfl
theorem wM_s5 (cI cJ cZ : ClassId) (ad : Nat → Nat) (z : SH) (i v : Int32) : (wM cI cJ cZ ad z).set 5 (ad 5, .inl (cI, 2048, .inl (upd (z.2.1 5) i.toNatClampNeg v))) = wM cI cJ cZ ad (sa z 5 i v) := rfl
theorem wM_s6 (cI cJ cZ : ClassId) (ad : Nat → Nat) (z : SH) (i v : Int32) : (wM cI cJ cZ ad z).set 6 (ad 6, .inl (cI, 2048, .inl (upd (z.2.1 6) i.toNatClampNeg v))) = wM cI cJ cZ ad (sa z 6 i v) := rfl
theorem wM_s7 (cI cJ cZ : ClassId) (ad : Nat → Nat) (z : SH) (i v : Int32) : (wM cI cJ cZ ad z).set 7 (ad 7, .inl (cZ, 512, .inl (upd (z.2.1 7) i.toNatClampNeg v))) = wM cI cJ cZ ad (sa z 7 i v) := rfl
theorem wM_s8 (cI cJ cZ : ClassId) (ad : Nat → Nat) (z : SH) (i v : Int32) : (wM cI cJ cZ ad z).set 8 (ad 8, .inl (cI, 520, .inl (upd (z.2.1 8) i.toNatClampNeg v))) = wM cI cJ cZ ad (sa z 8 i v) := rfl
theorem wM_s9 (cI cJ cZ : ClassId) (ad : Nat → Nat) (z : SH) (i v : Int32) : (wM cI cJ cZ ad z).set 9 (ad 9, .inl (cI, 520, .inl (upd (z.2.1 9) i.toNatClampNeg v))) = wM cI cJ cZ ad (sa z 9 i v) := rfl
theorem wM_s10 (cI cJ cZ : ClassId) (ad : Nat → Nat) (z : SH) (i v : Int32) : (wM cI cJ cZ ad z).set 10 (ad 10, .inl (cI, 520, .inl (upd (z.2.1 10) i.toNatClampNeg v))) = wM cI cJ cZ ad (sa z 10 i v) := rfl
theorem wM_s11 (cI cJ cZ : ClassId) (ad : Nat → Nat) (z : SH) (i v : Int32) : (wM cI cJ cZ ad z).set 11 (ad 11, .inl (cI, 520, .inl (upd (z.2.1 11) i.toNatClampNeg v))) = wM cI cJ cZ ad (sa z 11 i v) := rfl
theorem wM_s12 (cI cJ cZ : ClassId) (ad : Nat → Nat) (z : SH) (i v : Int32) : (wM cI cJ cZ ad z).set 12 (ad 12, .inl (cI, 520, .inl (upd (z.2.1 12) i.toNatClampNeg v))) = wM cI cJ cZ ad (sa z 12 i v) := rfl
theorem wM_s13 (cI cJ cZ : ClassId) (ad : Nat → Nat) (z : SH) (i v : Int32) : (wM cI cJ cZ ad z).set 13 (ad 13, .inl (cI, 520, .inl (upd (z.2.1 13) i.toNatClampNeg v))) = wM cI cJ cZ ad (sa z 13 i v) := rfl
theorem wM_s14 (cI cJ cZ : ClassId) (ad : Nat → Nat) (z : SH) (i v : Int32) : (wM cI cJ cZ ad z).set 14 (ad 14, .inl (cI, 520, .inl (upd (z.2.1 14) i.toNatClampNeg v))) = wM cI cJ cZ ad (sa z 14 i v) := rfl
theorem wM_s15 (cI cJ cZ : ClassId) (ad : Nat → Nat) (z : SH) (i v : Int32) : (wM cI cJ cZ ad z).set 15 (ad 15, .inl (cI, 520, .inl (upd (z.2.1 15) i.toNatClampNeg v))) = wM cI cJ cZ ad (sa z 15 i v) := rfl
theorem wM_s16 (cI cJ cZ : ClassId) (ad : Nat → Nat) (z : SH) (i v : Int32) : (wM cI cJ cZ ad z).set 16 (ad 16, .inl (cI, 520, .inl (upd (z.2.1 16) i.toNatClampNeg v))) = wM cI cJ cZ ad (sa z 16 i v) := rfl
theorem wM_s17 (cI cJ cZ : ClassId) (ad : Nat → Nat) (z : SH) (i v : Int32) : (wM cI cJ cZ ad z).set 17 (ad 17, .inl (cI, 520, .inl (upd (z.2.1 17) i.toNatClampNeg v))) = wM cI cJ cZ ad (sa z 17 i v) := rfl
theorem wM_s18 (cI cJ cZ : ClassId) (ad : Nat → Nat) (z : SH) (i v : Int32) : (wM cI cJ cZ ad z).set 18 (ad 18, .inl (cI, 520, .inl (upd (z.2.1 18) i.toNatClampNeg v))) = wM cI cJ cZ ad (sa z 18 i v) := rfl
theorem wM_s19 (cI cJ cZ : ClassId) (ad : Nat → Nat) (z : SH) (i v : Int32) : (wM cI cJ cZ ad z).set 19 (ad 19, .inl (cI, 520, .inl (upd (z.2.1 19) i.toNatClampNeg v))) = wM cI cJ cZ ad (sa z 19 i v) := rfl
theorem wM_s20 (cI cJ cZ : ClassId) (ad : Nat → Nat) (z : SH) (i v : Int32) : (wM cI cJ cZ ad z).set 20 (ad 20, .inl (cI, 520, .inl (upd (z.2.1 20) i.toNatClampNeg v))) = wM cI cJ cZ ad (sa z 20 i v) := rfl
theorem wM_s21 (cI cJ cZ : ClassId) (ad : Nat → Nat) (z : SH) (i v : Int32) : (wM cI cJ cZ ad z).set 21 (ad 21, .inl (cI, 520, .inl (upd (z.2.1 21) i.toNatClampNeg v))) = wM cI cJ cZ ad (sa z 21 i v) := rfl
theorem wM_s22 (cI cJ cZ : ClassId) (ad : Nat → Nat) (z : SH) (i v : Int32) : (wM cI cJ cZ ad z).set 22 (ad 22, .inl (cI, 520, .inl (upd (z.2.1 22) i.toNatClampNeg v))) = wM cI cJ cZ ad (sa z 22 i v) := rfl
theorem wM_s23 (cI cJ cZ : ClassId) (ad : Nat → Nat) (z : SH) (i v : Int32) : (wM cI cJ cZ ad z).set 23 (ad 23, .inl (cI, 1200, .inl (upd (z.2.1 23) i.toNatClampNeg v))) = wM cI cJ cZ ad (sa z 23 i v) := rfl
theorem wM_s24 (cI cJ cZ : ClassId) (ad : Nat → Nat) (z : SH) (i v : Int32) : (wM cI cJ cZ ad z).set 24 (ad 24, .inl (cI, 4, .inl (upd (z.2.1 24) i.toNatClampNeg v))) = wM cI cJ cZ ad (sa z 24 i v) := rfl
theorem wM_s25 (cI cJ cZ : ClassId) (ad : Nat → Nat) (z : SH) (i v : Int32) : (wM cI cJ cZ ad z).set 25 (ad 25, .inl (cI, 4, .inl (upd (z.2.1 25) i.toNatClampNeg v))) = wM cI cJ cZ ad (sa z 25 i v) := rfl
theorem wM_s26 (cI cJ cZ : ClassId) (ad : Nat → Nat) (z : SH) (i v : Int32) : (wM cI cJ cZ ad z).set 26 (ad 26, .inl (cI, 4, .inl (upd (z.2.1 26) i.toNatClampNeg v))) = wM cI cJ cZ ad (sa z 26 i v) := rfl
theorem wM_s27 (cI cJ cZ : ClassId) (ad : Nat → Nat) (z : SH) (i v : Int32) : (wM cI cJ cZ ad z).set 27 (ad 27, .inl (cI, 4, .inl (upd (z.2.1 27) i.toNatClampNeg v))) = wM cI cJ cZ ad (sa z 27 i v) := rfl
theorem wM_si0 (cI cJ cZ : ClassId) (ad : Nat → Nat) (z : SH) (v : Int32) : (wM cI cJ cZ ad z).set 0 (ad 0, .inr (5, ([.int (z.1 0), .int (z.1 1), .ref (ad 1), .ref (ad 2), .ref (ad 3), .ref (ad 4), .ref (ad 5), .ref (ad 6), .ref (ad 7), .int (z.1 2), .ref (ad 8), .ref (ad 9), .ref (ad 10), .ref (ad 11), .ref (ad 12), .ref (ad 13), .ref (ad 14), .ref (ad 15), .ref (ad 16), .ref (ad 17), .ref (ad 18), .ref (ad 19), .int (z.1 3), .ref (ad 20), .ref (ad 21), .ref (ad 22), .int (z.1 4), .ref (ad 23), .ref (ad 24), .ref (ad 25), .ref (ad 26), .ref (ad 27)] : List Value).set 0 (.int v))) = wM cI cJ cZ ad (si z 0 v) := rfl
theorem wM_si1 (cI cJ cZ : ClassId) (ad : Nat → Nat) (z : SH) (v : Int32) : (wM cI cJ cZ ad z).set 0 (ad 0, .inr (5, ([.int (z.1 0), .int (z.1 1), .ref (ad 1), .ref (ad 2), .ref (ad 3), .ref (ad 4), .ref (ad 5), .ref (ad 6), .ref (ad 7), .int (z.1 2), .ref (ad 8), .ref (ad 9), .ref (ad 10), .ref (ad 11), .ref (ad 12), .ref (ad 13), .ref (ad 14), .ref (ad 15), .ref (ad 16), .ref (ad 17), .ref (ad 18), .ref (ad 19), .int (z.1 3), .ref (ad 20), .ref (ad 21), .ref (ad 22), .int (z.1 4), .ref (ad 23), .ref (ad 24), .ref (ad 25), .ref (ad 26), .ref (ad 27)] : List Value).set 1 (.int v))) = wM cI cJ cZ ad (si z 1 v) := rfl
theorem wM_si2 (cI cJ cZ : ClassId) (ad : Nat → Nat) (z : SH) (v : Int32) : (wM cI cJ cZ ad z).set 0 (ad 0, .inr (5, ([.int (z.1 0), .int (z.1 1), .ref (ad 1), .ref (ad 2), .ref (ad 3), .ref (ad 4), .ref (ad 5), .ref (ad 6), .ref (ad 7), .int (z.1 2), .ref (ad 8), .ref (ad 9), .ref (ad 10), .ref (ad 11), .ref (ad 12), .ref (ad 13), .ref (ad 14), .ref (ad 15), .ref (ad 16), .ref (ad 17), .ref (ad 18), .ref (ad 19), .int (z.1 3), .ref (ad 20), .ref (ad 21), .ref (ad 22), .int (z.1 4), .ref (ad 23), .ref (ad 24), .ref (ad 25), .ref (ad 26), .ref (ad 27)] : List Value).set 9 (.int v))) = wM cI cJ cZ ad (si z 2 v) := rfl
theorem wM_si3 (cI cJ cZ : ClassId) (ad : Nat → Nat) (z : SH) (v : Int32) : (wM cI cJ cZ ad z).set 0 (ad 0, .inr (5, ([.int (z.1 0), .int (z.1 1), .ref (ad 1), .ref (ad 2), .ref (ad 3), .ref (ad 4), .ref (ad 5), .ref (ad 6), .ref (ad 7), .int (z.1 2), .ref (ad 8), .ref (ad 9), .ref (ad 10), .ref (ad 11), .ref (ad 12), .ref (ad 13), .ref (ad 14), .ref (ad 15), .ref (ad 16), .ref (ad 17), .ref (ad 18), .ref (ad 19), .int (z.1 3), .ref (ad 20), .ref (ad 21), .ref (ad 22), .int (z.1 4), .ref (ad 23), .ref (ad 24), .ref (ad 25), .ref (ad 26), .ref (ad 27)] : List Value).set 22 (.int v))) = wM cI cJ cZ ad (si z 3 v) := rfl
theorem wM_si4 (cI cJ cZ : ClassId) (ad : Nat → Nat) (z : SH) (v : Int32) : (wM cI cJ cZ ad z).set 0 (ad 0, .inr (5, ([.int (z.1 0), .int (z.1 1), .ref (ad 1), .ref (ad 2), .ref (ad 3), .ref (ad 4), .ref (ad 5), .ref (ad 6), .ref (ad 7), .int (z.1 2), .ref (ad 8), .ref (ad 9), .ref (ad 10), .ref (ad 11), .ref (ad 12), .ref (ad 13), .ref (ad 14), .ref (ad 15), .ref (ad 16), .ref (ad 17), .ref (ad 18), .ref (ad 19), .int (z.1 3), .ref (ad 20), .ref (ad 21), .ref (ad 22), .int (z.1 4), .ref (ad 23), .ref (ad 24), .ref (ad 25), .ref (ad 26), .ref (ad 27)] : List Value).set 26 (.int v))) = wM cI cJ cZ ad (si z 4 v) := rfl
end
section
/-! ===== 'throw new NoSuchElementException("text")': its constructor hands on by entry 13 of its pool, so the kit's law for chains of entry 7 does not fit; the same walk, its first link taken by hand ===== -/
def nsE : String := "java/util/NoSuchElementException"
def nsR : String := "java/lang/RuntimeException"
def nsB : ByteArray := ⟨#[0x2a, 0x2b, 0xb7, 0x00, 0x0d, 0xb1]⟩
theorem nsB_0 : decode nsB 0 = .ok (.aload_n 0, 1) := by decide +kernel
theorem nsB_1 : decode nsB 1 = .ok (.aload_n 1, 1) := by decide +kernel
theorem nsB_2 : decode nsB 2 = .ok (.invokespecial 13, 3) := by decide +kernel
theorem nsB_5 : decode nsB 5 = .ok (.return_, 1) := by decide +kernel
def nsChain : List Cond := Bundle.passSAtoms nsE nsR 13 nsB ++ Bundle.chainSAtoms nsR ["java/lang/Exception"]
def nsTail (own : String) (ic : Nat) : List Cond := [.methodLink own ic (Bundle.initS nsE), .instantiable nsE 6, .castable nsE nsE, .selects nsE Bundle.tFill0 Bundle.tFill0, .selects nsE Bundle.tFill Bundle.tFill,
   .lays nsE Bundle.tN "cause" "Ljava/lang/Throwable;", .lays nsE Bundle.tN "stackTrace" Bundle.steD, .lays nsE Bundle.tN "suppressedExceptions" Bundle.listD, .lays nsE Bundle.tN "detailMessage" "Ljava/lang/String;",
   .isRef (.static Bundle.tN "UNASSIGNED_STACK" Bundle.steD), .isRef (.static Bundle.tN "SUPPRESSED_SENTINEL" Bundle.listD),
   .fieldLink Bundle.tN 198 Bundle.tN "backtrace" "Ljava/lang/Object;", .lays Bundle.tN Bundle.tN "backtrace" "Ljava/lang/Object;", .lays nsE Bundle.tN "backtrace" "Ljava/lang/Object;"]
def nsAt (own : String) (ic : Nat) : List Cond := Bundle.throwableAtoms ++ (Bundle.throwableSAtoms ++ (nsChain ++ nsTail own ic))
def nsAtS (own : String) (ic : Nat) : List Cond := (nsAt own ic).filter vx_no
section NSX
variable {p : Program} {l : Launch} {e : Env} {R : Room} {s : State} {m : MethodId} {args : Array Value} {below : List Frame} {meth : Method} {c : Code} {W : State} {locs : List Loc} {cells slots : Nat}
set_option maxHeartbeats 4000000 in
theorem ns_ctor (X : Stand p l e R s m args below meth c W locs cells slots) (hexec : p.tables.exec = Jvm.exec) (htr : e.platform.stackTraces = false) {own : String} {ic : Nat} (hown : s.vm.findClass own = some m.cls) (h : ∀ x ∈ nsAt own ic, x.before args s = true)
    (hlocs : ∀ x ∈ locs, ∀ cell, s.heap[x.base]? = some cell → cell.vm.isStatics = false)
    {a : Addr} {cX : ClassId} {kX : Class} (hfX : s.vm.findClass nsE = some cX) (hkX : s.vm.classes[cX]? = some kX) (hcell : W.heap[a]? = some (freshCell cX kX)) (hnew : s.heap.size ≤ a) {msg : Value} (hmsg : msg.isRef = true)
    {g : JFrame} (hg : g.method = m) (hsize : g.locals.size = c.maxLocals) (hlocked : g.locked = none) (hentered : g.entered = []) {rest : List Value} (hstack : g.stack = msg :: .ref a :: .ref a :: rest)
    (hd6 : decode c.code g.pc = .ok (.invokespecial ic, 3)) (hd9 : decode c.code (g.pc + 3) = .ok (.athrow, 1)) (hout : ∀ x ∈ c.exceptionTable.toList, covers x (g.pc + 3) = false)
    (hRframes : 5 < R.frames) (hRlocals : 2 * g.monitorRoom + ((Value.ref a :: rest).map fun v => v.category).sum + (13 * (2 + 1) + 42) ≤ R.locals) (hlocks : meth.locks = false) :
    ∃ U : State, Steps p.tables e below (W.setTop g) U ∧ U.status = .running ∧ Ended U below (.threw a) ∧ s.WarmedH U.vm ∧ s.sameButNew ({ U with vm := s.vm } : State) locs cells slots ∧ ∃ ce, U.heap[a]? = some ce ∧ ce.vm = .none ∧ s.vm.findClass nsE = some ce.cls := by
  have howns : e.platform.frameOwnsMonitors = true := by rw [X.admits.platform]
  have hfin : e.platform.finalization = false := by rw [X.admits.platform]
  have hpl : e.platform.magicAccessors = ({} : Platform).magicAccessors := by rw [X.admits.platform]
  have hT : ∀ x ∈ nsTail own ic, x.before args s = true := fun x hx => h x (List.mem_append_right _ (List.mem_append_right _ (List.mem_append_right _ hx)))
  have hC : ∀ x ∈ nsChain, x.before args s = true := fun x hx => h x (List.mem_append_right _ (List.mem_append_right _ (List.mem_append_left _ hx)))
  have tw : ∀ x, x ∈ nsTail own ic → x.holds args s none s [] = true := fun x hx => hT x hx
  obtain ⟨T, Z0, L, -, Y⟩ := ThrowableC.of_atoms (args := args) howns hfin hpl (fun x hx => h x (List.mem_append_left _ hx))
  obtain ⟨Z, M, LZ, LM, hnZ⟩ := Init0T.ofS_atoms (args := args) hpl L Y (fun x hx => h x (List.mem_append_right _ (List.mem_append_left _ hx)))
  obtain ⟨P1, L1, hP1m, hsup1⟩ := PassC.ofS_atoms (args := args) (s := s) hpl (X := nsE) (Y := nsR) (index := 13) (bytes := nsB) (by decide +kernel) (by decide +kernel) nsB_0 nsB_1 nsB_2 nsB_5 (fun x hx => hC x (List.mem_append_left _ hx))
  obtain ⟨P2, Ps, hlen, L2, hL, hm2, hsup2, hpass⟩ := Bundle.chainS (args := args) hpl hnZ ["java/lang/Exception"] nsR (by decide +kernel) (by decide +kernel) (fun x hx => hC x (List.mem_append_right _ hx))
  have hlink1 : P1.sup = P2.m := Option.some.inj (hsup1.symm.trans hm2)
  have hfound : s.vm.findClass nsE = some P1.m.cls := findClass_of_methodNamed hP1m
  cases Option.some.inj (hfX.symm.trans hfound)
  obtain ⟨c1, kX', hc1, hk, hord, -, -, hn6⟩ := Cond.instantiable_spec (tw (.instantiable nsE 6) (by simp [nsTail]))
  cases Option.some.inj (hc1.symm.trans hfound)
  cases Option.some.inj (hkX.symm.trans hk)
  have hsel0 : selectMethod e.platform s.vm P1.m.cls T.fill0 = .method T.fill0 := by
    obtain ⟨c2, r2, m2, q1, q2, q3, q4, -⟩ := Cond.selects_spec (tw (.selects nsE Bundle.tFill0 Bundle.tFill0) (by simp [nsTail]))
    cases Option.some.inj (q1.symm.trans hfound)
    cases Option.some.inj (q2.symm.trans (State.methodFound?_of_named Y.fill0 (by decide)))
    cases Option.some.inj (q3.symm.trans Y.fill0)
    rw [Launch.admits_selectMethod X.admits]; exact q4
  have hselF : selectMethod e.platform s.vm P1.m.cls T.fill = .method T.fill := by
    obtain ⟨c2, r2, m2, q1, q2, q3, q4, -⟩ := Cond.selects_spec (tw (.selects nsE Bundle.tFill Bundle.tFill) (by simp [nsTail]))
    cases Option.some.inj (q1.symm.trans hfound)
    cases Option.some.inj (q2.symm.trans (State.methodFound?_of_named Y.fill (by decide)))
    cases Option.some.inj (q3.symm.trans Y.fill)
    rw [Launch.admits_selectMethod X.admits]; exact q4
  obtain ⟨cellS0, hcS0, hiss⟩ := Y.statics
  obtain ⟨u0, hu0⟩ := Cond.staticRefV Y.unassigned L.unassignedStatic L.statics hcS0 hiss (tw (.isRef (.static Bundle.tN "UNASSIGNED_STACK" Bundle.steD)) (by simp [nsTail]))
  obtain ⟨sen, hsen⟩ := Cond.staticRefV Y.sentinel L.sentinelStatic L.statics hcS0 hiss (tw (.isRef (.static Bundle.tN "SUPPRESSED_SENTINEL" Bundle.listD)) (by simp [nsTail]))
  obtain ⟨ci198, i198, fB, hk198, hg198, ha198, hsB, -, hnB, htB, hffB⟩ := Cond.ownField (t := .object "java/lang/Object") Y.found L.cls (by decide +kernel) (tw (.fieldLink Bundle.tN 198 Bundle.tN "backtrace" "Ljava/lang/Object;") (by simp [nsTail])) (tw (.lays Bundle.tN Bundle.tN "backtrace" "Ljava/lang/Object;") (by simp [nsTail])) e.platform hpl
  obtain ⟨cellS, hcS', heS, -, hkeep⟩ := X.same.2.2.2.2.2 T.aS cellS0 hcS0
  have hcellS : W.heap[T.aS]? = some cellS := hcS'
  have hout' : ∀ i, (⟨T.aS, i⟩ : Loc) ∉ locs := fun i hmem => by
    have h9 := hlocs _ hmem cellS0 hcS0
    rw [hiss] at h9; cases h9
  have hknownS : cellS.vm ≠ .unknown := by
    rw [heS]; intro hu
    rw [show cellS0.vm = .unknown from hu] at hiss
    cases hiss
  have hneS : T.aS ≠ a := Nat.ne_of_lt (Nat.lt_of_lt_of_le (Array.getElem?_eq_some_iff.mp hcS0).1 hnew)
  obtain ⟨iM, hffM⟩ := Y.msg
  obtain ⟨tyC, dC, hdC, hdnC⟩ := Cond.laysAt hfound hk Y.cause (tw (.lays nsE Bundle.tN "cause" "Ljava/lang/Throwable;") (by simp [nsTail]))
  obtain ⟨tyS, dS, hdS, hdnS⟩ := Cond.laysAt hfound hk Y.stack (tw (.lays nsE Bundle.tN "stackTrace" Bundle.steD) (by simp [nsTail]))
  obtain ⟨tyP, dP, hdP, hdnP⟩ := Cond.laysAt hfound hk Y.supp (tw (.lays nsE Bundle.tN "suppressedExceptions" Bundle.listD) (by simp [nsTail]))
  obtain ⟨tyM, dM, hdM, hdnM⟩ := Cond.laysAt hfound hk hffM (tw (.lays nsE Bundle.tN "detailMessage" "Ljava/lang/String;") (by simp [nsTail]))
  obtain ⟨tyB, dB, hdB, hdnB⟩ := Cond.laysAt hfound hk hffB (tw (.lays nsE Bundle.tN "backtrace" "Ljava/lang/Object;") (by simp [nsTail]))
  have bC := Cond.laysApart hdB hdC hdnB hdnC (by rw [hnB, Y.causeName]; decide)
  have bS := Cond.laysApart hdB hdS hdnB hdnS (by rw [hnB, Y.stackName]; decide)
  have bP := Cond.laysApart hdB hdP hdnB hdnP (by rw [hnB, Y.suppName]; decide)
  have hskip : SkipFacts T e.platform s (fun u => u) u0 ((preparedCellV T.toThrowableT (freshCell P1.m.cls kX) a u0 sen).withEntry W.cur) :=
    ⟨{ ci198 := ci198, i198 := i198, fBack := fB }, ⟨hk198, hg198, ha198, hsB⟩, by
      have h9 := fresh_default (c := P1.m.cls) tyB
      rw [htB] at h9
      simpa [preparedCellV, Cell.setSlot, Cell.withEntry, Array.getElem?_setIfInBounds, bC, bS, bP, bC.symm, bS.symm, bP.symm, defaultValue] using h9, fun _ _ => rfl⟩
  obtain ⟨tm, methC, cdC, kC, vm₁, hnC, -, -, -, -, -, -, -, hW₁, st1⟩ := Steps.initColdS (tb := p.tables) (e := e) (below := below) (s := s) (U := W) X.here hexec X.warmed hpl hown (t := Bundle.initS nsE) rfl rfl (by decide +kernel)
    (tw (.methodLink own ic (Bundle.initS nsE)) (by simp [nsTail])) (hC (.instanceMethod (Bundle.initS nsE)) (by simp [nsChain, Bundle.passSAtoms])) (bytes := nsB) (maxL := 2) (hC (.code (Bundle.initS nsE) nsB 2 none) (by simp [nsChain, Bundle.passSAtoms]))
    (f := g) hg (a := a) (msg := msg) (rest := .ref a :: rest) hstack hd6
  cases Option.some.inj (hnC.symm.trans hP1m)
  have X₁ := X.noted hW₁
  obtain ⟨vm₂, X₂, st2⟩ := X₁.ctorMessageOffV hexec (g := { g with stack := .ref a :: rest }) hg hsize T L Z LZ M LM (P1 :: P2 :: Ps)
    (fun P hP => by rcases List.mem_cons.mp hP with rfl | hP; exact L1; rcases List.mem_cons.mp hP with rfl | hP; exact L2; exact hL P hP) ⟨hlink1, hsup2, hpass⟩ (u0 := u0) (sen := sen) (self := a) hmsg (cell := freshCell P1.m.cls kX) (cellS := cellS)
    hcell (fun _ => by simp) (by simp) rfl rfl hsel0 hselF hcellS hneS hknownS (by rw [hkeep _ (hout' _)]; exact hu0) (by rw [hkeep _ (hout' _)]; exact hsen)
    (Takes.of_laid hk hord tyC (by rw [Y.causeType]; rfl)) (Takes.of_laid hk hord tyS (by rw [Y.stackType]; exact fits_refV_array _ u0)) (Takes.of_laid hk hord tyP (by rw [Y.suppType]; exact fits_refV_object _ sen))
    (Takes.of_laid hk hord tyM (by rw [Y.msgType]; exact fits_refV_object _ ⟨msg, hmsg⟩)) Y.objLocals hskip htr [] hd6
    (by simp only [List.length_cons, hlen, List.length_nil]; omega) (by simp only [List.length_cons, hlen, List.length_nil]; exact hRlocals)
  obtain ⟨hwalk, hrun, hended, hWU, hsame⟩ := X₂.athrowLeaves hexec (g := { g with stack := .ref a :: rest, pc := g.pc + 3 }) hg hlocked hentered hout (a := a) (rest := rest) rfl hd9
  have hlt : a < ((W.setVm vm₁).setVm vm₂).heap.size := (Array.getElem?_eq_some_iff.mp hcell).1
  have hU := heapAt_setCell_self (s := (W.setVm vm₁).setVm vm₂) (plainBareV T.toThrowableT (freshCell P1.m.cls kX) a u0 sen msg) hlt
  refine ⟨_, st1 _ (fun acts => ?_), hrun, hended, hWU, hsame.weaken (fun y hy hlt' => ?_) (Nat.le_refl _) (Nat.le_refl _), _, hU, rfl, hfound⟩
  · rw [doInvoke_state]
    exact st2 _ hwalk
  · rcases List.mem_append.mp hy with h1 | h1
    · exact h1
    · exfalso
      have hb : y.base = a := by
        simp only [List.mem_cons, List.not_mem_nil, or_false] at h1
        rcases h1 with rfl | rfl | rfl | rfl | rfl <;> rfl
      rw [hb] at hlt'
      exact Nat.not_lt.mpr hnew hlt'
end NSX
section NST
variable {p : Program} {l : Launch} {e : Env} {R : Room} {s : State} {m : MethodId} {args : Array Value} {below : List Frame} {meth : Method} {c : Code} {H : Heap} {locs : List Loc} {cells slots : Nat} {Q : State → Prop}
variable {mc ms : Nat} {free : Addr → Prop} {A0 A1 : Nat → Prop} {H0 : Heap} {a : Array Value} {ls : Array Slot} {st0 rest : List Value}
variable {Qc : Array Value → State → Outcome → State → Prop} {XC : String → State → State → Prop}
set_option maxHeartbeats 4000000 in
theorem ns_throwS {cc : ByteArray} {pc : Nat} (hexec : p.tables.exec = Jvm.exec) (hb : c.code = cc) (hl : l.stackTraces = false) {own text : String} {ik is ic mc ms sa : Nat} {A : Nat → Prop}
    (hown : s.vm.findClass own = some m.cls)
    (hk : (Cond.classLink own ik nsE).before args s = true) (hini : (Cond.initialized nsE).before args s = true) (hstr : vk_R own is text sa s) (hat : ∀ w ∈ nsAtS own ic, w.before args s = true)
    (hgood : ∀ w ∈ Cond.classLink own ik nsE :: Cond.initialized nsE :: nsAtS own ic, vx_ot w = true)
    (hU : vx_Zq Bundle.tN "UNASSIGNED_STACK" Bundle.steD A s s.heap) (hN : vx_Zq Bundle.tN "SUPPRESSED_SENTINEL" Bundle.listD A s s.heap) (hS : va_S A s.heap H locs) (hsize : ls.size = c.maxLocals)
    (d0 : decode cc pc = .ok (.new ik, 3)) (d3 : decode cc (pc + 3) = .ok (.dup, 1)) (d4 : decode cc (pc + 4) = .ok (.ldc is, 2)) (d6 : decode cc (pc + 6) = .ok (.invokespecial ic, 3)) (d9 : decode cc (pc + 9) = .ok (.athrow, 1))
    (hout : ∀ x ∈ c.exceptionTable.toList, covers x (pc + 9) = false)
    (hRframes : 5 < R.frames) (hRlocals : (rest.map fun v => v.category).sum + (13 * (2 + 1) + 43) ≤ R.locals) (hRcells : cells + 1 ≤ R.cells) (hRslots : slots + 6 ≤ R.slots) (hlocks : meth.locks = false)
    (hx : ∀ t : State, s.vm.Alike t.vm → H.size ≤ t.heap.size → (∀ q : Nat, q < H.size → t.heap[q]? = H[q]?) → XC nsE s t)
    (hf : ∀ z ∈ locs, free z.base) (hc : cells + 1 ≤ mc) (hs : slots + 6 ≤ ms) :
    W p l e R s m args below meth c H locs cells slots (vx_MQ below Qc XC args s mc ms free) (F0 m pc ls rest) := by
  intro T hT X
  have htr : e.platform.stackTraces = false := (show e.platform.stackTraces = l.stackTraces by rw [X.admits.platform]).trans hl
  have Y := vx_rebase X (R' := { frames := R.frames, locals := R.locals, cells := 1, slots := 6 }) (Nat.le_refl _) (Nat.le_refl _) hRcells hRslots
  obtain ⟨s', hA⟩ : ∃ z, z = (T.setVm s.vm).setFrames (.invoking m args :: below) := ⟨_, rfl⟩
  rw [← hA] at Y
  have hvm : s'.vm = s.vm := by rw [hA]; rfl
  have hhp : s'.heap = H := by rw [hA]; exact hT
  have hW0 : s.WarmedH s'.vm := by rw [hvm]; exact State.WarmedH.refl s
  have hat' : ∀ w ∈ nsAtS own ic, w.before args s' = true := fun w hw => vx_ot_at hW0 hvm.symm (hgood w (List.mem_cons_of_mem _ (List.mem_cons_of_mem _ hw))) (hat w hw)
  have hk' : (Cond.classLink own ik nsE).before args s' = true := vx_ot_at hW0 hvm.symm (hgood _ List.mem_cons_self) hk
  have hini' : (Cond.initialized nsE).before args s' = true := vx_ot_at hW0 hvm.symm (hgood _ (List.mem_cons_of_mem _ List.mem_cons_self)) hini
  have hU' : vx_Zq Bundle.tN "UNASSIGNED_STACK" Bundle.steD A s' s'.heap := by rw [hhp]; exact vx_Zq.moved hW0.alike (hU.kept hS.2.1)
  have hN' : vx_Zq Bundle.tN "SUPPRESSED_SENTINEL" Bundle.listD A s' s'.heap := by rw [hhp]; exact vx_Zq.moved hW0.alike (hN.kept hS.2.1)
  have h : ∀ w ∈ nsAt own ic, w.before args s' = true := vx_own hat' (vx_isRefq hU'.1) (vx_isRefq hN'.1) hU'.2.word hN'.2.word
  have hown' : s'.vm.findClass own = some m.cls := by rw [hvm]; exact hown
  have hins : (Cond.instantiable nsE 6).before args s' = true := h _ (by simp [nsAt, nsTail])
  obtain ⟨vm₁, cX, kX, hfX, hkX, -, -, X₁, st1⟩ := Y.newCold hexec (own := own) (C := nsE) (index := ik) (n := 6) hown' hk' hins hini'
    (g := F0 m pc ls rest) rfl (by rw [hb]; exact d0) (Nat.le_refl _) (Nat.le_refl _)
  generalize hT1 : (T.setVm vm₁).pushCell { cls := cX, slots := kX.instanceTypes.map defaultValue, vm := .none } = T1 at X₁ st1
  have hcat : (Value.ref T.heap.size).category = 1 := rfl
  have hcellA : T1.heap[T.heap.size]? = some (freshCell cX kX) := by rw [← hT1]; exact State.heap_pushCell_size _ _
  have d3' : decode c.code (pc + 3) = .ok (.dup, 1) := by rw [hb]; exact d3
  have d4' : decode c.code (pc + 4) = .ok (.ldc is, 2) := by rw [hb]; exact d4
  have hstr' : vk_R own is text sa s' := vk_R.warm hW0 hstr
  obtain ⟨U, hsteps, hrun, hend, hW, hsame, ce, hce, hOv, hOc⟩ := ns_ctor X₁ hexec htr (own := own) (ic := ic) hown' h (fun x hx => nomatch hx) hfX hkX hcellA (by rw [hhp, hT]; exact Nat.le_refl _) (msg := .ref sa) rfl
    (g := { method := m, pc := pc + 6, locals := ls, stack := .ref sa :: .ref T.heap.size :: .ref T.heap.size :: rest, locked := none }) rfl hsize rfl rfl (rest := rest) rfl
    (by rw [hb]; exact d6) (by rw [hb]; exact d9) hout hRframes (by simp only [List.map_cons, List.sum_cons, hcat]; omega) hlocks
  obtain ⟨f1, f2⟩ := vx_frame hsame
  rw [hhp] at f1 f2
  have hWs : s.WarmedH U.vm := State.WarmedH.trans hW0 hW
  have hcl : s.vm.findClass nsE = some ce.cls := by
    have h9 := hOc
    rw [hvm] at h9
    exact h9
  have hall : s.sameButNew ({ U with vm := s.vm } : State) locs mc ms := by
    subst hA
    obtain ⟨e1, e2⟩ := hsame
    rw [State.setFrames_setFrames] at e1
    have h2 : (T.setVm s.vm).sameButNew ({ U with vm := s.vm } : State) [] (0 + 1) (0 + 6) := ⟨e1, e2⟩
    have h3 := X.same.trans h2
    rw [List.append_nil] at h3
    exact h3.mono hc hs
  refine ⟨U, ?_, .threw T.heap.size, hrun, hend, Or.inr ⟨T.heap.size, rfl, nsE, ce, locs, hx U hWs.alike f1 (fun q hq => f2 q hq (fun z hz => nomatch hz)), hce, hOv, hcl, hWs, hall, hf⟩⟩
  refine st1 _ ?_
  show Steps p.tables e below (T1.setTop { method := m, pc := pc + 3, locals := ls, stack := .ref T.heap.size :: rest, locked := none }) _
  jvm_step X₁.here [X₁.here.top, hexec, d3', Value.category]
  exact X₁.ldcString hexec (own := own) (text := text) (index := is) (a := sa) hown' hstr'.1 hstr'.2
    (g := { method := m, pc := pc + 4, locals := ls, stack := .ref T.heap.size :: .ref T.heap.size :: rest, locked := none }) rfl d4' _ hsteps
end NST
end
section
def txtL : List (Nat × String) := [(60, "the account would have too much cash"), (72, "not so much cash is free"), (86, "the account would have too many shares"), (95, "not enough is free to be held"), (103, "there are too many orders"), (134, "less is below 1"), (137, "not more than that is left"), (147, "the time is below 0"), (149, "the time has been already"), (166, "the book is empty"), (181, "there is no such level"), (193, "a level has no such number"), (207, "an order has no such number"), (209, "the order does not rest"), (220, "cash has no such number"), (231, "shares have no such number"), (239, "there is no such count"), (241, "there is no such trade"), (253, "a trade has no such number"), (267, "a symbol has no such number"), (275, "there are not so many accounts that traded"), (277, "there is no such account"), (279, "there is no such symbol"), (281, "there is no such side"), (283, "a number is not as said"), (285, "no order has this number"), (287, "the order is of another account"), (289, "the order is not there any more")]
def thE : List String := ["java/lang/IndexOutOfBoundsException", "java/lang/IllegalArgumentException", "java/lang/IllegalStateException", "java/util/NoSuchElementException"]
def thBad : List Cond := [.castable "java/lang/IndexOutOfBoundsException" "java/lang/IndexOutOfBoundsException", .castable "java/lang/IllegalArgumentException" "java/lang/IllegalArgumentException", .castable "java/lang/IllegalStateException" "java/lang/IllegalStateException", .castable "java/util/NoSuchElementException" "java/util/NoSuchElementException", .declares (Bundle.initS "java/lang/RuntimeException"), .declares (Bundle.initS "java/lang/Exception"), .declares (Bundle.initS Bundle.tN)]
abbrev thN : List String := ["java/lang/RuntimeException", "java/lang/Exception"]
/-- what a throw needs of the state it begins in -/
def thX (sx : Nat → Nat) (B : Nat → Prop) (U : State) : Prop := vx_Zq Bundle.tN "UNASSIGNED_STACK" Bundle.steD B U U.heap ∧ vx_Zq Bundle.tN "SUPPRESSED_SENTINEL" Bundle.listD B U U.heap ∧ (∀ q ∈ txtL, vk_R RX4 q.1 q.2 (sx q.1) U) ∧ ∀ x ∈ thBad, va_Nw x U
theorem thBad_ot : ∀ x ∈ thBad, x.onTables = true := by decide +kernel
theorem thBad_warm {s U : State} (hW : s.WarmedH U.vm) : ∀ x ∈ thBad, va_Nw x s → va_Nw x U := by
  intro x hx
  simp only [thBad, List.mem_cons, List.not_mem_nil, or_false] at hx
  rcases hx with rfl | rfl | rfl | rfl | rfl | rfl | rfl
  · exact va_Nw.warmC hW
  · exact va_Nw.warmC hW
  · exact va_Nw.warmC hW
  · exact va_Nw.warmC hW
  · exact va_Nw.warmD hW
  · exact va_Nw.warmD hW
  · exact va_Nw.warmD hW
theorem thX.to {sx : Nat → Nat} {A B : Nat → Prop} {s U : State} {H : Heap} {locs : List Loc} (h : thX sx A s) (hS : va_S A s.heap H locs) (hB : ∀ q, B q → A q) (hU : U.heap = H) (hW : s.WarmedH U.vm) : thX sx B U := by
  refine ⟨?_, ?_, fun q hq => (h.2.2.1 q hq).warm hW, fun x hx => thBad_warm hW x hx (h.2.2.2 x hx)⟩
  · rw [hU]; exact vx_Zq.moved hW.alike ((h.1.kept hS.2.1).narrow hB)
  · rw [hU]; exact vx_Zq.moved hW.alike ((h.2.1.kept hS.2.1).narrow hB)
theorem cPX_blind {sx : Nat → Nat} {D : va_G} {cl : List vw_C} {tys : List (ClassId × FieldType)} {ww : va_W} {sz : Nat} {av : List Value} : FrameBlind (cPX (thX sx) D cl tys ww sz av) := by
  intro a U g mk q
  obtain ⟨q0, q1, qP, qK, qD, qU, qN, qT, qE⟩ := q
  exact ⟨q0, q1, qP, va_K.moved (u := U) (U := U.calling g mk a) (Vm.Alike.refl U.vm) qK, qD, vx_Zq.moved (u := U) (U := U.calling g mk a) (Vm.Alike.refl U.vm) qU, vx_Zq.moved (u := U) (U := U.calling g mk a) (Vm.Alike.refl U.vm) qN, fun q hq => vk_R.same (u := U) (U := U.calling g mk a) rfl (qT q hq), fun x hx => va_Nw.same (u := U) (U := U.calling g mk a) (thBad_ot x hx) rfl (qE x hx)⟩
/-- the place of a 'throw new E("text")' -/
def tSite (Ts : List Cond) (own : String) (cc : ByteArray) (pc : Nat) (E : String) : Prop := ∃ (ik is ic : Nat) (text : String), E ∈ thE ∧ (is, text) ∈ txtL ∧ own = RX4 ∧ Cond.classLink own ik E ∈ Ts ∧ Cond.initialized E ∈ Ts ∧ (∀ w ∈ (vx_atS own ic E thN).filter goodWord, w ∈ Ts) ∧ (∀ w ∈ (vx_atS own ic E thN).filter (fun w => !goodWord w), w ∈ thBad) ∧
  (∀ w ∈ Cond.classLink own ik E :: Cond.initialized E :: vx_atS own ic E thN, vx_ot w = true) ∧ Bundle.fit E = true ∧ decode cc pc = .ok (.new ik, 3) ∧ decode cc (pc + 3) = .ok (.dup, 1) ∧
  ((decode cc (pc + 4) = .ok (.ldc is, 2) ∧ decode cc (pc + 6) = .ok (.invokespecial ic, 3) ∧ decode cc (pc + 9) = .ok (.athrow, 1)) ∨ (decode cc (pc + 4) = .ok (.ldc_w is, 3) ∧ decode cc (pc + 7) = .ok (.invokespecial ic, 3) ∧ decode cc (pc + 10) = .ok (.athrow, 1)))
def tSiteN (Ts : List Cond) (own : String) (cc : ByteArray) (pc : Nat) (E : String) : Prop := ∃ (ik is ic : Nat) (text : String), E = nsE ∧ (is, text) ∈ txtL ∧ own = RX4 ∧ Cond.classLink own ik nsE ∈ Ts ∧ Cond.initialized nsE ∈ Ts ∧ (∀ w ∈ (nsAtS own ic).filter goodWord, w ∈ Ts) ∧ (∀ w ∈ (nsAtS own ic).filter (fun w => !goodWord w), w ∈ thBad) ∧
  (∀ w ∈ Cond.classLink own ik nsE :: Cond.initialized nsE :: nsAtS own ic, vx_ot w = true) ∧ decode cc pc = .ok (.new ik, 3) ∧ decode cc (pc + 3) = .ok (.dup, 1) ∧ decode cc (pc + 4) = .ok (.ldc is, 2) ∧ decode cc (pc + 6) = .ok (.invokespecial ic, 3) ∧ decode cc (pc + 9) = .ok (.athrow, 1)
def ThK (p : Program) (l : Launch) (e : Env) (R : Room) (s : State) (m : MethodId) (args : Array Value) (below : List Frame) (meth : Method) (c : Code) (cc : ByteArray) (nL : Nat) (Ts : List Cond) (own : String) (D : va_G) (cl : List vw_C) (tys : List (ClassId × FieldType)) (w : SH → va_W) (A : Nat → Prop) (Q : State → Prop) {α : Type} (r : (String ⊕ α) × SH) (sx : Nat → Nat) : Prop :=
  (∀ (pc : Nat) (H : Heap) (locs : List Loc) (ls : Array Slot) (σ1 : SH) {E : String}, r = (.inl E, σ1) → va_P D cl (w σ1) H → va_S A s.heap H locs → ls.size = nL → (tSite Ts own cc pc E ∨ tSiteN Ts own cc pc E) → W p l e R s m args below meth c H locs 0 0 Q (F0 m pc ls [])) ∧
  (∀ (E : String) (σ1 : SH), r = (.inl E, σ1) → l.stackTraces = false ∧ thX sx A s ∧ 1 ≤ R.cells ∧ 6 ≤ R.slots ∧ ∀ (pc : Nat) (q9 : Addr) (ce : Cell) (H1 : Heap) (locs1 : List Loc) (ls : Array Slot) (rest : List Value), va_P D cl (w σ1) H1 → va_S A s.heap H1 locs1 → H1[q9]? = some ce → ce.vm = .none → s.vm.findClass E = some ce.cls → vx_W p l e R s m args below meth c H1 locs1 (0 + 1) (0 + 6) Q (F0 m pc ls rest) q9)
def rmX (r : Room) : Room := { frames := r.frames, cells := 1, slots := 6, locals := r.locals }
def cQno : Array Value → State → Outcome → State → Prop := fun _ _ _ _ => False
abbrev cXX (D : va_G) (cl : List vw_C) (w : SH → va_W) (σ : SH) (sz : Nat) (E : String) (σ1 : SH) : String → State → State → Prop := vx_X (fun _ : Unit => True) (fun E' _ t => E' = E ∧ va_P D cl (w σ1) t.heap) (va_A (w σ) sz)
section RowsX
variable {p : Program} {l : Launch} {e : Env} {R : Room} {s : State} {m : MethodId} {args : Array Value} {below : List Frame} {meth : Method} {c : Code} {H : Heap} {locs : List Loc} {cells slots : Nat} {Q : State → Prop}
variable {cc : ByteArray} {pc : Nat} {ls : Array Slot} {rest st0 : List Value} {D : va_G} {cl : List vw_C} {A : Nat → Prop} {a : Nat} {tys : List (ClassId × FieldType)} {w : SH → va_W} {σ : SH} {nL fr lo : Nat} {Ts : List Cond} {own : String} {sx : Nat → Nat}
theorem ThK_no {α : Type} {v : α} {σ1 : SH} : ThK p l e R s m args below meth c cc nL Ts own D cl tys w A Q (.inr v, σ1) sx := ⟨fun _ _ _ _ _ _ h => (by cases h), fun _ _ h => (by cases h)⟩
theorem b_thrown {α : Type} {r : (String ⊕ α) × SH} {E : String} {σ1 : SH} (hr : vx_Run p l e R s m args below meth c H locs 0 0 1 6 (F0 m pc ls st0) rest (fun _ _ _ => False) (cXX D cl w σ H.size E σ1) (va_A (w σ) H.size)) (C : Cx p s m args c cc nL Ts own D cl tys w A R fr lo) (hT : ThK p l e R s m args below meth c cc nL Ts own D cl tys w A Q r sx) (hS : va_S A s.heap H locs) (h : r = (.inl E, σ1)) : W p l e R s m args below meth c H locs 0 0 Q (F0 m pc ls st0) := by
  intro T hTh X
  rcases hr T hTh X with ⟨v, st₀, t, T', L, h0, X', hL, e1, e2, hF, st⟩ | ⟨q, st₀, t, T', L, E1, ce, h0, X', hL, e1, e2, ⟨u, hp, hb, hF⟩, hce, hcv, hcl, st⟩
  · exact hF.elim
  · obtain ⟨rfl, hb⟩ := hb
    obtain ⟨k1, k2, k3⟩ := vx_keep h0 e1 hS (fun q _ h => wA_sub (C.2.2.1 σ) C.2.2.2.1 hS.1 q h) (wA_sub (C.2.2.1 σ) C.2.2.2.1 hS.1) hL hF
    obtain ⟨t2, a1, b1⟩ := (hT.2 _ _ h).2.2.2.2 pc q ce T'.heap (locs ++ L) ls rest (by rw [e1]; exact hb) k3 (by rw [e1]; exact hce) hcv hcl T' rfl X'
    exact ⟨t2, st.trans a1, b1⟩
theorem pre_UX (C : Cx p s m args c cc nL Ts own D cl tys w A R fr lo) (hP : va_P D cl (w σ) H) (hS : va_S A s.heap H locs) (hX : thX sx A s) (av : List Value) : ∀ U : State, U.heap = H → s.WarmedH U.vm → cPX (thX sx) D cl tys (w σ) H.size av av.toArray U := fun U hU hW => ⟨rfl, by rw [hU], by rw [hU]; exact hP, va_K.moved hW.alike C.2.1, (C.2.2.1 σ).weaken (fun _ _ _ _ => trivial), hX.to hS (wA_sub (C.2.2.1 σ) C.2.2.2.1 hS.1) hU hW⟩

theorem b_callXVi (C : Cx p s m args c cc nL Ts own D cl tys w A R fr lo) {β : Type} {r : (String ⊕ β) × SH} (hT : ThK p l e R s m args below meth c cc nL Ts own D cl tys w A Q r sx) (hP : va_P D cl (w σ) H) (hS : va_S A s.heap H locs) {callee : Option ((String ⊕ Int32) × SH)} {F : Int32 → SH → Option ((String ⊕ β) × SH)} (h : bndX callee F = some r) {y : MethodName} {ws : List Cond} {rm : Room} {bytes : ByteArray} {maxL n index : Nat} {ret : Option FieldType} {As : List Value} {b : Nat} {Cn : String} 
    (hM : ∀ (q : Int32 × SH) (sz : Nat), callee = some (.inr q.1, q.2) → Met l y ws rm (cP D cl tys (w σ) sz (.ref b :: As)) (cQi D cl w σ sz q) 0 0 (va_A (w σ) sz))
    (hX : l.stackTraces = false → ∀ (E : String) (σ1 : SH) (sz : Nat), callee = some (.inl E, σ1) → vx_Met l y ws (rmX rm) (cPX (thX sx) D cl tys (w σ) sz (.ref b :: As)) cQno (cXX D cl w σ sz E σ1) 1 6 (va_A (w σ) sz))
    (cw : CallW R s args own Cn index y bytes maxL ret ws rm 0 0 n) (cwX : 1 ≤ R.cells → 6 ≤ R.slots → CallW R s args own Cn index y bytes maxL ret ws (rmX rm) 1 6 n) (hrecv : ∃ cell : Cell, H[b]? = some cell ∧ cell.vm.isStatics = false ∧ s.vm.findClass Cn = some cell.cls) (hn : As.length = n) (hsize : ls.size = nL) (hst : st0 = As.reverse ++ .ref b :: rest) (hWr : (rest.map fun v => v.category).sum ≤ 8) (hdg : decode cc pc = .ok (.invokevirtual index, 3))
    (kk : ∀ (v : Int32) (σ1 : SH) (H1 : Heap) (locs1 : List Loc), F v σ1 = some r → va_P D cl (w σ1) H1 → va_S A s.heap H1 locs1 → W p l e R s m args below meth c H1 locs1 0 0 Q (F0 m (pc + 3) ls (.int v :: rest))) : W p l e R s m args below meth c H locs 0 0 Q (F0 m pc ls st0) := by
  rcases bndX_h h with ⟨v, σ1, hc, h⟩ | ⟨E, σ1, hc, hr⟩
  · have hM' : ∀ (q : Int32 × SH) (sz : Nat), some (v, σ1) = some q → Met l y ws rm (cP D cl tys (w σ) sz (.ref b :: As)) (cQi D cl w σ sz q) 0 0 (va_A (w σ) sz) := fun q sz hq => hM q sz (by rw [hc]; cases hq; rfl)
    exact b_callVi (As := As) (rest := rest) C hP hS (callee := some (v, σ1)) (F := F) h hM' cw hrecv hn hsize hst hWr hdg kk
  · obtain ⟨hl0, hx0, hr1, hr2, -⟩ := hT.2 _ _ hr
    exact b_thrown (vx_runV (As := As) (rest := rest) C.1 (hX hl0 _ _ H.size hc) (cwX hr1 hr2) ⟨cPX_blind, hrecv, pre_UX C hP hS (hT.2 _ _ hr).2.1 (.ref b :: As)⟩ rfl hn hsize hst (lv_room hWr) hdg ⟨(by rw [Nat.zero_add]; exact hr1), (by rw [Nat.zero_add]; exact hr2)⟩) C hT hS hr

theorem b_callXVl (C : Cx p s m args c cc nL Ts own D cl tys w A R fr lo) {β : Type} {r : (String ⊕ β) × SH} (hT : ThK p l e R s m args below meth c cc nL Ts own D cl tys w A Q r sx) (hP : va_P D cl (w σ) H) (hS : va_S A s.heap H locs) {callee : Option ((String ⊕ Int64) × SH)} {F : Int64 → SH → Option ((String ⊕ β) × SH)} (h : bndX callee F = some r) {y : MethodName} {ws : List Cond} {rm : Room} {bytes : ByteArray} {maxL n index : Nat} {ret : Option FieldType} {As : List Value} {b : Nat} {Cn : String} 
    (hM : ∀ (q : Int64 × SH) (sz : Nat), callee = some (.inr q.1, q.2) → Met l y ws rm (cP D cl tys (w σ) sz (.ref b :: As)) (cQl D cl w σ sz q) 0 0 (va_A (w σ) sz))
    (hX : l.stackTraces = false → ∀ (E : String) (σ1 : SH) (sz : Nat), callee = some (.inl E, σ1) → vx_Met l y ws (rmX rm) (cPX (thX sx) D cl tys (w σ) sz (.ref b :: As)) cQno (cXX D cl w σ sz E σ1) 1 6 (va_A (w σ) sz))
    (cw : CallW R s args own Cn index y bytes maxL ret ws rm 0 0 n) (cwX : 1 ≤ R.cells → 6 ≤ R.slots → CallW R s args own Cn index y bytes maxL ret ws (rmX rm) 1 6 n) (hrecv : ∃ cell : Cell, H[b]? = some cell ∧ cell.vm.isStatics = false ∧ s.vm.findClass Cn = some cell.cls) (hn : As.length = n) (hsize : ls.size = nL) (hst : st0 = As.reverse ++ .ref b :: rest) (hWr : (rest.map fun v => v.category).sum ≤ 8) (hdg : decode cc pc = .ok (.invokevirtual index, 3))
    (kk : ∀ (v : Int64) (σ1 : SH) (H1 : Heap) (locs1 : List Loc), F v σ1 = some r → va_P D cl (w σ1) H1 → va_S A s.heap H1 locs1 → W p l e R s m args below meth c H1 locs1 0 0 Q (F0 m (pc + 3) ls (.long v :: rest))) : W p l e R s m args below meth c H locs 0 0 Q (F0 m pc ls st0) := by
  rcases bndX_h h with ⟨v, σ1, hc, h⟩ | ⟨E, σ1, hc, hr⟩
  · have hM' : ∀ (q : Int64 × SH) (sz : Nat), some (v, σ1) = some q → Met l y ws rm (cP D cl tys (w σ) sz (.ref b :: As)) (cQl D cl w σ sz q) 0 0 (va_A (w σ) sz) := fun q sz hq => hM q sz (by rw [hc]; cases hq; rfl)
    exact b_callVl (As := As) (rest := rest) C hP hS (callee := some (v, σ1)) (F := F) h hM' cw hrecv hn hsize hst hWr hdg kk
  · obtain ⟨hl0, hx0, hr1, hr2, -⟩ := hT.2 _ _ hr
    exact b_thrown (vx_runV (As := As) (rest := rest) C.1 (hX hl0 _ _ H.size hc) (cwX hr1 hr2) ⟨cPX_blind, hrecv, pre_UX C hP hS (hT.2 _ _ hr).2.1 (.ref b :: As)⟩ rfl hn hsize hst (lv_room hWr) hdg ⟨(by rw [Nat.zero_add]; exact hr1), (by rw [Nat.zero_add]; exact hr2)⟩) C hT hS hr

theorem b_callXVv (C : Cx p s m args c cc nL Ts own D cl tys w A R fr lo) {β : Type} {r : (String ⊕ β) × SH} (hT : ThK p l e R s m args below meth c cc nL Ts own D cl tys w A Q r sx) (hP : va_P D cl (w σ) H) (hS : va_S A s.heap H locs) {callee : Option ((String ⊕ Unit) × SH)} {F : Unit → SH → Option ((String ⊕ β) × SH)} (h : bndX callee F = some r) {y : MethodName} {ws : List Cond} {rm : Room} {bytes : ByteArray} {maxL n index : Nat} {ret : Option FieldType} {As : List Value} {b : Nat} {Cn : String} 
    (hM : ∀ (q : Unit × SH) (sz : Nat), callee = some (.inr q.1, q.2) → Met l y ws rm (cP D cl tys (w σ) sz (.ref b :: As)) (cQv D cl w σ sz q) 0 0 (va_A (w σ) sz))
    (hX : l.stackTraces = false → ∀ (E : String) (σ1 : SH) (sz : Nat), callee = some (.inl E, σ1) → vx_Met l y ws (rmX rm) (cPX (thX sx) D cl tys (w σ) sz (.ref b :: As)) cQno (cXX D cl w σ sz E σ1) 1 6 (va_A (w σ) sz))
    (cw : CallW R s args own Cn index y bytes maxL ret ws rm 0 0 n) (cwX : 1 ≤ R.cells → 6 ≤ R.slots → CallW R s args own Cn index y bytes maxL ret ws (rmX rm) 1 6 n) (hrecv : ∃ cell : Cell, H[b]? = some cell ∧ cell.vm.isStatics = false ∧ s.vm.findClass Cn = some cell.cls) (hn : As.length = n) (hsize : ls.size = nL) (hst : st0 = As.reverse ++ .ref b :: rest) (hWr : (rest.map fun v => v.category).sum ≤ 8) (hdg : decode cc pc = .ok (.invokevirtual index, 3))
    (kk : ∀ (v : Unit) (σ1 : SH) (H1 : Heap) (locs1 : List Loc), F v σ1 = some r → va_P D cl (w σ1) H1 → va_S A s.heap H1 locs1 → W p l e R s m args below meth c H1 locs1 0 0 Q (F0 m (pc + 3) ls (rest))) : W p l e R s m args below meth c H locs 0 0 Q (F0 m pc ls st0) := by
  rcases bndX_h h with ⟨v, σ1, hc, h⟩ | ⟨E, σ1, hc, hr⟩
  · have hM' : ∀ (q : Unit × SH) (sz : Nat), some (v, σ1) = some q → Met l y ws rm (cP D cl tys (w σ) sz (.ref b :: As)) (cQv D cl w σ sz q) 0 0 (va_A (w σ) sz) := fun q sz hq => hM q sz (by rw [hc]; cases hq; rfl)
    exact b_callVv (As := As) (rest := rest) C hP hS (callee := some (v, σ1)) (F := F) h hM' cw hrecv hn hsize hst hWr hdg kk
  · obtain ⟨hl0, hx0, hr1, hr2, -⟩ := hT.2 _ _ hr
    exact b_thrown (vx_runV (As := As) (rest := rest) C.1 (hX hl0 _ _ H.size hc) (cwX hr1 hr2) ⟨cPX_blind, hrecv, pre_UX C hP hS (hT.2 _ _ hr).2.1 (.ref b :: As)⟩ rfl hn hsize hst (lv_room hWr) hdg ⟨(by rw [Nat.zero_add]; exact hr1), (by rw [Nat.zero_add]; exact hr2)⟩) C hT hS hr

theorem b_callXSi (C : Cx p s m args c cc nL Ts own D cl tys w A R fr lo) {β : Type} {r : (String ⊕ β) × SH} (hT : ThK p l e R s m args below meth c cc nL Ts own D cl tys w A Q r sx) (hP : va_P D cl (w σ) H) (hS : va_S A s.heap H locs) {callee : Option ((String ⊕ Int32) × SH)} {F : Int32 → SH → Option ((String ⊕ β) × SH)} (h : bndX callee F = some r) {y : MethodName} {ws : List Cond} {rm : Room} {bytes : ByteArray} {maxL n index : Nat} {ret : Option FieldType} {As : List Value} 
    (hM : ∀ (q : Int32 × SH) (sz : Nat), callee = some (.inr q.1, q.2) → Met l y ws rm (cP D cl tys (w σ) sz As) (cQi D cl w σ sz q) 0 0 (va_A (w σ) sz))
    (hX : l.stackTraces = false → ∀ (E : String) (σ1 : SH) (sz : Nat), callee = some (.inl E, σ1) → vx_Met l y ws (rmX rm) (cPX (thX sx) D cl tys (w σ) sz As) cQno (cXX D cl w σ sz E σ1) 1 6 (va_A (w σ) sz))
    (cw : CallB R s args own index y bytes maxL ret ws rm 0 0 n ∧ (Cond.static y).before args s = true) (cwX : 1 ≤ R.cells → 6 ≤ R.slots → CallB R s args own index y bytes maxL ret ws (rmX rm) 1 6 n ∧ (Cond.static y).before args s = true) (hn : As.length = n) (hsize : ls.size = nL) (hst : st0 = As.reverse ++ rest) (hWr : (rest.map fun v => v.category).sum ≤ 8) (hdg : decode cc pc = .ok (.invokestatic index, 3))
    (kk : ∀ (v : Int32) (σ1 : SH) (H1 : Heap) (locs1 : List Loc), F v σ1 = some r → va_P D cl (w σ1) H1 → va_S A s.heap H1 locs1 → W p l e R s m args below meth c H1 locs1 0 0 Q (F0 m (pc + 3) ls (.int v :: rest))) : W p l e R s m args below meth c H locs 0 0 Q (F0 m pc ls st0) := by
  rcases bndX_h h with ⟨v, σ1, hc, h⟩ | ⟨E, σ1, hc, hr⟩
  · have hM' : ∀ (q : Int32 × SH) (sz : Nat), some (v, σ1) = some q → Met l y ws rm (cP D cl tys (w σ) sz As) (cQi D cl w σ sz q) 0 0 (va_A (w σ) sz) := fun q sz hq => hM q sz (by rw [hc]; cases hq; rfl)
    exact b_callSi (As := As) (rest := rest) C hP hS (callee := some (v, σ1)) (F := F) h hM' cw hn hsize hst hWr hdg kk
  · obtain ⟨hl0, hx0, hr1, hr2, -⟩ := hT.2 _ _ hr
    exact b_thrown (vx_runS (As := As) (rest := rest) C.1 (hX hl0 _ _ H.size hc) (cwX hr1 hr2) ⟨cPX_blind, pre_UX C hP hS (hT.2 _ _ hr).2.1 As⟩ rfl hn hsize hst (lv_room hWr) hdg ⟨(by rw [Nat.zero_add]; exact hr1), (by rw [Nat.zero_add]; exact hr2)⟩) C hT hS hr

theorem b_callXSl (C : Cx p s m args c cc nL Ts own D cl tys w A R fr lo) {β : Type} {r : (String ⊕ β) × SH} (hT : ThK p l e R s m args below meth c cc nL Ts own D cl tys w A Q r sx) (hP : va_P D cl (w σ) H) (hS : va_S A s.heap H locs) {callee : Option ((String ⊕ Int64) × SH)} {F : Int64 → SH → Option ((String ⊕ β) × SH)} (h : bndX callee F = some r) {y : MethodName} {ws : List Cond} {rm : Room} {bytes : ByteArray} {maxL n index : Nat} {ret : Option FieldType} {As : List Value} 
    (hM : ∀ (q : Int64 × SH) (sz : Nat), callee = some (.inr q.1, q.2) → Met l y ws rm (cP D cl tys (w σ) sz As) (cQl D cl w σ sz q) 0 0 (va_A (w σ) sz))
    (hX : l.stackTraces = false → ∀ (E : String) (σ1 : SH) (sz : Nat), callee = some (.inl E, σ1) → vx_Met l y ws (rmX rm) (cPX (thX sx) D cl tys (w σ) sz As) cQno (cXX D cl w σ sz E σ1) 1 6 (va_A (w σ) sz))
    (cw : CallB R s args own index y bytes maxL ret ws rm 0 0 n ∧ (Cond.static y).before args s = true) (cwX : 1 ≤ R.cells → 6 ≤ R.slots → CallB R s args own index y bytes maxL ret ws (rmX rm) 1 6 n ∧ (Cond.static y).before args s = true) (hn : As.length = n) (hsize : ls.size = nL) (hst : st0 = As.reverse ++ rest) (hWr : (rest.map fun v => v.category).sum ≤ 8) (hdg : decode cc pc = .ok (.invokestatic index, 3))
    (kk : ∀ (v : Int64) (σ1 : SH) (H1 : Heap) (locs1 : List Loc), F v σ1 = some r → va_P D cl (w σ1) H1 → va_S A s.heap H1 locs1 → W p l e R s m args below meth c H1 locs1 0 0 Q (F0 m (pc + 3) ls (.long v :: rest))) : W p l e R s m args below meth c H locs 0 0 Q (F0 m pc ls st0) := by
  rcases bndX_h h with ⟨v, σ1, hc, h⟩ | ⟨E, σ1, hc, hr⟩
  · have hM' : ∀ (q : Int64 × SH) (sz : Nat), some (v, σ1) = some q → Met l y ws rm (cP D cl tys (w σ) sz As) (cQl D cl w σ sz q) 0 0 (va_A (w σ) sz) := fun q sz hq => hM q sz (by rw [hc]; cases hq; rfl)
    exact b_callSl (As := As) (rest := rest) C hP hS (callee := some (v, σ1)) (F := F) h hM' cw hn hsize hst hWr hdg kk
  · obtain ⟨hl0, hx0, hr1, hr2, -⟩ := hT.2 _ _ hr
    exact b_thrown (vx_runS (As := As) (rest := rest) C.1 (hX hl0 _ _ H.size hc) (cwX hr1 hr2) ⟨cPX_blind, pre_UX C hP hS (hT.2 _ _ hr).2.1 As⟩ rfl hn hsize hst (lv_room hWr) hdg ⟨(by rw [Nat.zero_add]; exact hr1), (by rw [Nat.zero_add]; exact hr2)⟩) C hT hS hr

theorem b_callXSv (C : Cx p s m args c cc nL Ts own D cl tys w A R fr lo) {β : Type} {r : (String ⊕ β) × SH} (hT : ThK p l e R s m args below meth c cc nL Ts own D cl tys w A Q r sx) (hP : va_P D cl (w σ) H) (hS : va_S A s.heap H locs) {callee : Option ((String ⊕ Unit) × SH)} {F : Unit → SH → Option ((String ⊕ β) × SH)} (h : bndX callee F = some r) {y : MethodName} {ws : List Cond} {rm : Room} {bytes : ByteArray} {maxL n index : Nat} {ret : Option FieldType} {As : List Value} 
    (hM : ∀ (q : Unit × SH) (sz : Nat), callee = some (.inr q.1, q.2) → Met l y ws rm (cP D cl tys (w σ) sz As) (cQv D cl w σ sz q) 0 0 (va_A (w σ) sz))
    (hX : l.stackTraces = false → ∀ (E : String) (σ1 : SH) (sz : Nat), callee = some (.inl E, σ1) → vx_Met l y ws (rmX rm) (cPX (thX sx) D cl tys (w σ) sz As) cQno (cXX D cl w σ sz E σ1) 1 6 (va_A (w σ) sz))
    (cw : CallB R s args own index y bytes maxL ret ws rm 0 0 n ∧ (Cond.static y).before args s = true) (cwX : 1 ≤ R.cells → 6 ≤ R.slots → CallB R s args own index y bytes maxL ret ws (rmX rm) 1 6 n ∧ (Cond.static y).before args s = true) (hn : As.length = n) (hsize : ls.size = nL) (hst : st0 = As.reverse ++ rest) (hWr : (rest.map fun v => v.category).sum ≤ 8) (hdg : decode cc pc = .ok (.invokestatic index, 3))
    (kk : ∀ (v : Unit) (σ1 : SH) (H1 : Heap) (locs1 : List Loc), F v σ1 = some r → va_P D cl (w σ1) H1 → va_S A s.heap H1 locs1 → W p l e R s m args below meth c H1 locs1 0 0 Q (F0 m (pc + 3) ls (rest))) : W p l e R s m args below meth c H locs 0 0 Q (F0 m pc ls st0) := by
  rcases bndX_h h with ⟨v, σ1, hc, h⟩ | ⟨E, σ1, hc, hr⟩
  · have hM' : ∀ (q : Unit × SH) (sz : Nat), some (v, σ1) = some q → Met l y ws rm (cP D cl tys (w σ) sz As) (cQv D cl w σ sz q) 0 0 (va_A (w σ) sz) := fun q sz hq => hM q sz (by rw [hc]; cases hq; rfl)
    exact b_callSv (As := As) (rest := rest) C hP hS (callee := some (v, σ1)) (F := F) h hM' cw hn hsize hst hWr hdg kk
  · obtain ⟨hl0, hx0, hr1, hr2, -⟩ := hT.2 _ _ hr
    exact b_thrown (vx_runS (As := As) (rest := rest) C.1 (hX hl0 _ _ H.size hc) (cwX hr1 hr2) ⟨cPX_blind, pre_UX C hP hS (hT.2 _ _ hr).2.1 As⟩ rfl hn hsize hst (lv_room hWr) hdg ⟨(by rw [Nat.zero_add]; exact hr1), (by rw [Nat.zero_add]; exact hr2)⟩) C hT hS hr

def Xi (p : Program) (l : Launch) (e : Env) (R : Room) (s : State) (m : MethodId) (args : Array Value) (below : List Frame) (meth : Method) (c : Code) (cc : ByteArray) (D : va_G) (cl : List vw_C) (w : SH → va_W) (A : Nat → Prop) (Q : State → Prop) (r : (String ⊕ Int32) × SH) : Prop :=
  ∀ (pc : Nat) (H : Heap) (locs : List Loc) (ls : Array Slot) (σ1 : SH) (v : Int32) , r = (.inr v, σ1) → decode cc pc = .ok (.ireturn, 1) → va_P D cl (w σ1) H → va_S A s.heap H locs → W p l e R s m args below meth c H locs 0 0 Q (F0 m pc ls [.int v])
theorem Xi_of {q : Int32 × SH} (h : Ri p l e R s m args below meth c cc D cl w A Q q) : Xi p l e R s m args below meth c cc D cl w A Q (.inr q.1, q.2) := by
  intro pc H locs ls σ1 v hr hd hP hS
  refine h pc H locs ls σ1 v ?_ hd hP hS
  cases hr
  rfl
theorem Xi_no {E : String} {z1 : SH} : Xi p l e R s m args below meth c cc D cl w A Q (.inl E, z1) := fun _ _ _ _ _ _ h => (by cases h)

def Xl (p : Program) (l : Launch) (e : Env) (R : Room) (s : State) (m : MethodId) (args : Array Value) (below : List Frame) (meth : Method) (c : Code) (cc : ByteArray) (D : va_G) (cl : List vw_C) (w : SH → va_W) (A : Nat → Prop) (Q : State → Prop) (r : (String ⊕ Int64) × SH) : Prop :=
  ∀ (pc : Nat) (H : Heap) (locs : List Loc) (ls : Array Slot) (σ1 : SH) (v : Int64) , r = (.inr v, σ1) → decode cc pc = .ok (.lreturn, 1) → va_P D cl (w σ1) H → va_S A s.heap H locs → W p l e R s m args below meth c H locs 0 0 Q (F0 m pc ls [.long v])
theorem Xl_of {q : Int64 × SH} (h : Rl p l e R s m args below meth c cc D cl w A Q q) : Xl p l e R s m args below meth c cc D cl w A Q (.inr q.1, q.2) := by
  intro pc H locs ls σ1 v hr hd hP hS
  refine h pc H locs ls σ1 v ?_ hd hP hS
  cases hr
  rfl
theorem Xl_no {E : String} {z1 : SH} : Xl p l e R s m args below meth c cc D cl w A Q (.inl E, z1) := fun _ _ _ _ _ _ h => (by cases h)

def Xv (p : Program) (l : Launch) (e : Env) (R : Room) (s : State) (m : MethodId) (args : Array Value) (below : List Frame) (meth : Method) (c : Code) (cc : ByteArray) (D : va_G) (cl : List vw_C) (w : SH → va_W) (A : Nat → Prop) (Q : State → Prop) (r : (String ⊕ Unit) × SH) : Prop :=
  ∀ (pc : Nat) (H : Heap) (locs : List Loc) (ls : Array Slot) (σ1 : SH) , r = (.inr (), σ1) → decode cc pc = .ok (.return_, 1) → va_P D cl (w σ1) H → va_S A s.heap H locs → W p l e R s m args below meth c H locs 0 0 Q (F0 m pc ls [])
theorem Xv_of {q : Unit × SH} (h : Rv p l e R s m args below meth c cc D cl w A Q q) : Xv p l e R s m args below meth c cc D cl w A Q (.inr q.1, q.2) := by
  intro pc H locs ls σ1 hr hd hP hS
  refine h pc H locs ls σ1 ?_ hd hP hS
  cases hr
  rfl
theorem Xv_no {E : String} {z1 : SH} : Xv p l e R s m args below meth c cc D cl w A Q (.inl E, z1) := fun _ _ _ _ _ h => (by cases h)

theorem ofX {y : MethodName} {ws ws' : List Cond} {rm : Room} {maxL : Nat} {ret : Option FieldType} {av : List Value} (hy : plainName y.cls = true) (hw : ws = Cond.code y cc maxL ret :: ws') (hwS : wSame w) (hlen : (lg_sl av).length ≤ maxL) (hl0 : l.stackTraces = false) (hrm : 6 ≤ rm.frames ∧ 82 ≤ rm.locals) {α : Type} {E : String} {z1 : SH} {sz : Nat}
    (body : ∀ (p : Program) (e : Env) (s : State) (m : MethodId) (below : List Frame) (meth : Method) (c : Code) (ls : Array Slot), s.heap.size = sz → Cx p s m av.toArray c cc maxL ws y.cls D cl tys w (va_A (w σ) sz) (rmX rm) rm.frames rm.locals → ThK (α := α) p l e (rmX rm) s m av.toArray below meth c cc maxL ws y.cls D cl tys w (va_A (w σ) sz) (vx_MQ below cQno (cXX D cl w σ sz E z1) av.toArray s 1 6 (va_A (w σ) sz)) (.inl E, z1) sx → va_P D cl (w σ) s.heap → lv_has ls maxL (lv_args 0 av) →
      W p l e (rmX rm) s m av.toArray below meth c s.heap [] 0 0 (vx_MQ below cQno (cXX D cl w σ sz E z1) av.toArray s 1 6 (va_A (w σ) sz)) (F0 m 0 ls [])) : vx_Met l y ws (rmX rm) (cPX (thX sx) D cl tys (w σ) sz av) cQno (cXX D cl w σ sz E z1) 1 6 (va_A (w σ) sz) := by
  refine vx_ofW (cc := cc) (maxL := maxL) (ret := ret) hy hw ?_
  intro p e s m args below meth c s₁ B hml hout hv
  obtain ⟨rfl, hsz, hP, hK, hD0, hX⟩ := hv
  have hlocks := B.notSynchronized
  subst hsz
  have hown := findClass_of_methodNamed B.named
  have hts := atoms_spec (ws := ws) B.pre
  rw [lg_entry_eq]
  refine body p e s m below meth c _ rfl ⟨⟨B.exec, B.bytes, hml, hown, hts⟩, hK, fun σ' => hwS.D (hD0.self (sz := s.heap.size)) σ', fun q h => Or.inr h, Nat.le_refl _, Nat.le_refl _⟩ ⟨?_, ?_⟩ hP (lv_entry av hlen)
  · intro pc H locs ls σ1 E1 hr hP1 hS1 hls ht
    cases hr
    have hx : ∀ t : State, s.vm.Alike t.vm → H.size ≤ t.heap.size → (∀ q : Nat, q < H.size → t.heap[q]? = H[q]?) → cXX D cl w σ s.heap.size E z1 E s t := fun t _ hz hk => ⟨(), trivial, ⟨rfl, hP1.kept (fun k q hq => hk _ (hP1 k q hq).lt)⟩, Nat.le_trans hS1.1 hz, fun q h1 h2 => by rw [hk q (Nat.lt_of_lt_of_le h1 hS1.1)]; exact hS1.2.1 q h1 h2⟩
    rcases ht with ht | ht
    swap
    · obtain ⟨ik, is, ic, text, rfl, htx, ho, w1, w2, w3, w4, w5, d0, d3, d4, d6, d9⟩ := ht
      have hat : ∀ x ∈ nsAtS y.cls ic, x.before av.toArray s = true := vx_hat (B := thBad) (fun x hx => hts _ (w3 x hx)) w4 (fun x hx => va_Nw.use (thBad_ot x hx) (hX.2.2.2 x hx))
      have hstr : vk_R y.cls is text (sx is) s := by rw [ho]; exact hX.2.2.1 _ htx
      exact ns_throwS (A := va_A (w σ) s.heap.size) B.exec B.bytes hl0 hown (hts _ w1) (hts _ w2) hstr hat w5 hX.1 hX.2.1 hS1 (hls.trans hml.symm) d0 d3 d4 d6 d9 (fun x hx => (hout x hx).elim) hrm.1 (by show 0 + (13 * (2 + 1) + 43) ≤ rm.locals; exact hrm.2) (Nat.le_refl _) (Nat.le_refl _) hlocks hx hS1.2.2 (Nat.le_refl _) (Nat.le_refl _)
    obtain ⟨ik, is, ic, text, hE, htx, ho, w1, w2, w3, w4, w5, hfit, d0, d3, d4⟩ := ht
    have hat : ∀ x ∈ vx_atS y.cls ic E thN, x.before av.toArray s = true := vx_hat (B := thBad) (fun x hx => hts _ (w3 x hx)) w4 (fun x hx => va_Nw.use (thBad_ot x hx) (hX.2.2.2 x hx))
    have hstr : vk_R y.cls is text (sx is) s := by rw [ho]; exact hX.2.2.1 _ htx
    have hfits : ∀ n ∈ thN, Bundle.fit n = true := by decide +kernel
    rcases d4 with ⟨d4, d6, d9⟩ | ⟨d4, d7, d10⟩
    · exact vx_throwS (names := thN) (A := va_A (w σ) s.heap.size) B.exec B.bytes hl0 hown hfit hfits (hts _ w1) (hts _ w2) hstr hat w5 hX.1 hX.2.1 hS1 (hls.trans hml.symm) d0 d3 d4 d6 d9 (fun x hx => (hout x hx).elim) hrm.1 (by show 0 + (13 * (2 + 1) + 43) ≤ rm.locals; exact hrm.2) (Nat.le_refl _) (Nat.le_refl _) hlocks hx hS1.2.2 (Nat.le_refl _) (Nat.le_refl _)
    · exact vx_throwSW (names := thN) (A := va_A (w σ) s.heap.size) B.exec B.bytes hl0 hown hfit hfits (hts _ w1) (hts _ w2) hstr hat w5 hX.1 hX.2.1 hS1 (hls.trans hml.symm) d0 d3 d4 d7 d10 (fun x hx => (hout x hx).elim) hrm.1 (by show 0 + (13 * (2 + 1) + 43) ≤ rm.locals; exact hrm.2) (Nat.le_refl _) (Nat.le_refl _) hlocks hx hS1.2.2 (Nat.le_refl _) (Nat.le_refl _)
  · intro E1 σ1 hr
    cases hr
    refine ⟨hl0, hX, Nat.le_refl _, Nat.le_refl _, fun pc q9 ce H1 locs1 ls rest hP1 hS1 hce hcv hcl => ?_⟩
    exact vx_out (fun x hx => (hout x hx).elim) hlocks hce hcv hcl (fun t ht hvm => ⟨(), trivial, ⟨rfl, by rw [ht]; exact hP1⟩, hS1.F ht⟩) hS1.2.2 (Nat.le_refl _) (Nat.le_refl _)
end RowsX

theorem tsw_out1 {x : Int32} (c0 : ¬ x = 0) (c1 : ¬ x = 1) : x.toInt < 0 ∨ (1 : Int) < x.toInt := by
  have h0 : ¬ x.toInt = 0 := lv_neT c0 (by decide)
  have h1 : ¬ x.toInt = 1 := lv_neT c1 (by decide)
  omega
theorem tsw_out2 {x : Int32} (c0 : ¬ x = 0) (c1 : ¬ x = 1) (c2 : ¬ x = 2) : x.toInt < 0 ∨ (2 : Int) < x.toInt := by
  have h0 : ¬ x.toInt = 0 := lv_neT c0 (by decide)
  have h1 : ¬ x.toInt = 1 := lv_neT c1 (by decide)
  have h2 : ¬ x.toInt = 2 := lv_neT c2 (by decide)
  omega
theorem tsw_out3 {x : Int32} (c0 : ¬ x = 0) (c1 : ¬ x = 1) (c2 : ¬ x = 2) (c3 : ¬ x = 3) : x.toInt < 0 ∨ (3 : Int) < x.toInt := by
  have h0 : ¬ x.toInt = 0 := lv_neT c0 (by decide)
  have h1 : ¬ x.toInt = 1 := lv_neT c1 (by decide)
  have h2 : ¬ x.toInt = 2 := lv_neT c2 (by decide)
  have h3 : ¬ x.toInt = 3 := lv_neT c3 (by decide)
  omega
theorem tsw_out4 {x : Int32} (c0 : ¬ x = 0) (c1 : ¬ x = 1) (c2 : ¬ x = 2) (c3 : ¬ x = 3) (c4 : ¬ x = 4) : x.toInt < 0 ∨ (4 : Int) < x.toInt := by
  have h0 : ¬ x.toInt = 0 := lv_neT c0 (by decide)
  have h1 : ¬ x.toInt = 1 := lv_neT c1 (by decide)
  have h2 : ¬ x.toInt = 2 := lv_neT c2 (by decide)
  have h3 : ¬ x.toInt = 3 := lv_neT c3 (by decide)
  have h4 : ¬ x.toInt = 4 := lv_neT c4 (by decide)
  omega
theorem tsw_out5 {x : Int32} (c0 : ¬ x = 0) (c1 : ¬ x = 1) (c2 : ¬ x = 2) (c3 : ¬ x = 3) (c4 : ¬ x = 4) (c5 : ¬ x = 5) : x.toInt < 0 ∨ (5 : Int) < x.toInt := by
  have h0 : ¬ x.toInt = 0 := lv_neT c0 (by decide)
  have h1 : ¬ x.toInt = 1 := lv_neT c1 (by decide)
  have h2 : ¬ x.toInt = 2 := lv_neT c2 (by decide)
  have h3 : ¬ x.toInt = 3 := lv_neT c3 (by decide)
  have h4 : ¬ x.toInt = 4 := lv_neT c4 (by decide)
  have h5 : ¬ x.toInt = 5 := lv_neT c5 (by decide)
  omega
end
