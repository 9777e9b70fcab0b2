/-! ===== a system's state: its int fields, its int rows, its long rows, each by a number; the steps that its methods take ===== -/
abbrev SH : Type := (Nat → Int32) × (Nat → Nat → Int32) × (Nat → Nat → Int64)
def gi (σ : SH) (k : Nat) : Int32 := σ.1 k
def ga (σ : SH) (k : Nat) (i : Int32) : Int32 := σ.2.1 k i.toNatClampNeg
def gl (σ : SH) (k : Nat) (i : Int32) : Int64 := σ.2.2 k i.toNatClampNeg
def si (σ : SH) (k : Nat) (v : Int32) : SH := (upd σ.1 k v, σ.2.1, σ.2.2)
def sa (σ : SH) (k : Nat) (i v : Int32) : SH := (σ.1, fun j => if j = k then upd (σ.2.1 k) i.toNatClampNeg v else σ.2.1 j, σ.2.2)
def sl (σ : SH) (k : Nat) (i : Int32) (v : Int64) : SH := (σ.1, σ.2.1, fun j => if j = k then vp_updL (σ.2.2 k) i.toNatClampNeg v else σ.2.2 j)
def inb (i : Int32) (n : Nat) : Bool := decide (0 ≤ i.toInt) && decide (i.toInt < n)
theorem inb_in {i : Int32} {n : Nat} (h : inb i n = true) : vp_in i n := by
  rw [inb, Bool.and_eq_true, decide_eq_true_eq, decide_eq_true_eq] at h
  exact vp_in_iff.mpr h
def isB (v : Int32) : Bool := decide (v &&& 1 = v)
theorem isB_nar {v : Int32} (h : isB v = true) : narrow .boolean (.int v) = .int v := by
  rw [isB, decide_eq_true_eq] at h
  show Value.int (v &&& 1) = _
  rw [h]
section PureSteps
variable {α β : Type}
def rda (σ : SH) (k n : Nat) (i : Int32) (F : Int32 → Option β) : Option β := if inb i n = true then F (ga σ k i) else none
def rdl (σ : SH) (k n : Nat) (i : Int32) (F : Int64 → Option β) : Option β := if inb i n = true then F (gl σ k i) else none
def wra (σ : SH) (k n : Nat) (i v : Int32) (F : SH → Option β) : Option β := if inb i n = true then F (sa σ k i v) else none
def wrl (σ : SH) (k n : Nat) (i : Int32) (v : Int64) (F : SH → Option β) : Option β := if inb i n = true then F (sl σ k i v) else none
def rdi (σ : SH) (k : Nat) (F : Int32 → Option β) : Option β := F (gi σ k)
def wri (σ : SH) (k : Nat) (v : Int32) (F : SH → Option β) : Option β := F (si σ k v)
def bnd (c : Option (α × SH)) (F : α → SH → Option β) : Option β := match c with
  | none => none
  | some q => F q.1 q.2
def bndX (c : Option ((String ⊕ α) × SH)) (F : α → SH → Option ((String ⊕ β) × SH)) : Option ((String ⊕ β) × SH) := match c with
  | none => none
  | some (.inl E, σ) => some (.inl E, σ)
  | some (.inr a, σ) => F a σ
def gdb (b : Bool) (x : Option β) : Option β := if b = true then x else none
theorem rda_h {σ : SH} {k n : Nat} {i : Int32} {F : Int32 → Option β} {r : β} (h : rda σ k n i F = some r) : inb i n = true ∧ F (ga σ k i) = some r := by
  unfold rda at h
  split at h
  · exact ⟨by assumption, h⟩
  · cases h
theorem rdl_h {σ : SH} {k n : Nat} {i : Int32} {F : Int64 → Option β} {r : β} (h : rdl σ k n i F = some r) : inb i n = true ∧ F (gl σ k i) = some r := by
  unfold rdl at h
  split at h
  · exact ⟨by assumption, h⟩
  · cases h
theorem wra_h {σ : SH} {k n : Nat} {i v : Int32} {F : SH → Option β} {r : β} (h : wra σ k n i v F = some r) : inb i n = true ∧ F (sa σ k i v) = some r := by
  unfold wra at h
  split at h
  · exact ⟨by assumption, h⟩
  · cases h
theorem wrl_h {σ : SH} {k n : Nat} {i : Int32} {v : Int64} {F : SH → Option β} {r : β} (h : wrl σ k n i v F = some r) : inb i n = true ∧ F (sl σ k i v) = some r := by
  unfold wrl at h
  split at h
  · exact ⟨by assumption, h⟩
  · cases h
theorem gdb_h {b : Bool} {x : Option β} {r : β} (h : gdb b x = some r) : b = true ∧ x = some r := by
  unfold gdb at h
  split at h
  · exact ⟨by assumption, h⟩
  · cases h
theorem bnd_h {c : Option (α × SH)} {F : α → SH → Option β} {r : β} (h : bnd c F = some r) : ∃ a σ, c = some (a, σ) ∧ F a σ = some r := by
  unfold bnd at h
  split at h
  · cases h
  · exact ⟨_, _, rfl, h⟩
theorem bndX_h {c : Option ((String ⊕ α) × SH)} {F : α → SH → Option ((String ⊕ β) × SH)} {r : (String ⊕ β) × SH} (h : bndX c F = some r) : (∃ a σ, c = some (.inr a, σ) ∧ F a σ = some r) ∨ ∃ E σ, c = some (.inl E, σ) ∧ r = (.inl E, σ) := by
  unfold bndX at h
  split at h
  · cases h
  · exact Or.inr ⟨_, _, rfl, (Option.some.inj h).symm⟩
  · exact Or.inl ⟨_, _, rfl, h⟩
end PureSteps
/-! ===== a method's start and end over a world that a state fills ===== -/
def cP (D : va_G) (cl : List vw_C) (tys : List (ClassId × FieldType)) (ww : va_W) (sz : Nat) (av : List Value) : Array Value → State → Prop := va_Pc av (fun U => U.heap.size = sz ∧ va_P D cl ww U.heap ∧ va_K D cl tys U ∧ va_D (fun _ => True) ww)
def cPX (X : (Nat → Prop) → State → Prop) (D : va_G) (cl : List vw_C) (tys : List (ClassId × FieldType)) (ww : va_W) (sz : Nat) (av : List Value) : Array Value → State → Prop := va_Pc av (fun U => U.heap.size = sz ∧ va_P D cl ww U.heap ∧ va_K D cl tys U ∧ va_D (fun _ => True) ww ∧ X (va_A ww sz) U)
theorem cP_blind {D : va_G} {cl : List vw_C} {tys : List (ClassId × FieldType)} {ww : va_W} {sz : Nat} {av : List Value} : FrameBlind (cP D cl tys ww sz av) := by
  intro a U g mk q
  obtain ⟨q0, q1, qP, qK, qD⟩ := q
  exact ⟨q0, q1, qP, va_K.moved (u := U) (U := U.calling g mk a) (Vm.Alike.refl U.vm) qK, qD⟩
abbrev cQi (D : va_G) (cl : List vw_C) (w : SH → va_W) (σ : SH) (sz : Nat) (r : Int32 × SH) : Array Value → State → Outcome → State → Prop := va_Qi (fun v u => (v, u) = r) (fun u t => va_P D cl (w u) t.heap) (va_A (w σ) sz)
abbrev cQl (D : va_G) (cl : List vw_C) (w : SH → va_W) (σ : SH) (sz : Nat) (r : Int64 × SH) : Array Value → State → Outcome → State → Prop := va_Ql (fun v u => (v, u) = r) (fun u t => va_P D cl (w u) t.heap) (va_A (w σ) sz)
abbrev cQv (D : va_G) (cl : List vw_C) (w : SH → va_W) (σ : SH) (sz : Nat) (r : Unit × SH) : Array Value → State → Outcome → State → Prop := va_Qv (fun u => ((), u) = r) (fun u t => va_P D cl (w u) t.heap) (va_A (w σ) sz)
/-- the same addresses, whatever the state -/
def wSame (w : SH → va_W) : Prop := ∀ σ σ' : SH, (w σ).map Prod.fst = (w σ').map Prod.fst
theorem wSame.at {w : SH → va_W} (h : wSame w) {σ σ' : SH} {k : Nat} {q : Nat × va_E} (hk : (w σ)[k]? = some q) : ∃ e, (w σ')[k]? = some (q.1, e) := by
  have h1 : ((w σ).map Prod.fst)[k]? = some q.1 := by rw [List.getElem?_map, hk]; rfl
  rw [h σ σ', List.getElem?_map] at h1
  cases h2 : (w σ')[k]? with
  | none => rw [h2] at h1; cases h1
  | some z => rw [h2] at h1; exact ⟨z.2, by rw [← Option.some.inj h1]⟩
theorem wSame.D {w : SH → va_W} (h : wSame w) {A : Nat → Prop} {σ : SH} (hD : va_D A (w σ)) (σ' : SH) : va_D A (w σ') := by
  refine ⟨fun i j x y hi hj hxy => ?_, fun k q hk => ?_⟩
  · obtain ⟨e1, h1⟩ := h.at (σ' := σ) hi
    obtain ⟨e2, h2⟩ := h.at (σ' := σ) hj
    exact hD.1 i j _ _ h1 h2 hxy
  · obtain ⟨e1, h1⟩ := h.at (σ' := σ) hk
    exact hD.2 k (q.1, e1) h1
theorem wA_sub {w : SH → va_W} {A : Nat → Prop} {σ : SH} {sz sz' : Nat} (hD : va_D A (w σ)) (hA : ∀ q, sz ≤ q → A q) (hsz : sz ≤ sz') : ∀ q, va_A (w σ) sz' q → A q := by
  intro q h
  rcases h with ⟨k, e, h⟩ | h
  · exact hD.2 k _ h
  · exact hA q (Nat.le_trans hsz h)
/-! ===== the fixed things of a walk ===== -/
def Cx (p : Program) (s : State) (m : MethodId) (args : Array Value) (c : Code) (cc : ByteArray) (nL : Nat) (Ts : List Cond) (own : String) (D : va_G) (cl : List vw_C) (tys : List (ClassId × FieldType)) (w : SH → va_W) (A : Nat → Prop) (R : Room) (fr lo : Nat) : Prop :=
  CallFix p m c cc nL s args Ts own ∧ va_K D cl tys s ∧ (∀ σ, va_D A (w σ)) ∧ (∀ q, s.heap.size ≤ q → A q) ∧ fr ≤ R.frames ∧ lo ≤ R.locals
section Rows2
variable {p : Program} {l : Launch} {e : Env} {R : Room} {s : State} {m : MethodId} {args : Array Value} {below : List Frame} {meth : Method} {c : Code} {H : Heap} {locs : List Loc} {cells slots : Nat} {Q : State → Prop}
variable {cc : ByteArray} {pc : Nat} {ls : Array Slot} {rest : List Value} {D : va_G} {cl : List vw_C} {A : Nat → Prop} {a : Nat} {tys : List (ClassId × FieldType)} {w : SH → va_W} {σ : SH} {ρ : Type} {r : ρ} {nL fr lo : Nat} {Ts : List Cond} {own : String}
theorem b_iald (C : Cx p s m args c cc nL Ts own D cl tys w A R fr lo) (hP : va_P D cl (w σ) H) {k n : Nat} {i : Int32} {F : Int32 → Option ρ} (h : rda σ k n i F = some r) {cA : ClassId} (q0 : Nat) (ha : (w σ)[q0]? = some (a, .inl (cA, n, .inl (σ.2.1 k)))) (t0 : Nat) (ht : tys[t0]? = some (cA, .int)) (hdg : decode cc pc = .ok (.iaload, 1))
    (kk : ∀ x : Int32, F x = some r → W p l e R s m args below meth c H locs cells slots Q (F0 m (pc + 1) ls (.int x :: rest))) : W p l e R s m args below meth c H locs cells slots Q (F0 m pc ls (.int i :: .ref a :: rest)) := by
  obtain ⟨hi, h⟩ := rda_h h
  exact va_iald C.1.1 C.1.2.1 C.2.1 hP q0 t0 ha ht (inb_in hi) hdg (kk _ h)
theorem b_zald (C : Cx p s m args c cc nL Ts own D cl tys w A R fr lo) (hP : va_P D cl (w σ) H) {k n : Nat} {i : Int32} {F : Int32 → Option ρ} (h : rda σ k n i F = some r) {cA : ClassId} (q0 : Nat) (ha : (w σ)[q0]? = some (a, .inl (cA, n, .inl (σ.2.1 k)))) (t0 : Nat) (ht : tys[t0]? = some (cA, .boolean)) (hdg : decode cc pc = .ok (.baload, 1))
    (kk : ∀ x : Int32, F x = some r → W p l e R s m args below meth c H locs cells slots Q (F0 m (pc + 1) ls (.int x :: rest))) : W p l e R s m args below meth c H locs cells slots Q (F0 m pc ls (.int i :: .ref a :: rest)) := by
  obtain ⟨hi, h⟩ := rda_h h
  exact va_zald C.1.1 C.1.2.1 C.2.1 hP q0 t0 ha ht (inb_in hi) hdg (kk _ h)
theorem b_lald (C : Cx p s m args c cc nL Ts own D cl tys w A R fr lo) (hP : va_P D cl (w σ) H) {k n : Nat} {i : Int32} {F : Int64 → Option ρ} (h : rdl σ k n i F = some r) {cA : ClassId} (q0 : Nat) (ha : (w σ)[q0]? = some (a, .inl (cA, n, .inr (.inl (σ.2.2 k))))) (t0 : Nat) (ht : tys[t0]? = some (cA, .long)) (hdg : decode cc pc = .ok (.laload, 1))
    (kk : ∀ x : Int64, F x = some r → W p l e R s m args below meth c H locs cells slots Q (F0 m (pc + 1) ls (.long x :: rest))) : W p l e R s m args below meth c H locs cells slots Q (F0 m pc ls (.int i :: .ref a :: rest)) := by
  obtain ⟨hi, h⟩ := rdl_h h
  exact va_lald C.1.1 C.1.2.1 C.2.1 hP q0 t0 ha ht (inb_in hi) hdg (kk _ h)
theorem b_iast (C : Cx p s m args c cc nL Ts own D cl tys w A R fr lo) (hP : va_P D cl (w σ) H) (hS : va_S A s.heap H locs) {k n : Nat} {i x : Int32} {F : SH → Option ρ} (h : wra σ k n i x F = some r) {cA : ClassId} (q0 : Nat) (ha : (w σ)[q0]? = some (a, .inl (cA, n, .inl (σ.2.1 k)))) (t0 : Nat) (ht : tys[t0]? = some (cA, .int))
    (hset : (w σ).set q0 (a, .inl (cA, n, .inl (upd (σ.2.1 k) i.toNatClampNeg x))) = w (sa σ k i x)) (hdg : decode cc pc = .ok (.iastore, 1))
    (kk : ∀ (σ1 : SH) (H1 : Heap) (locs1 : List Loc), F σ1 = some r → va_P D cl (w σ1) H1 → va_S A s.heap H1 locs1 → W p l e R s m args below meth c H1 locs1 cells slots Q (F0 m (pc + 1) ls rest)) : W p l e R s m args below meth c H locs cells slots Q (F0 m pc ls (.int x :: .int i :: .ref a :: rest)) := by
  obtain ⟨hi, h⟩ := wra_h h
  refine va_iast C.1.1 C.1.2.1 C.2.1 hP (C.2.2.1 σ) hS q0 t0 ha ht (inb_in hi) hdg (fun H1 locs1 hP1 _ hS1 => ?_)
  rw [hset] at hP1
  exact kk _ H1 locs1 h hP1 hS1
theorem b_zast (C : Cx p s m args c cc nL Ts own D cl tys w A R fr lo) (hP : va_P D cl (w σ) H) (hS : va_S A s.heap H locs) {k n : Nat} {i x : Int32} {F : SH → Option ρ} (h : wra σ k n i (vp_nar .boolean x) F = some r) {cA : ClassId} (q0 : Nat) (ha : (w σ)[q0]? = some (a, .inl (cA, n, .inl (σ.2.1 k)))) (t0 : Nat) (ht : tys[t0]? = some (cA, .boolean))
    (hset : (w σ).set q0 (a, .inl (cA, n, .inl (upd (σ.2.1 k) i.toNatClampNeg (vp_nar .boolean x)))) = w (sa σ k i (vp_nar .boolean x))) (hdg : decode cc pc = .ok (.bastore, 1))
    (kk : ∀ (σ1 : SH) (H1 : Heap) (locs1 : List Loc), F σ1 = some r → va_P D cl (w σ1) H1 → va_S A s.heap H1 locs1 → W p l e R s m args below meth c H1 locs1 cells slots Q (F0 m (pc + 1) ls rest)) : W p l e R s m args below meth c H locs cells slots Q (F0 m pc ls (.int x :: .int i :: .ref a :: rest)) := by
  obtain ⟨hi, h⟩ := wra_h h
  refine va_zast C.1.1 C.1.2.1 C.2.1 hP (C.2.2.1 σ) hS q0 t0 ha ht (inb_in hi) hdg (fun H1 locs1 hP1 _ hS1 => ?_)
  rw [hset] at hP1
  exact kk _ H1 locs1 h hP1 hS1
theorem b_last (C : Cx p s m args c cc nL Ts own D cl tys w A R fr lo) (hP : va_P D cl (w σ) H) (hS : va_S A s.heap H locs) {k n : Nat} {i : Int32} {x : Int64} {F : SH → Option ρ} (h : wrl σ k n i x F = some r) {cA : ClassId} (q0 : Nat) (ha : (w σ)[q0]? = some (a, .inl (cA, n, .inr (.inl (σ.2.2 k))))) (t0 : Nat) (ht : tys[t0]? = some (cA, .long))
    (hset : (w σ).set q0 (a, .inl (cA, n, .inr (.inl (vp_updL (σ.2.2 k) i.toNatClampNeg x)))) = w (sl σ k i x)) (hdg : decode cc pc = .ok (.lastore, 1))
    (kk : ∀ (σ1 : SH) (H1 : Heap) (locs1 : List Loc), F σ1 = some r → va_P D cl (w σ1) H1 → va_S A s.heap H1 locs1 → W p l e R s m args below meth c H1 locs1 cells slots Q (F0 m (pc + 1) ls rest)) : W p l e R s m args below meth c H locs cells slots Q (F0 m pc ls (.long x :: .int i :: .ref a :: rest)) := by
  obtain ⟨hi, h⟩ := wrl_h h
  refine va_last C.1.1 C.1.2.1 C.2.1 hP (C.2.2.1 σ) hS q0 t0 ha ht (inb_in hi) hdg (fun H1 locs1 hP1 _ hS1 => ?_)
  rw [hset] at hP1
  exact kk _ H1 locs1 h hP1 hS1
end Rows2
