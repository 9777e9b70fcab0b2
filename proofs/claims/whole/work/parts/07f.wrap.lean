/-! ===== the law's wrappers: a call that may throw, each kind of throw told by a number ===== -/
def ncL : List (String × String) := [(eArg, eIdx), (eSta, eIdx), (eSta, eArg), (eNo, eIdx), (eNo, eArg)]
def thY (sx : Nat → Nat) (B : Nat → Prop) (U : State) : Prop := thX sx B U ∧ ∀ q ∈ ncL, va_Nc q.1 q.2 U
theorem cPY_blind {sx : Nat → Nat} {D : va_G} {cl : List vw_C} {tys : List (ClassId × FieldType)} {ww : va_W} {sz : Nat} {av : List Value} : FrameBlind (cPX (thY sx) D cl tys ww sz av) := by
  intro a U g mk q
  obtain ⟨q0, q1, qP, qK, qD, qX, qN⟩ := q
  obtain ⟨r0, r1, rP, rK, rD, rX⟩ := cPX_blind (sx := sx) (D := D) (cl := cl) (tys := tys) (ww := ww) (sz := sz) (av := av) a U g mk ⟨q0, q1, qP, qK, qD, qX⟩
  exact ⟨r0, r1, rP, rK, rD, rX, fun z hz => va_Nc.moved (u := U) (U := U.calling g mk a) (Vm.Alike.refl U.vm) (qN z hz)⟩
abbrev outE (cJ : ClassId) (ao : Nat) (f : Nat → Int64) : Nat × va_E := (ao, .inl (cJ, 1, .inr (.inl f)))
abbrev wW (cI cJ cZ : ClassId) (ad : Nat → Nat) (ao : Nat) (u : SH × (Nat → Int64)) : va_W := wH cI cJ cZ ad u.1 ++ [outE cJ ao u.2]
def wrI (code : String → Int32) (f : Nat → Int64) (r : (String ⊕ Int32) × SH) : Int32 × (SH × (Nat → Int64)) := match r with
  | (.inr v, z) => (0, (z, vp_updL f 0 v.toInt64))
  | (.inl E, z) => (code E, (z, f))
def wrL (code : String → Int32) (f : Nat → Int64) (r : (String ⊕ Int64) × SH) : Int32 × (SH × (Nat → Int64)) := match r with
  | (.inr v, z) => (0, (z, vp_updL f 0 v))
  | (.inl E, z) => (code E, (z, f))
def wrV (code : String → Int32) (r : (String ⊕ Unit) × SH) : Int32 × SH := match r with
  | (.inr _, z) => (0, z)
  | (.inl E, z) => (code E, z)
section Parts
variable {D : va_G} {cl : List vw_C} {A : Nat → Prop} {a b : va_W} {H H1 : Heap}
theorem app_l {α : Type} {a b : List α} {i : Nat} {x : α} (h : a[i]? = some x) : (a ++ b)[i]? = some x := by
  rw [List.getElem?_append_left (List.getElem?_eq_some_iff.mp h).1]
  exact h
theorem app_r {α : Type} {a b : List α} {i : Nat} : (a ++ b)[a.length + i]? = b[i]? := by
  rw [List.getElem?_append_right (Nat.le_add_right _ _), Nat.add_sub_cancel_left]
theorem vaP_app : va_P D cl (a ++ b) H ↔ va_P D cl a H ∧ va_P D cl b H := by
  constructor
  · intro h
    exact ⟨fun k q hk => h k q (app_l hk), fun k q hk => h (a.length + k) q (by rw [app_r]; exact hk)⟩
  · rintro ⟨h1, h2⟩ k q hk
    by_cases c : k < a.length
    · rw [List.getElem?_append_left c] at hk
      exact h1 k q hk
    · rw [List.getElem?_append_right (by omega)] at hk
      exact h2 _ q hk
theorem vaD_app (h : va_D A (a ++ b)) : va_D A a ∧ va_D A b ∧ ∀ (i j : Nat) (p q : Nat × va_E), a[i]? = some p → b[j]? = some q → p.1 ≠ q.1 := by
  refine ⟨⟨fun i j p q hi hj e => h.1 i j p q (app_l hi) (app_l hj) e, fun k q hk => h.2 k q (app_l hk)⟩, ⟨fun i j p q hi hj e => ?_, fun k q hk => h.2 (a.length + k) q (by rw [app_r]; exact hk)⟩, fun i j p q hi hj e => ?_⟩
  · have := h.1 (a.length + i) (a.length + j) p q (by rw [app_r]; exact hi) (by rw [app_r]; exact hj) e
    omega
  · have := h.1 i (a.length + j) p q (app_l hi) (by rw [app_r]; exact hj) e
    have := (List.getElem?_eq_some_iff.mp hi).1
    omega
theorem keep_app (hP : va_P D cl b H) (hdis : ∀ (i j : Nat) (p q : Nat × va_E), a[i]? = some p → b[j]? = some q → p.1 ≠ q.1) (hk : ∀ q, q < H.size → ¬ va_A a H.size q → H1[q]? = H[q]?) : va_P D cl b H1 := by
  refine hP.kept (fun k q hq => hk q.1 (hP k q hq).lt ?_)
  rintro (⟨k1, e1, h1⟩ | h1)
  · exact hdis k1 k _ _ h1 hq rfl
  · have := (hP k q hq).lt
    omega
theorem vaA_sub (hA : ∀ (k : Nat) (q : Nat × va_E), a[k]? = some q → A q.1) {sz sz' : Nat} (hB : ∀ q, sz ≤ q → A q) (hs : sz ≤ sz') : ∀ q, va_A a sz' q → A q := by
  rintro q (⟨k, e, h⟩ | h)
  · exact hA k _ h
  · exact hB q (by omega)
end Parts
section Wrap
variable {l : Launch} {D : va_G} {cl : List vw_C} {tys : List (ClassId × FieldType)} {cc : ByteArray} {sx : Nat → Nat}
theorem ofL {S : Type} {wu : S → va_W} {r : Int32 × S} {ww : va_W} {sz : Nat} {y : MethodName} {ws ws' : List Cond} {rm : Room} {maxL : Nat} {hh : List (Nat × Nat × Nat × Nat)} {av : List Value} (hy : plainName y.cls = true) (hw : ws = Cond.codeWith y cc maxL (some .int) hh :: ws') (hlen : (lg_sl av).length ≤ maxL)
    (body : ∀ (p : Program) (e : Env) (s : State) (m : MethodId) (below : List Frame) (meth : Method) (c : Code) (ls : Array Slot), s.heap.size = sz → CallFix p m c cc maxL s av.toArray ws y.cls → va_K D cl tys s → va_D (va_A ww sz) ww → (∀ q, s.heap.size ≤ q → va_A ww sz q) → c.exceptionTable.toList = tableOf hh → thY sx (va_A ww sz) s →
      (∀ (pc : Nat) (H : Heap) (locs : List Loc) (ls : Array Slot) (v : Int32) (u : S) (k n : Nat), (v, u) = r → decode cc pc = .ok (.ireturn, 1) → va_P D cl (wu u) H → va_S (va_A ww sz) s.heap H locs → k ≤ 1 → n ≤ 6 → W p l e rm s m av.toArray below meth c H locs k n (MQ below (va_Qi (fun v u => (v, u) = r) (fun u t => va_P D cl (wu u) t.heap) (va_A ww sz)) av.toArray s 1 6 (va_A ww sz)) (F0 m pc ls [.int v])) →
      va_P D cl ww s.heap → lv_has ls maxL (lv_args 0 av) → W p l e rm s m av.toArray below meth c s.heap [] 0 0 (MQ below (va_Qi (fun v u => (v, u) = r) (fun u t => va_P D cl (wu u) t.heap) (va_A ww sz)) av.toArray s 1 6 (va_A ww sz)) (F0 m 0 ls [])) :
    Met l y ws rm (cPX (thY sx) D cl tys ww sz av) (va_Qi (fun v u => (v, u) = r) (fun u t => va_P D cl (wu u) t.heap) (va_A ww sz)) 1 6 (va_A ww sz) := by
  refine va_MetW (cc := cc) (maxL := maxL) (ret := some .int) (hh := hh) hy hw ?_
  intro p e s m args below meth c s₁ B hml hv
  obtain ⟨rfl, hsz, hP, hK, hD0, hX⟩ := hv
  have hlocks := B.notSynchronized
  subst hsz
  have hts := atoms_spec (ws := ws) B.pre
  rw [lg_entry_eq]
  refine body p e s m below meth c _ rfl ⟨B.exec, B.bytes, hml, findClass_of_methodNamed B.named, hts⟩ hK (hD0.self (sz := s.heap.size)) (fun q h => Or.inr h) (vx_table (x := y) B (hts _ (by rw [hw]; exact List.mem_cons_self))) hX ?_ hP (lv_entry av hlen)
  intro pc H locs ls v u k n hq hdg hP1 hS1 hk hn
  refine W.widen hk hn ?_
  exact W.iret B.exec B.bytes B.returns (fun t ht _ => ⟨⟨v, u, rfl, hq, by show va_P D cl (wu u) t.heap; rw [ht]; exact hP1⟩, hS1.F ht⟩) hS1.2.2 hdg
variable {p : Program} {e : Env} {R : Room} {s : State} {m : MethodId} {args : Array Value} {below : List Frame} {meth : Method} {c : Code} {H : Heap} {locs : List Loc} {Q : State → Prop} {pc nL : Nat} {ls : Array Slot} {rest st0 : List Value} {A : Nat → Prop} {Ts : List Cond} {own : String}
theorem thrown_o {w : SH → va_W} {σ σ1 : SH} {E : String} (hr : vx_Run p l e R s m args below meth c H locs 0 0 1 6 (F0 m pc ls st0) rest (fun _ _ _ => False) (cXX D cl w σ H.size E σ1) (va_A (w σ) H.size)) (hS : va_S A s.heap H locs) (hA : ∀ q, va_A (w σ) H.size q → A q)
    (kx : ∀ (q9 : Addr) (ce : Cell) (H1 : Heap) (locs1 : List Loc), va_P D cl (w σ1) H1 → (∀ q, q < H.size → ¬ va_A (w σ) H.size q → H1[q]? = H[q]?) → va_S A s.heap H1 locs1 → H1[q9]? = some ce → ce.vm = .none → s.vm.findClass E = some ce.cls → vx_W p l e R s m args below meth c H1 locs1 (0 + 1) (0 + 6) Q (F0 m pc ls rest) q9) : W p l e R s m args below meth c H locs 0 0 Q (F0 m pc ls st0) := by
  intro T hTh X
  rcases hr T hTh X with ⟨v, st₀, t, T', L, h0, X', hL, e1, e2, hF, st⟩ | ⟨q, st₀, t, T', L, E1, ce, h0, X', hL, e1, e2, ⟨u, hp, hb, hF⟩, hce, hcv, hcl, st⟩
  · exact hF.elim
  · obtain ⟨rfl, hb⟩ := hb
    obtain ⟨k1, k2, k3⟩ := vx_keep h0 e1 hS (fun q _ h => hA q h) hA hL hF
    obtain ⟨t2, a1, b1⟩ := kx q ce T'.heap (locs ++ L) (by rw [e1]; exact hb) k2 k3 (by rw [e1]; exact hce) hcv hcl T' rfl X'
    exact ⟨t2, st.trans a1, b1⟩
/-- a row of the table takes it: the number that it stands for is the answer -/
theorem kL_c {S : Type} {wu : S → va_W} {E name : String} {ce : Cell} {q9 : Addr} {hh : List (Nat × Nat × Nat × Nat)} (C : CallFix p m c cc nL s args Ts own) (htab : c.exceptionTable.toList = tableOf hh) (hX : thY sx A s) (pre : List ExceptionTableEntry) (x : ExceptionTableEntry) (suf : List ExceptionTableEntry) (hsplit : tableOf hh = pre ++ x :: suf)
    (hpass : ∀ z ∈ pre, z.catchType ≠ 0 ∧ ∃ nm : String, Cond.classLink own z.catchType nm ∈ Ts ∧ (E, nm) ∈ ncL) (hx : covers x pc = true) (h0 : x.catchType ≠ 0) (hlink : Cond.classLink own x.catchType E ∈ Ts) (hcast : Cond.castable E E ∈ thBad)
    (hcell : H[q9]? = some ce) (hv : ce.vm = .none) (hcl : s.vm.findClass E = some ce.cls)
    (kk : W p l e R s m args below meth c H locs 1 6 Q (F0 m x.handlerPc ls [.ref q9])) : vx_W p l e R s m args below meth c H locs (0 + 1) (0 + 6) Q (F0 m pc ls rest) q9 := by
  refine kc_catch C.2.2.2.1 pre x suf (htab.trans hsplit) (fun z hz => .inr ?_) hx h0 (C.2.2.2.2 _ hlink) (va_Nw.use (thBad_ot _ hcast) (hX.1.2.2.2 _ hcast)) hcell hv hcl kk
  obtain ⟨h1, nm, h2, h3⟩ := hpass z hz
  exact ⟨h1, nm, C.2.2.2.2 _ h2, hX.2 _ h3⟩
end Wrap
section Wrap2
variable {l : Launch} {D : va_G} {cI cJ cZ : ClassId} {ad : Nat → Nat} {ao : Nat} {f : Nat → Int64} {cc : ByteArray} {sx : Nat → Nat} {p : Program} {e : Env} {R : Room} {s : State} {m : MethodId} {args : Array Value} {below : List Frame} {meth : Method} {c : Code} {H : Heap} {locs : List Loc} {Q : State → Prop} {pc nL : Nat} {ls : Array Slot} {st0 : List Value} {A : Nat → Prop} {Ts : List Cond} {own : String} {z0 : SH}
variable {y : MethodName} {ws : List Cond} {rm : Room} {bytes : ByteArray} {maxL n index : Nat} {ret : Option FieldType} {As : List Value} {tgt : Nat}
theorem kL_i (C : CallFix p m c cc nL s args Ts own) (hK : va_K D vwCl (tyl cI cJ cZ) s) (hD : va_D A (wW cI cJ cZ ad ao (z0, f))) (hA : ∀ q, s.heap.size ≤ q → A q) (hX : thY sx A s) {callee : Option ((String ⊕ Int32) × SH)} {r : (String ⊕ Int32) × SH} (hc : callee = some r) (code : String → Int32)
    (hP : va_P D vwCl (wW cI cJ cZ ad ao (z0, f)) H) (hS : va_S A s.heap H locs)
    (hM : ∀ (q : Int32 × SH) (sz : Nat), callee = some (.inr q.1, q.2) → Met l y ws rm (cP D vwCl (tyl cI cJ cZ) (wH cI cJ cZ ad z0) sz (.ref (ad 0) :: As)) (cQi D vwCl (wH cI cJ cZ ad) z0 sz q) 0 0 (va_A (wH cI cJ cZ ad z0) sz))
    (hN : ∀ (E : String) (σ1 : SH) (sz : Nat), callee = some (.inl E, σ1) → vx_Met l y ws (rmX rm) (cPX (thX sx) D vwCl (tyl cI cJ cZ) (wH cI cJ cZ ad z0) sz (.ref (ad 0) :: As)) cQno (cXX D vwCl (wH cI cJ cZ ad) z0 sz E σ1) 1 6 (va_A (wH cI cJ cZ ad z0) sz))
    (cw : CallW R s args own RX4 index y bytes maxL ret ws rm 0 0 n) (cwX : CallW R s args own RX4 index y bytes maxL ret ws (rmX rm) 1 6 n) (hR : 1 ≤ R.cells ∧ 6 ≤ R.slots) (hn : As.length = n) (hsize : ls.size = nL) (hst : st0 = As.reverse ++ .ref (ad 0) :: [.int 0, .ref ao]) {off : Int}
    (hd1 : decode cc pc = .ok (.invokevirtual index, 3)) (hd2 : decode cc (pc + 3) = .ok (.i2l, 1)) (hd3 : decode cc (pc + 4) = .ok (.lastore, 1)) (hd4 : decode cc (pc + 5) = .ok (.goto off, 3)) (ht : ((pc + 5 : Nat) : Int) + off = (tgt : Int)) (hd5 : decode cc tgt = .ok (.iconst 0, 1)) (hd6 : decode cc (tgt + 1) = .ok (.ireturn, 1))
    (hret : ∀ (pc : Nat) (H : Heap) (locs : List Loc) (ls : Array Slot) (v : Int32) (u : SH × (Nat → Int64)) (k n : Nat), (v, u) = wrI code f r → decode cc pc = .ok (.ireturn, 1) → va_P D vwCl (wW cI cJ cZ ad ao u) H → va_S A s.heap H locs → k ≤ 1 → n ≤ 6 → W p l e R s m args below meth c H locs k n Q (F0 m pc ls [.int v]))
    (hcat : ∀ (E : String) (z1 : SH), r = (.inl E, z1) → ∀ (q9 : Addr) (ce : Cell) (H1 : Heap) (locs1 : List Loc), va_P D vwCl (wW cI cJ cZ ad ao (z1, f)) H1 → va_S A s.heap H1 locs1 → H1[q9]? = some ce → ce.vm = .none → s.vm.findClass E = some ce.cls → vx_W p l e R s m args below meth c H1 locs1 (0 + 1) (0 + 6) Q (F0 m pc ls [.int 0, .ref ao]) q9) : W p l e R s m args below meth c H locs 0 0 Q (F0 m pc ls st0) := by
  obtain ⟨hPH, hPO⟩ := vaP_app.mp hP
  obtain ⟨hDH, hDO, hdis⟩ := vaD_app hD
  have hsub : ∀ q, va_A (wH cI cJ cZ ad z0) H.size q → A q := vaA_sub hDH.2 hA hS.1
  have hrecv := va_recv hK hPH (ci := 4) (q0 := 0) rfl (wH_0 cI cJ cZ ad z0)
  have hpreU : ∀ U : State, U.heap = H → s.WarmedH U.vm → U.heap.size = H.size ∧ va_P D vwCl (wH cI cJ cZ ad z0) U.heap ∧ va_K D vwCl (tyl cI cJ cZ) U ∧ va_D (fun _ => True) (wH cI cJ cZ ad z0) := fun U hU hW => ⟨by rw [hU], by rw [hU]; exact hPH, va_K.moved hW.alike hK, hDH.weaken (fun _ _ _ _ => trivial)⟩
  obtain ⟨r1, z1⟩ := r
  cases r1 with
  | inr v =>
    refine va_calli (va_runV (As := As) (rest := [.int 0, .ref ao]) C (hM (v, z1) H.size hc) cw ⟨cP_blind, hrecv, fun U hU hW => ⟨rfl, hpreU U hU hW⟩⟩ rfl hn hsize hst (lv_room (Nat.le_of_ble_eq_true rfl)) hd1 ⟨Nat.zero_le _, Nat.zero_le _⟩) hS (fun q _ h => hsub q h) hsub (fun r1 u t H1 locs1 ht1 hvm hw hB hz1 hk1 hS1 => ?_)
    cases hw
    rw [ht1] at hB
    have hPO1 := keep_app hPO hdis hk1
    refine lv_i2l C.1 C.2.1 hd2 rfl ?_
    have hD1 : va_D A (wW cI cJ cZ ad ao (z1, f)) := (show wSame (fun z => wW cI cJ cZ ad ao (z, f)) from fun _ _ => rfl).D (σ := z0) hD z1
    refine va_last C.1 C.2.1 hK (vaP_app.mpr ⟨hB, hPO1⟩) hD1 hS1 33 1 (show (wW cI cJ cZ ad ao (z1, f))[33]? = some (outE cJ ao f) from rfl) rfl (inb_in (by decide)) hd3 (fun H2 locs2 hP2 _ hS2 => ?_)
    refine lv_goto C.1 C.2.1 hd4 ht ?_
    refine lv_iconst (v := 0) C.1 C.2.1 hd5 (by decide) ?_
    exact hret (tgt + 1) H2 locs2 ls 0 (z1, vp_updL f 0 v.toInt64) _ _ rfl hd6 hP2 hS2 (Nat.zero_le _) (Nat.zero_le _)
  | inl E =>
    refine thrown_o (vx_runV (As := As) (rest := [.int 0, .ref ao]) C (hN E z1 H.size hc) cwX ⟨cPX_blind, hrecv, fun U hU hW => ⟨rfl, (hpreU U hU hW).1, (hpreU U hU hW).2.1, (hpreU U hU hW).2.2.1, (hpreU U hU hW).2.2.2, hX.1.to hS hsub hU hW⟩⟩ rfl hn hsize hst (lv_room (Nat.le_of_ble_eq_true rfl)) hd1 ⟨(by rw [Nat.zero_add]; exact hR.1), (by rw [Nat.zero_add]; exact hR.2)⟩) hS hsub (fun q9 ce H1 locs1 hB hk1 hS1 h1 h2 h3 => ?_)
    exact hcat E z1 rfl q9 ce H1 locs1 (vaP_app.mpr ⟨hB, keep_app hPO hdis hk1⟩) hS1 h1 h2 h3
theorem kL_l (C : CallFix p m c cc nL s args Ts own) (hK : va_K D vwCl (tyl cI cJ cZ) s) (hD : va_D A (wW cI cJ cZ ad ao (z0, f))) (hA : ∀ q, s.heap.size ≤ q → A q) (hX : thY sx A s) {callee : Option ((String ⊕ Int64) × SH)} {r : (String ⊕ Int64) × SH} (hc : callee = some r) (code : String → Int32)
    (hP : va_P D vwCl (wW cI cJ cZ ad ao (z0, f)) H) (hS : va_S A s.heap H locs)
    (hM : ∀ (q : Int64 × SH) (sz : Nat), callee = some (.inr q.1, q.2) → Met l y ws rm (cP D vwCl (tyl cI cJ cZ) (wH cI cJ cZ ad z0) sz (.ref (ad 0) :: As)) (cQl D vwCl (wH cI cJ cZ ad) z0 sz q) 0 0 (va_A (wH cI cJ cZ ad z0) sz))
    (hN : ∀ (E : String) (σ1 : SH) (sz : Nat), callee = some (.inl E, σ1) → vx_Met l y ws (rmX rm) (cPX (thX sx) D vwCl (tyl cI cJ cZ) (wH cI cJ cZ ad z0) sz (.ref (ad 0) :: As)) cQno (cXX D vwCl (wH cI cJ cZ ad) z0 sz E σ1) 1 6 (va_A (wH cI cJ cZ ad z0) sz))
    (cw : CallW R s args own RX4 index y bytes maxL ret ws rm 0 0 n) (cwX : CallW R s args own RX4 index y bytes maxL ret ws (rmX rm) 1 6 n) (hR : 1 ≤ R.cells ∧ 6 ≤ R.slots) (hn : As.length = n) (hsize : ls.size = nL) (hst : st0 = As.reverse ++ .ref (ad 0) :: [.int 0, .ref ao]) {off : Int}
    (hd1 : decode cc pc = .ok (.invokevirtual index, 3)) (hd3 : decode cc (pc + 3) = .ok (.lastore, 1)) (hd4 : decode cc (pc + 4) = .ok (.goto off, 3)) (ht : ((pc + 4 : Nat) : Int) + off = (tgt : Int)) (hd5 : decode cc tgt = .ok (.iconst 0, 1)) (hd6 : decode cc (tgt + 1) = .ok (.ireturn, 1))
    (hret : ∀ (pc : Nat) (H : Heap) (locs : List Loc) (ls : Array Slot) (v : Int32) (u : SH × (Nat → Int64)) (k n : Nat), (v, u) = wrL code f r → decode cc pc = .ok (.ireturn, 1) → va_P D vwCl (wW cI cJ cZ ad ao u) H → va_S A s.heap H locs → k ≤ 1 → n ≤ 6 → W p l e R s m args below meth c H locs k n Q (F0 m pc ls [.int v]))
    (hcat : ∀ (E : String) (z1 : SH), r = (.inl E, z1) → ∀ (q9 : Addr) (ce : Cell) (H1 : Heap) (locs1 : List Loc), va_P D vwCl (wW cI cJ cZ ad ao (z1, f)) H1 → va_S A s.heap H1 locs1 → H1[q9]? = some ce → ce.vm = .none → s.vm.findClass E = some ce.cls → vx_W p l e R s m args below meth c H1 locs1 (0 + 1) (0 + 6) Q (F0 m pc ls [.int 0, .ref ao]) q9) : W p l e R s m args below meth c H locs 0 0 Q (F0 m pc ls st0) := by
  obtain ⟨hPH, hPO⟩ := vaP_app.mp hP
  obtain ⟨hDH, hDO, hdis⟩ := vaD_app hD
  have hsub : ∀ q, va_A (wH cI cJ cZ ad z0) H.size q → A q := vaA_sub hDH.2 hA hS.1
  have hrecv := va_recv hK hPH (ci := 4) (q0 := 0) rfl (wH_0 cI cJ cZ ad z0)
  have hpreU : ∀ U : State, U.heap = H → s.WarmedH U.vm → U.heap.size = H.size ∧ va_P D vwCl (wH cI cJ cZ ad z0) U.heap ∧ va_K D vwCl (tyl cI cJ cZ) U ∧ va_D (fun _ => True) (wH cI cJ cZ ad z0) := fun U hU hW => ⟨by rw [hU], by rw [hU]; exact hPH, va_K.moved hW.alike hK, hDH.weaken (fun _ _ _ _ => trivial)⟩
  obtain ⟨r1, z1⟩ := r
  cases r1 with
  | inr v =>
    refine va_calll (va_runV (As := As) (rest := [.int 0, .ref ao]) C (hM (v, z1) H.size hc) cw ⟨cP_blind, hrecv, fun U hU hW => ⟨rfl, hpreU U hU hW⟩⟩ rfl hn hsize hst (lv_room (Nat.le_of_ble_eq_true rfl)) hd1 ⟨Nat.zero_le _, Nat.zero_le _⟩) hS (fun q _ h => hsub q h) hsub (fun r1 u t H1 locs1 ht1 hvm hw hB hz1 hk1 hS1 => ?_)
    cases hw
    rw [ht1] at hB
    have hPO1 := keep_app hPO hdis hk1
    have hD1 : va_D A (wW cI cJ cZ ad ao (z1, f)) := (show wSame (fun z => wW cI cJ cZ ad ao (z, f)) from fun _ _ => rfl).D (σ := z0) hD z1
    refine va_last C.1 C.2.1 hK (vaP_app.mpr ⟨hB, hPO1⟩) hD1 hS1 33 1 (show (wW cI cJ cZ ad ao (z1, f))[33]? = some (outE cJ ao f) from rfl) rfl (inb_in (by decide)) hd3 (fun H2 locs2 hP2 _ hS2 => ?_)
    refine lv_goto C.1 C.2.1 hd4 ht ?_
    refine lv_iconst (v := 0) C.1 C.2.1 hd5 (by decide) ?_
    exact hret (tgt + 1) H2 locs2 ls 0 (z1, vp_updL f 0 v) _ _ rfl hd6 hP2 hS2 (Nat.zero_le _) (Nat.zero_le _)
  | inl E =>
    refine thrown_o (vx_runV (As := As) (rest := [.int 0, .ref ao]) C (hN E z1 H.size hc) cwX ⟨cPX_blind, hrecv, fun U hU hW => ⟨rfl, (hpreU U hU hW).1, (hpreU U hU hW).2.1, (hpreU U hU hW).2.2.1, (hpreU U hU hW).2.2.2, hX.1.to hS hsub hU hW⟩⟩ rfl hn hsize hst (lv_room (Nat.le_of_ble_eq_true rfl)) hd1 ⟨(by rw [Nat.zero_add]; exact hR.1), (by rw [Nat.zero_add]; exact hR.2)⟩) hS hsub (fun q9 ce H1 locs1 hB hk1 hS1 h1 h2 h3 => ?_)
    exact hcat E z1 rfl q9 ce H1 locs1 (vaP_app.mpr ⟨hB, keep_app hPO hdis hk1⟩) hS1 h1 h2 h3
theorem kL_v (C : CallFix p m c cc nL s args Ts own) (hK : va_K D vwCl (tyl cI cJ cZ) s) (hDH : va_D A (wH cI cJ cZ ad z0)) (hA : ∀ q, s.heap.size ≤ q → A q) (hX : thY sx A s) {callee : Option ((String ⊕ Unit) × SH)} {r : (String ⊕ Unit) × SH} (hc : callee = some r) (code : String → Int32)
    (hPH : va_P D vwCl (wH cI cJ cZ ad z0) H) (hS : va_S A s.heap H locs)
    (hM : ∀ (q : Unit × SH) (sz : Nat), callee = some (.inr q.1, q.2) → Met l y ws rm (cP D vwCl (tyl cI cJ cZ) (wH cI cJ cZ ad z0) sz (.ref (ad 0) :: As)) (cQv D vwCl (wH cI cJ cZ ad) z0 sz q) 0 0 (va_A (wH cI cJ cZ ad z0) sz))
    (hN : ∀ (E : String) (σ1 : SH) (sz : Nat), callee = some (.inl E, σ1) → vx_Met l y ws (rmX rm) (cPX (thX sx) D vwCl (tyl cI cJ cZ) (wH cI cJ cZ ad z0) sz (.ref (ad 0) :: As)) cQno (cXX D vwCl (wH cI cJ cZ ad) z0 sz E σ1) 1 6 (va_A (wH cI cJ cZ ad z0) sz))
    (cw : CallW R s args own RX4 index y bytes maxL ret ws rm 0 0 n) (cwX : CallW R s args own RX4 index y bytes maxL ret ws (rmX rm) 1 6 n) (hR : 1 ≤ R.cells ∧ 6 ≤ R.slots) (hn : As.length = n) (hsize : ls.size = nL) (hst : st0 = As.reverse ++ .ref (ad 0) :: []) {off : Int}
    (hd1 : decode cc pc = .ok (.invokevirtual index, 3)) (hd4 : decode cc (pc + 3) = .ok (.goto off, 3)) (ht : ((pc + 3 : Nat) : Int) + off = (tgt : Int)) (hd5 : decode cc tgt = .ok (.iconst 0, 1)) (hd6 : decode cc (tgt + 1) = .ok (.ireturn, 1))
    (hret : ∀ (pc : Nat) (H : Heap) (locs : List Loc) (ls : Array Slot) (v : Int32) (u : SH) (k n : Nat), (v, u) = wrV code r → decode cc pc = .ok (.ireturn, 1) → va_P D vwCl (wH cI cJ cZ ad u) H → va_S A s.heap H locs → k ≤ 1 → n ≤ 6 → W p l e R s m args below meth c H locs k n Q (F0 m pc ls [.int v]))
    (hcat : ∀ (E : String) (z1 : SH), r = (.inl E, z1) → ∀ (q9 : Addr) (ce : Cell) (H1 : Heap) (locs1 : List Loc), va_P D vwCl (wH cI cJ cZ ad z1) H1 → va_S A s.heap H1 locs1 → H1[q9]? = some ce → ce.vm = .none → s.vm.findClass E = some ce.cls → vx_W p l e R s m args below meth c H1 locs1 (0 + 1) (0 + 6) Q (F0 m pc ls []) q9) : W p l e R s m args below meth c H locs 0 0 Q (F0 m pc ls st0) := by
  have hsub : ∀ q, va_A (wH cI cJ cZ ad z0) H.size q → A q := vaA_sub hDH.2 hA hS.1
  have hrecv := va_recv hK hPH (ci := 4) (q0 := 0) rfl (wH_0 cI cJ cZ ad z0)
  have hpreU : ∀ U : State, U.heap = H → s.WarmedH U.vm → U.heap.size = H.size ∧ va_P D vwCl (wH cI cJ cZ ad z0) U.heap ∧ va_K D vwCl (tyl cI cJ cZ) U ∧ va_D (fun _ => True) (wH cI cJ cZ ad z0) := fun U hU hW => ⟨by rw [hU], by rw [hU]; exact hPH, va_K.moved hW.alike hK, hDH.weaken (fun _ _ _ _ => trivial)⟩
  obtain ⟨r1, z1⟩ := r
  cases r1 with
  | inr v =>
    refine va_callv (va_runV (As := As) (rest := []) C (hM (v, z1) H.size hc) cw ⟨cP_blind, hrecv, fun U hU hW => ⟨rfl, hpreU U hU hW⟩⟩ rfl hn hsize hst (lv_room (Nat.le_of_ble_eq_true rfl)) hd1 ⟨Nat.zero_le _, Nat.zero_le _⟩) hS (fun q _ h => hsub q h) hsub (fun u t H1 locs1 ht1 hvm hw hB hz1 hk1 hS1 => ?_)
    cases hw
    rw [ht1] at hB
    refine lv_goto C.1 C.2.1 hd4 ht ?_
    refine lv_iconst (v := 0) C.1 C.2.1 hd5 (by decide) ?_
    exact hret (tgt + 1) H1 locs1 ls 0 z1 _ _ rfl hd6 hB hS1 (Nat.zero_le _) (Nat.zero_le _)
  | inl E =>
    refine thrown_o (vx_runV (As := As) (rest := []) C (hN E z1 H.size hc) cwX ⟨cPX_blind, hrecv, fun U hU hW => ⟨rfl, (hpreU U hU hW).1, (hpreU U hU hW).2.1, (hpreU U hU hW).2.2.1, (hpreU U hU hW).2.2.2, hX.1.to hS hsub hU hW⟩⟩ rfl hn hsize hst (lv_room (Nat.le_of_ble_eq_true rfl)) hd1 ⟨(by rw [Nat.zero_add]; exact hR.1), (by rw [Nat.zero_add]; exact hR.2)⟩) hS hsub (fun q9 ce H1 locs1 hB hk1 hS1 h1 h2 h3 => ?_)
    exact hcat E z1 rfl q9 ce H1 locs1 hB hS1 h1 h2 h3
end Wrap2
