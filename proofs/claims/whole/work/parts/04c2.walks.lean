abbrev rmX4_busiest : Room := { frames := 7, cells := 0, slots := 0, locals := 102 }
theorem fX4_busiest_i10 : Cond.fieldLink RX4 10 (TX4 0).1 (TX4 0).2.1 (TX4 0).2.2.1 ∈ wsX4_busiest := by decide +kernel
theorem iX4_busiest_X4 : ∀ x ∈ wsX40, x ∈ wsX4_busiest := by decide +kernel
theorem tX4_busiest_46 : tSite wsX4_busiest RX4 cX4_busiest 46 "java/lang/IndexOutOfBoundsException" := ⟨179, 275, 183, "there are not so many accounts that traded", by decide +kernel, by decide +kernel, rfl, by decide +kernel, by decide +kernel, by decide +kernel, by decide +kernel, by decide +kernel, by decide +kernel, dX4_busiest_46, dX4_busiest_49, Or.inr ⟨dX4_busiest_50, dX4_busiest_53, dX4_busiest_56⟩⟩
set_option maxRecDepth 100000 in
set_option maxHeartbeats 4000000 in
theorem wX4_busiest_40 {p : Program} {l : Launch} {e : Env} {R : Room} {s : State} {m : MethodId} {args : Array Value} {below : List Frame} {meth : Method} {c : Code} {Q : State → Prop} {D : va_G} {cI cJ cZ : ClassId} {ad : Nat → Nat} {A : Nat → Prop} {sx : Nat → Nat} (C : Cx p s m args c cX4_busiest 4 wsX4_busiest RX4 D vwCl (tyl cI cJ cZ) (wH cI cJ cZ ad) A R 7 102) {r : ((String ⊕ Int32) × SH)} (hR : Xi p l e R s m args below meth c cX4_busiest D vwCl (wH cI cJ cZ ad) A Q r) (hT : ThK p l e R s m args below meth c cX4_busiest 4 wsX4_busiest RX4 D vwCl (tyl cI cJ cZ) (wH cI cJ cZ ad) A Q r sx) (N : Nat) (k6 : Int32 → Int32 → Int32 → SH → Option ((String ⊕ Int32) × SH)) (K6 : ∀ (x1 : Int32) (x2 : Int32) (x3 : Int32) (z : SH) (H : Heap) (locs : List Loc) (ls : Array Slot), k6 x1 x2 x3 z = some r → va_P D vwCl (wH cI cJ cZ ad z) H → va_S A s.heap H locs → lv_has ls 4 [(0, .ref (ad 0)), (1, .int x1), (2, .int x2), (3, .int x3)] → W p l e R s m args below meth c H locs 0 0 Q (F0 m 6 ls [])) (x1 : Int32) (x2 : Int32) (x3 : Int32) (z0 : SH) {H : Heap} {locs : List Loc} {ls : Array Slot} (h : fX4_busiest_40 N k6 x1 x2 x3 z0 = some r) (hP : va_P D vwCl (wH cI cJ cZ ad z0) H) (hS : va_S A s.heap H locs) (hl : lv_has ls 4 [(0, .ref (ad 0)), (1, .int x1), (2, .int x2), (3, .int x3)]) : W p l e R s m args below meth c H locs 0 0 Q (F0 m 40 ls []) := by
  unfold fX4_busiest_40 at h
  have hx := C.1.1
  have hb := C.1.2.1
  refine lv_iinc (v := x3 + 1) (lv' := [(3, .int (x3 + 1)), (0, .ref (ad 0)), (1, .int x1), (2, .int x2)]) hx hb dX4_busiest_40 hl (k := 3) rfl rfl (by decide) rfl (fun ls hl => ?_)
  refine lv_goto (tgt := 6) hx hb dX4_busiest_43 (by decide) ?_
  exact K6 x1 x2 (x3 + 1) z0 _ _ _ h hP hS (lv_sub hl [1, 2, 3, 0] rfl)
set_option maxRecDepth 100000 in
set_option maxHeartbeats 4000000 in
theorem wX4_busiest_6 {p : Program} {l : Launch} {e : Env} {R : Room} {s : State} {m : MethodId} {args : Array Value} {below : List Frame} {meth : Method} {c : Code} {Q : State → Prop} {D : va_G} {cI cJ cZ : ClassId} {ad : Nat → Nat} {A : Nat → Prop} {sx : Nat → Nat} (C : Cx p s m args c cX4_busiest 4 wsX4_busiest RX4 D vwCl (tyl cI cJ cZ) (wH cI cJ cZ ad) A R 7 102) {r : ((String ⊕ Int32) × SH)} (hR : Xi p l e R s m args below meth c cX4_busiest D vwCl (wH cI cJ cZ ad) A Q r) (hT : ThK p l e R s m args below meth c cX4_busiest 4 wsX4_busiest RX4 D vwCl (tyl cI cJ cZ) (wH cI cJ cZ ad) A Q r sx) (N : Nat) (k6 : Int32 → Int32 → Int32 → SH → Option ((String ⊕ Int32) × SH)) (K6 : ∀ (x1 : Int32) (x2 : Int32) (x3 : Int32) (z : SH) (H : Heap) (locs : List Loc) (ls : Array Slot), k6 x1 x2 x3 z = some r → va_P D vwCl (wH cI cJ cZ ad z) H → va_S A s.heap H locs → lv_has ls 4 [(0, .ref (ad 0)), (1, .int x1), (2, .int x2), (3, .int x3)] → W p l e R s m args below meth c H locs 0 0 Q (F0 m 6 ls [])) (x1 : Int32) (x2 : Int32) (x3 : Int32) (z0 : SH) {H : Heap} {locs : List Loc} {ls : Array Slot} (h : fX4_busiest_6 N k6 x1 x2 x3 z0 = some r) (hP : va_P D vwCl (wH cI cJ cZ ad z0) H) (hS : va_S A s.heap H locs) (hl : lv_has ls 4 [(0, .ref (ad 0)), (1, .int x1), (2, .int x2), (3, .int x3)]) : W p l e R s m args below meth c H locs 0 0 Q (F0 m 6 ls []) := by
  unfold fX4_busiest_6 at h
  have hx := C.1.1
  have hb := C.1.2.1
  refine lv_iload_n hx hb dX4_busiest_6 rfl (lv_at hl 3 rfl) ?_
  refine lv_sipush (v := 512) hx hb dX4_busiest_7 (by decide) ?_
  refine lv_icmp_ge (tgt := 46) hx hb dX4_busiest_10 (by decide) (fun c1 => ?_) (fun c1 => ?_)
  · replace h := (ite_h h).1 c1
    exact hT.1 46 _ _ _ _ (Option.some.inj h).symm hP hS hl.1 (Or.inl tX4_busiest_46)
  · replace h := (ite_h h).2 c1
    refine lv_aload_n hx hb dX4_busiest_13 rfl (lv_at hl 0 rfl) ?_
    refine b_getr C hP iX4_busiest_X4 0 (wH_0 cI cJ cZ ad z0) rfl 0 (by decide) fX4_busiest_i10 rfl rfl dX4_busiest_14 ?_
    refine lv_iload_n hx hb dX4_busiest_17 rfl (lv_at hl 3 rfl) ?_
    refine lv_iload_n hx hb dX4_busiest_18 rfl (lv_at hl 1 rfl) ?_
    refine b_callVi (As := [.int x3, .int x1]) (rest := []) C hP hS h (mX1_turnover l D cI cJ cZ ad x3 x1 z0) (cwV 2 C.1.2.2.2.2 gX4_busiest_X1_turnover rfl rfl rfl (by decide +kernel) ⟨Nat.le_trans (Nat.le_of_ble_eq_true rfl) C.2.2.2.2.1, Nat.le_trans (Nat.le_of_ble_eq_true rfl) C.2.2.2.2.2⟩) (va_recv C.2.1 hP (ci := 1) (q0 := 1) rfl (wH_1 cI cJ cZ ad z0)) rfl hl.1 rfl (Nat.le_of_ble_eq_true rfl) dX4_busiest_19 (fun v2 z1 _ _ h hP hS => ?_)
    refine lv_if_le (tgt := 40) hx hb dX4_busiest_22 (by decide) (fun c1 => ?_) (fun c1 => ?_)
    · replace h := (ite_h h).1 c1
      exact wX4_busiest_40 C hR hT N k6 K6 x1 x2 x3 z1 h hP hS (lv_sub hl [0, 1, 2, 3] rfl)
    · replace h := (ite_h h).2 c1
      refine lv_aload_n hx hb dX4_busiest_25 rfl (lv_at hl 0 rfl) ?_
      refine b_getr C hP iX4_busiest_X4 0 (wH_0 cI cJ cZ ad z1) rfl 0 (by decide) fX4_busiest_i10 rfl rfl dX4_busiest_26 ?_
      refine lv_iload_n hx hb dX4_busiest_29 rfl (lv_at hl 3 rfl) ?_
      refine lv_iload_n hx hb dX4_busiest_30 rfl (lv_at hl 1 rfl) ?_
      refine b_callVi (As := [.int x3, .int x1]) (rest := []) C hP hS h (mX1_countBusier l D cI cJ cZ ad N x3 x1 z1) (cwV 2 C.1.2.2.2.2 gX4_busiest_X1_countBusier rfl rfl rfl (by decide +kernel) ⟨Nat.le_trans (Nat.le_of_ble_eq_true rfl) C.2.2.2.2.1, Nat.le_trans (Nat.le_of_ble_eq_true rfl) C.2.2.2.2.2⟩) (va_recv C.2.1 hP (ci := 1) (q0 := 1) rfl (wH_1 cI cJ cZ ad z1)) rfl hl.1 rfl (Nat.le_of_ble_eq_true rfl) dX4_busiest_31 (fun v4 z3 _ _ h hP hS => ?_)
      refine lv_iload_n hx hb dX4_busiest_34 rfl (lv_at hl 2 rfl) ?_
      refine lv_icmp_ne (tgt := 40) hx hb dX4_busiest_35 (by decide) (fun c1 => ?_) (fun c1 => ?_)
      · replace h := (ite_h h).2 c1
        exact wX4_busiest_40 C hR hT N k6 K6 x1 x2 x3 z3 h hP hS (lv_sub hl [0, 1, 2, 3] rfl)
      · replace h := (ite_h h).1 c1
        refine lv_iload_n hx hb dX4_busiest_38 rfl (lv_at hl 3 rfl) ?_
        exact hR 39 _ _ _ _ _ (Option.some.inj h).symm dX4_busiest_39 hP hS
theorem wX4_busiest_6_L {p : Program} {l : Launch} {e : Env} {R : Room} {s : State} {m : MethodId} {args : Array Value} {below : List Frame} {meth : Method} {c : Code} {Q : State → Prop} {D : va_G} {cI cJ cZ : ClassId} {ad : Nat → Nat} {A : Nat → Prop} {sx : Nat → Nat} (C : Cx p s m args c cX4_busiest 4 wsX4_busiest RX4 D vwCl (tyl cI cJ cZ) (wH cI cJ cZ ad) A R 7 102) {r : ((String ⊕ Int32) × SH)} (hR : Xi p l e R s m args below meth c cX4_busiest D vwCl (wH cI cJ cZ ad) A Q r) (hT : ThK p l e R s m args below meth c cX4_busiest 4 wsX4_busiest RX4 D vwCl (tyl cI cJ cZ) (wH cI cJ cZ ad) A Q r sx) (N : Nat) : ∀ (n : Nat), ∀ (x1 : Int32) (x2 : Int32) (x3 : Int32) (z : SH) (H : Heap) (locs : List Loc) (ls : Array Slot), fX4_busiest_6_L N n x1 x2 x3 z = some r → va_P D vwCl (wH cI cJ cZ ad z) H → va_S A s.heap H locs → lv_has ls 4 [(0, .ref (ad 0)), (1, .int x1), (2, .int x2), (3, .int x3)] → W p l e R s m args below meth c H locs 0 0 Q (F0 m 6 ls []) := by
  intro n
  induction n with
  | zero => intro x1 x2 x3 z H locs ls h; exact nomatch (show (none : Option ((String ⊕ Int32) × SH)) = some r from h)
  | succ n ih => intro x1 x2 x3 z H locs ls h hP hS hl; exact wX4_busiest_6 C hR hT N (fX4_busiest_6_L N n) ih x1 x2 x3 z (show fX4_busiest_6 N (fX4_busiest_6_L N n) x1 x2 x3 z = some r from h) hP hS hl
set_option maxRecDepth 100000 in
set_option maxHeartbeats 4000000 in
theorem wX4_busiest {p : Program} {l : Launch} {e : Env} {R : Room} {s : State} {m : MethodId} {args : Array Value} {below : List Frame} {meth : Method} {c : Code} {Q : State → Prop} {D : va_G} {cI cJ cZ : ClassId} {ad : Nat → Nat} {A : Nat → Prop} {sx : Nat → Nat} (C : Cx p s m args c cX4_busiest 4 wsX4_busiest RX4 D vwCl (tyl cI cJ cZ) (wH cI cJ cZ ad) A R 7 102) {r : ((String ⊕ Int32) × SH)} (hR : Xi p l e R s m args below meth c cX4_busiest D vwCl (wH cI cJ cZ ad) A Q r) (hT : ThK p l e R s m args below meth c cX4_busiest 4 wsX4_busiest RX4 D vwCl (tyl cI cJ cZ) (wH cI cJ cZ ad) A Q r sx) (N : Nat) (a1 : Int32) (a2 : Int32) (z0 : SH) {H : Heap} {locs : List Loc} {ls : Array Slot} (h : fX4_busiest N a1 a2 z0 = some r) (hP : va_P D vwCl (wH cI cJ cZ ad z0) H) (hS : va_S A s.heap H locs) (hl : lv_has ls 4 [(0, .ref (ad 0)), (1, .int a1), (2, .int a2)]) : W p l e R s m args below meth c H locs 0 0 Q (F0 m 0 ls []) := by
  unfold fX4_busiest at h
  have hx := C.1.1
  have hb := C.1.2.1
  refine lv_iload_n hx hb dX4_busiest_0 rfl (lv_at hl 1 rfl) ?_
  refine b_callXSv (As := [.int a1]) (rest := []) C hT hP hS h (mX4_needSymbol l D cI cJ cZ ad a1 z0) (fun hl0 => nX4_needSymbol l hl0 D cI cJ cZ ad _ a1 z0) (va_cwS 1 C.1.2.2.2.2 gX4_busiest_X4_needSymbol rfl rfl rfl (by decide +kernel) ⟨Nat.le_trans (Nat.le_of_ble_eq_true rfl) C.2.2.2.2.1, Nat.le_trans (Nat.le_of_ble_eq_true rfl) C.2.2.2.2.2⟩) (fun _ _ => (va_cwS 1 C.1.2.2.2.2 gX4_busiest_X4_needSymbol rfl rfl rfl (by decide +kernel) ⟨Nat.le_trans (Nat.le_of_ble_eq_true rfl) C.2.2.2.2.1, Nat.le_trans (Nat.le_of_ble_eq_true rfl) C.2.2.2.2.2⟩)) rfl hl.1 rfl (Nat.le_of_ble_eq_true rfl) dX4_busiest_1 (fun _ z1 _ _ h hP hS => ?_)
  refine lv_iconst (v := 0) hx hb dX4_busiest_4 (by decide) ?_
  refine lv_istore_n (lv' := [(3, .int 0), (0, .ref (ad 0)), (1, .int a1), (2, .int a2)]) hx hb dX4_busiest_5 rfl hl (by decide) rfl (fun ls hl => ?_)
  exact wX4_busiest_6_L C hR hT N N a1 a2 0 z1 _ _ _ h hP hS (lv_sub hl [1, 2, 3, 0] rfl)
theorem mX4_busiest (l : Launch) (D : va_G) (cI cJ cZ : ClassId) (ad : Nat → Nat) (N : Nat) (a1 : Int32) (a2 : Int32) (z0 : SH) : ∀ (q : Int32 × SH) (sz : Nat), fX4_busiest N a1 a2 z0 = some (.inr q.1, q.2) → Met l yX4_busiest wsX4_busiest rmX4_busiest (cP D vwCl (tyl cI cJ cZ) (wH cI cJ cZ ad z0) sz [.ref (ad 0), .int a1, .int a2]) (cQi D vwCl (wH cI cJ cZ ad) z0 sz q) 0 0 (va_A (wH cI cJ cZ ad z0) sz) := by
  intro q sz h
  refine ofW_i (cc := cX4_busiest) (maxL := 4) (by decide) rfl (wH_same cI cJ cZ ad) (Nat.le_of_ble_eq_true rfl) (fun p e s m below meth c ls hsz C hR hP hl => ?_)
  exact wX4_busiest (sx := fun _ => 0) C (Xi_of hR) ThK_no N a1 a2 z0 h hP va_S.rf hl
theorem nX4_busiest (l : Launch) (hl0 : l.stackTraces = false) (D : va_G) (cI cJ cZ : ClassId) (ad sx : Nat → Nat) (N : Nat) (a1 : Int32) (a2 : Int32) (z0 : SH) : ∀ (E : String) (z1 : SH) (sz : Nat), fX4_busiest N a1 a2 z0 = some (.inl E, z1) → vx_Met l yX4_busiest wsX4_busiest (rmX rmX4_busiest) (cPX (thX sx) D vwCl (tyl cI cJ cZ) (wH cI cJ cZ ad z0) sz [.ref (ad 0), .int a1, .int a2]) (cQno) (cXX D vwCl (wH cI cJ cZ ad) z0 sz E z1) 1 6 (va_A (wH cI cJ cZ ad z0) sz) := by
  intro E z1 sz h
  refine ofX (α := Int32) (cc := cX4_busiest) (maxL := 4) (by decide) rfl (wH_same cI cJ cZ ad) (Nat.le_of_ble_eq_true rfl) hl0 ⟨Nat.le_of_ble_eq_true rfl, Nat.le_of_ble_eq_true rfl⟩ (fun p e s m below meth c ls hsz C hT hP hl => ?_)
  exact wX4_busiest C Xi_no hT N a1 a2 z0 h hP va_S.rf hl
