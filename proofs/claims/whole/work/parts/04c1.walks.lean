abbrev rmX4_until : Room := { frames := 8, cells := 0, slots := 0, locals := 125 }
theorem fX4_until_i151 : Cond.fieldLink RX4 151 (TX2 9).1 (TX2 9).2.1 (TX2 9).2.2.1 ∈ wsX4_until := by decide +kernel
theorem fX4_until_i19 : Cond.fieldLink RX4 19 (TX4 1).1 (TX4 1).2.1 (TX4 1).2.2.1 ∈ wsX4_until := by decide +kernel
theorem fX4_until_i39 : Cond.fieldLink RX4 39 (TX4 4).1 (TX4 4).2.1 (TX4 4).2.2.1 ∈ wsX4_until := by decide +kernel
theorem iX4_until_X2 : ∀ x ∈ wsX20, x ∈ wsX4_until := by decide +kernel
theorem iX4_until_X4 : ∀ x ∈ wsX40, x ∈ wsX4_until := by decide +kernel
theorem tX4_until_37 : tSite wsX4_until RX4 cX4_until 37 "java/lang/IllegalStateException" := ⟨58, 149, 62, "the time has been already", by decide +kernel, by decide +kernel, rfl, by decide +kernel, by decide +kernel, by decide +kernel, by decide +kernel, by decide +kernel, by decide +kernel, dX4_until_37, dX4_until_40, Or.inl ⟨dX4_until_41, dX4_until_43, dX4_until_46⟩⟩
theorem tX4_until_10 : tSite wsX4_until RX4 cX4_until 10 "java/lang/IllegalArgumentException" := ⟨132, 147, 136, "the time is below 0", by decide +kernel, by decide +kernel, rfl, by decide +kernel, by decide +kernel, by decide +kernel, by decide +kernel, by decide +kernel, by decide +kernel, dX4_until_10, dX4_until_13, Or.inl ⟨dX4_until_14, dX4_until_16, dX4_until_19⟩⟩
set_option maxRecDepth 100000 in
set_option maxHeartbeats 4000000 in
theorem wX4_until_47 {p : Program} {l : Launch} {e : Env} {R : Room} {s : State} {m : MethodId} {args : Array Value} {below : List Frame} {meth : Method} {c : Code} {Q : State → Prop} {D : va_G} {cI cJ cZ : ClassId} {ad : Nat → Nat} {A : Nat → Prop} {sx : Nat → Nat} (C : Cx p s m args c cX4_until 4 wsX4_until RX4 D vwCl (tyl cI cJ cZ) (wH cI cJ cZ ad) A R 8 125) {r : ((String ⊕ Unit) × SH)} (hR : Xv p l e R s m args below meth c cX4_until D vwCl (wH cI cJ cZ ad) A Q r) (hT : ThK p l e R s m args below meth c cX4_until 4 wsX4_until RX4 D vwCl (tyl cI cJ cZ) (wH cI cJ cZ ad) A Q r sx) (x2 : Int32) (x3 : Int32) (z0 : SH) {H : Heap} {locs : List Loc} {ls : Array Slot} (h : fX4_until_47 x2 x3 z0 = some r) (hP : va_P D vwCl (wH cI cJ cZ ad z0) H) (hS : va_S A s.heap H locs) (hl : lv_has ls 4 [(0, .ref (ad 0)), (2, .int x2), (3, .int x3)]) : W p l e R s m args below meth c H locs 0 0 Q (F0 m 47 ls []) := by
  unfold fX4_until_47 at h
  have hx := C.1.1
  have hb := C.1.2.1
  refine lv_aload_n hx hb dX4_until_47 rfl (lv_at hl 0 rfl) ?_
  refine b_getr C hP iX4_until_X4 0 (wH_0 cI cJ cZ ad z0) rfl 1 (by decide) fX4_until_i19 rfl rfl dX4_until_48 ?_
  refine b_getr C hP iX4_until_X2 2 (wH_2 cI cJ cZ ad z0) rfl 9 (by decide) fX4_until_i151 rfl rfl dX4_until_51 ?_
  refine lv_iload_n hx hb dX4_until_54 rfl (lv_at hl 1 rfl) ?_
  refine lv_iload_n hx hb dX4_until_55 rfl (lv_at hl 2 rfl) ?_
  refine b_iast C hP hS h 21 (wH_21 cI cJ cZ ad z0) 0 rfl (wH_s21 cI cJ cZ ad z0 _ _) dX4_until_56 (fun z1 _ _ h hP hS => ?_)
  exact hR 57 _ _ _ _ (Option.some.inj h).symm dX4_until_57 hP hS
set_option maxRecDepth 100000 in
set_option maxHeartbeats 4000000 in
theorem wX4_until {p : Program} {l : Launch} {e : Env} {R : Room} {s : State} {m : MethodId} {args : Array Value} {below : List Frame} {meth : Method} {c : Code} {Q : State → Prop} {D : va_G} {cI cJ cZ : ClassId} {ad : Nat → Nat} {A : Nat → Prop} {sx : Nat → Nat} (C : Cx p s m args c cX4_until 4 wsX4_until RX4 D vwCl (tyl cI cJ cZ) (wH cI cJ cZ ad) A R 8 125) {r : ((String ⊕ Unit) × SH)} (hR : Xv p l e R s m args below meth c cX4_until D vwCl (wH cI cJ cZ ad) A Q r) (hT : ThK p l e R s m args below meth c cX4_until 4 wsX4_until RX4 D vwCl (tyl cI cJ cZ) (wH cI cJ cZ ad) A Q r sx) (a1 : Int32) (a2 : Int32) (a3 : Int32) (z0 : SH) {H : Heap} {locs : List Loc} {ls : Array Slot} (h : fX4_until a1 a2 a3 z0 = some r) (hP : va_P D vwCl (wH cI cJ cZ ad z0) H) (hS : va_S A s.heap H locs) (hl : lv_has ls 4 [(0, .ref (ad 0)), (1, .int a1), (2, .int a2), (3, .int a3)]) : W p l e R s m args below meth c H locs 0 0 Q (F0 m 0 ls []) := by
  unfold fX4_until at h
  have hx := C.1.1
  have hb := C.1.2.1
  refine lv_aload_n hx hb dX4_until_0 rfl (lv_at hl 0 rfl) ?_
  refine lv_iload_n hx hb dX4_until_1 rfl (lv_at hl 1 rfl) ?_
  refine lv_iload_n hx hb dX4_until_2 rfl (lv_at hl 2 rfl) ?_
  refine b_callXVv (As := [.int a1, .int a2]) (rest := []) C hT hP hS h (mX4_needOwnOrder l D cI cJ cZ ad a1 a2 z0) (fun hl0 => nX4_needOwnOrder l hl0 D cI cJ cZ ad _ a1 a2 z0) (cwV 2 C.1.2.2.2.2 gX4_until_X4_needOwnOrder rfl rfl rfl (by decide +kernel) ⟨Nat.le_trans (Nat.le_of_ble_eq_true rfl) C.2.2.2.2.1, Nat.le_trans (Nat.le_of_ble_eq_true rfl) C.2.2.2.2.2⟩) (fun _ _ => (cwV 2 C.1.2.2.2.2 gX4_until_X4_needOwnOrder rfl rfl rfl (by decide +kernel) ⟨Nat.le_trans (Nat.le_of_ble_eq_true rfl) C.2.2.2.2.1, Nat.le_trans (Nat.le_of_ble_eq_true rfl) C.2.2.2.2.2⟩)) (va_recv C.2.1 hP (ci := 4) (q0 := 0) rfl (wH_0 cI cJ cZ ad z0)) rfl hl.1 rfl (Nat.le_of_ble_eq_true rfl) dX4_until_3 (fun _ z1 _ _ h hP hS => ?_)
  refine lv_iload_n hx hb dX4_until_6 rfl (lv_at hl 3 rfl) ?_
  refine lv_if_ge (tgt := 20) hx hb dX4_until_7 (by decide) (fun c1 => ?_) (fun c1 => ?_)
  · replace h := (ite_h h).1 c1
    refine lv_aload_n hx hb dX4_until_20 rfl (lv_at hl 0 rfl) ?_
    refine lv_iload_n hx hb dX4_until_21 rfl (lv_at hl 2 rfl) ?_
    refine b_callXVv (As := [.int a2]) (rest := []) C hT hP hS h (mX4_needThere l D cI cJ cZ ad a2 z1) (fun hl0 => nX4_needThere l hl0 D cI cJ cZ ad _ a2 z1) (cwV 1 C.1.2.2.2.2 gX4_until_X4_needThere rfl rfl rfl (by decide +kernel) ⟨Nat.le_trans (Nat.le_of_ble_eq_true rfl) C.2.2.2.2.1, Nat.le_trans (Nat.le_of_ble_eq_true rfl) C.2.2.2.2.2⟩) (fun _ _ => (cwV 1 C.1.2.2.2.2 gX4_until_X4_needThere rfl rfl rfl (by decide +kernel) ⟨Nat.le_trans (Nat.le_of_ble_eq_true rfl) C.2.2.2.2.1, Nat.le_trans (Nat.le_of_ble_eq_true rfl) C.2.2.2.2.2⟩)) (va_recv C.2.1 hP (ci := 4) (q0 := 0) rfl (wH_0 cI cJ cZ ad z1)) rfl hl.1 rfl (Nat.le_of_ble_eq_true rfl) dX4_until_22 (fun _ z2 _ _ h hP hS => ?_)
    refine lv_iload_n hx hb dX4_until_25 rfl (lv_at hl 3 rfl) ?_
    refine lv_if_eq (tgt := 47) hx hb dX4_until_26 (by decide) (fun c1 => ?_) (fun c1 => ?_)
    · replace h := (ite_h h).1 c1
      exact wX4_until_47 C hR hT a2 a3 z2 h hP hS (lv_sub hl [0, 2, 3] rfl)
    · replace h := (ite_h h).2 c1
      refine lv_iload_n hx hb dX4_until_29 rfl (lv_at hl 3 rfl) ?_
      refine lv_aload_n hx hb dX4_until_30 rfl (lv_at hl 0 rfl) ?_
      refine b_geti C hP h iX4_until_X4 0 (wH_0 cI cJ cZ ad z2) rfl 4 (by decide) fX4_until_i39 rfl rfl dX4_until_31 (fun v3 h => ?_)
      refine lv_icmp_gt (tgt := 47) hx hb dX4_until_34 (by decide) (fun c1 => ?_) (fun c1 => ?_)
      · replace h := (ite_h h).1 c1
        exact wX4_until_47 C hR hT a2 a3 z2 h hP hS (lv_sub hl [0, 2, 3] rfl)
      · replace h := (ite_h h).2 c1
        exact hT.1 37 _ _ _ _ (Option.some.inj h).symm hP hS hl.1 (Or.inl tX4_until_37)
  · replace h := (ite_h h).2 c1
    exact hT.1 10 _ _ _ _ (Option.some.inj h).symm hP hS hl.1 (Or.inl tX4_until_10)
theorem mX4_until (l : Launch) (D : va_G) (cI cJ cZ : ClassId) (ad : Nat → Nat) (a1 : Int32) (a2 : Int32) (a3 : Int32) (z0 : SH) : ∀ (q : Unit × SH) (sz : Nat), fX4_until a1 a2 a3 z0 = some (.inr q.1, q.2) → Met l yX4_until wsX4_until rmX4_until (cP D vwCl (tyl cI cJ cZ) (wH cI cJ cZ ad z0) sz [.ref (ad 0), .int a1, .int a2, .int a3]) (cQv D vwCl (wH cI cJ cZ ad) z0 sz q) 0 0 (va_A (wH cI cJ cZ ad z0) sz) := by
  intro q sz h
  refine ofW_v (cc := cX4_until) (maxL := 4) (by decide) rfl (wH_same cI cJ cZ ad) (Nat.le_of_ble_eq_true rfl) (fun p e s m below meth c ls hsz C hR hP hl => ?_)
  exact wX4_until (sx := fun _ => 0) C (Xv_of hR) ThK_no a1 a2 a3 z0 h hP va_S.rf hl
theorem nX4_until (l : Launch) (hl0 : l.stackTraces = false) (D : va_G) (cI cJ cZ : ClassId) (ad sx : Nat → Nat) (a1 : Int32) (a2 : Int32) (a3 : Int32) (z0 : SH) : ∀ (E : String) (z1 : SH) (sz : Nat), fX4_until a1 a2 a3 z0 = some (.inl E, z1) → vx_Met l yX4_until wsX4_until (rmX rmX4_until) (cPX (thX sx) D vwCl (tyl cI cJ cZ) (wH cI cJ cZ ad z0) sz [.ref (ad 0), .int a1, .int a2, .int a3]) (cQno) (cXX D vwCl (wH cI cJ cZ ad) z0 sz E z1) 1 6 (va_A (wH cI cJ cZ ad z0) sz) := by
  intro E z1 sz h
  refine ofX (α := Unit) (cc := cX4_until) (maxL := 4) (by decide) rfl (wH_same cI cJ cZ ad) (Nat.le_of_ble_eq_true rfl) hl0 ⟨Nat.le_of_ble_eq_true rfl, Nat.le_of_ble_eq_true rfl⟩ (fun p e s m below meth c ls hsz C hT hP hl => ?_)
  exact wX4_until C Xv_no hT a1 a2 a3 z0 h hP va_S.rf hl
abbrev rmX4_pass : Room := { frames := 7, cells := 0, slots := 0, locals := 104 }
theorem fX4_pass_i100 : Cond.fieldLink RX4 100 (TX2 11).1 (TX2 11).2.1 (TX2 11).2.2.1 ∈ wsX4_pass := by decide +kernel
theorem fX4_pass_i151 : Cond.fieldLink RX4 151 (TX2 9).1 (TX2 9).2.1 (TX2 9).2.2.1 ∈ wsX4_pass := by decide +kernel
theorem fX4_pass_i19 : Cond.fieldLink RX4 19 (TX4 1).1 (TX4 1).2.1 (TX4 1).2.2.1 ∈ wsX4_pass := by decide +kernel
theorem fX4_pass_i39 : Cond.fieldLink RX4 39 (TX4 4).1 (TX4 4).2.1 (TX4 4).2.2.1 ∈ wsX4_pass := by decide +kernel
theorem iX4_pass_X2 : ∀ x ∈ wsX20, x ∈ wsX4_pass := by decide +kernel
theorem iX4_pass_X4 : ∀ x ∈ wsX40, x ∈ wsX4_pass := by decide +kernel
theorem kX4_pass_77 : Cond.constant RX4 77 (1000000) ∈ wsX4_pass := by decide +kernel
set_option maxRecDepth 100000 in
set_option maxHeartbeats 4000000 in
theorem wX4_pass_79 {p : Program} {l : Launch} {e : Env} {R : Room} {s : State} {m : MethodId} {args : Array Value} {below : List Frame} {meth : Method} {c : Code} {Q : State → Prop} {D : va_G} {cI cJ cZ : ClassId} {ad : Nat → Nat} {A : Nat → Prop} {sx : Nat → Nat} (C : Cx p s m args c cX4_pass 4 wsX4_pass RX4 D vwCl (tyl cI cJ cZ) (wH cI cJ cZ ad) A R 7 104) {r : ((String ⊕ Int32) × SH)} (hR : Xi p l e R s m args below meth c cX4_pass D vwCl (wH cI cJ cZ ad) A Q r) (hT : ThK p l e R s m args below meth c cX4_pass 4 wsX4_pass RX4 D vwCl (tyl cI cJ cZ) (wH cI cJ cZ ad) A Q r sx) (N : Nat) (k21 : Int32 → Int32 → SH → Option ((String ⊕ Int32) × SH)) (K21 : ∀ (x2 : Int32) (x3 : Int32) (z : SH) (H : Heap) (locs : List Loc) (ls : Array Slot), k21 x2 x3 z = some r → va_P D vwCl (wH cI cJ cZ ad z) H → va_S A s.heap H locs → lv_has ls 4 [(0, .ref (ad 0)), (2, .int x2), (3, .int x3)] → W p l e R s m args below meth c H locs 0 0 Q (F0 m 21 ls [])) (x2 : Int32) (x3 : Int32) (z0 : SH) {H : Heap} {locs : List Loc} {ls : Array Slot} (h : fX4_pass_79 N k21 x2 x3 z0 = some r) (hP : va_P D vwCl (wH cI cJ cZ ad z0) H) (hS : va_S A s.heap H locs) (hl : lv_has ls 4 [(0, .ref (ad 0)), (2, .int x2), (3, .int x3)]) : W p l e R s m args below meth c H locs 0 0 Q (F0 m 79 ls []) := by
  unfold fX4_pass_79 at h
  have hx := C.1.1
  have hb := C.1.2.1
  refine lv_iinc (v := x3 + 1) (lv' := [(3, .int (x3 + 1)), (0, .ref (ad 0)), (2, .int x2)]) hx hb dX4_pass_79 hl (k := 2) rfl rfl (by decide) rfl (fun ls hl => ?_)
  refine lv_goto (tgt := 21) hx hb dX4_pass_82 (by decide) ?_
  exact K21 x2 (x3 + 1) z0 _ _ _ h hP hS (lv_sub hl [1, 2, 0] rfl)
set_option maxRecDepth 100000 in
set_option maxHeartbeats 4000000 in
theorem wX4_pass_21 {p : Program} {l : Launch} {e : Env} {R : Room} {s : State} {m : MethodId} {args : Array Value} {below : List Frame} {meth : Method} {c : Code} {Q : State → Prop} {D : va_G} {cI cJ cZ : ClassId} {ad : Nat → Nat} {A : Nat → Prop} {sx : Nat → Nat} (C : Cx p s m args c cX4_pass 4 wsX4_pass RX4 D vwCl (tyl cI cJ cZ) (wH cI cJ cZ ad) A R 7 104) {r : ((String ⊕ Int32) × SH)} (hR : Xi p l e R s m args below meth c cX4_pass D vwCl (wH cI cJ cZ ad) A Q r) (hT : ThK p l e R s m args below meth c cX4_pass 4 wsX4_pass RX4 D vwCl (tyl cI cJ cZ) (wH cI cJ cZ ad) A Q r sx) (N : Nat) (k21 : Int32 → Int32 → SH → Option ((String ⊕ Int32) × SH)) (K21 : ∀ (x2 : Int32) (x3 : Int32) (z : SH) (H : Heap) (locs : List Loc) (ls : Array Slot), k21 x2 x3 z = some r → va_P D vwCl (wH cI cJ cZ ad z) H → va_S A s.heap H locs → lv_has ls 4 [(0, .ref (ad 0)), (2, .int x2), (3, .int x3)] → W p l e R s m args below meth c H locs 0 0 Q (F0 m 21 ls [])) (x2 : Int32) (x3 : Int32) (z0 : SH) {H : Heap} {locs : List Loc} {ls : Array Slot} (h : fX4_pass_21 N k21 x2 x3 z0 = some r) (hP : va_P D vwCl (wH cI cJ cZ ad z0) H) (hS : va_S A s.heap H locs) (hl : lv_has ls 4 [(0, .ref (ad 0)), (2, .int x2), (3, .int x3)]) : W p l e R s m args below meth c H locs 0 0 Q (F0 m 21 ls []) := by
  unfold fX4_pass_21 at h
  have hx := C.1.1
  have hb := C.1.2.1
  refine lv_iload_n hx hb dX4_pass_21 rfl (lv_at hl 2 rfl) ?_
  refine lv_aload_n hx hb dX4_pass_22 rfl (lv_at hl 0 rfl) ?_
  refine b_getr C hP iX4_pass_X4 0 (wH_0 cI cJ cZ ad z0) rfl 1 (by decide) fX4_pass_i19 rfl rfl dX4_pass_23 ?_
  refine b_geti C hP h iX4_pass_X2 2 (wH_2 cI cJ cZ ad z0) rfl 11 (by decide) fX4_pass_i100 rfl rfl dX4_pass_26 (fun v1 h => ?_)
  refine lv_icmp_ge (tgt := 85) hx hb dX4_pass_29 (by decide) (fun c1 => ?_) (fun c1 => ?_)
  · replace h := (ite_h h).1 c1
    refine lv_iload_n hx hb dX4_pass_85 rfl (lv_at hl 1 rfl) ?_
    exact hR 86 _ _ _ _ _ (Option.some.inj h).symm dX4_pass_86 hP hS
  · replace h := (ite_h h).2 c1
    refine lv_aload_n hx hb dX4_pass_32 rfl (lv_at hl 0 rfl) ?_
    refine b_getr C hP iX4_pass_X4 0 (wH_0 cI cJ cZ ad z0) rfl 1 (by decide) fX4_pass_i19 rfl rfl dX4_pass_33 ?_
    refine lv_iload_n hx hb dX4_pass_36 rfl (lv_at hl 2 rfl) ?_
    refine b_callVi (As := [.int x3]) (rest := []) C hP hS h (mX2_isThere l D cI cJ cZ ad x3 z0) (cwV 1 C.1.2.2.2.2 gX4_pass_X2_isThere rfl rfl rfl (by decide +kernel) ⟨Nat.le_trans (Nat.le_of_ble_eq_true rfl) C.2.2.2.2.1, Nat.le_trans (Nat.le_of_ble_eq_true rfl) C.2.2.2.2.2⟩) (va_recv C.2.1 hP (ci := 2) (q0 := 2) rfl (wH_2 cI cJ cZ ad z0)) rfl hl.1 rfl (Nat.le_of_ble_eq_true rfl) dX4_pass_37 (fun v3 z2 _ _ h hP hS => ?_)
    refine lv_if_eq (tgt := 79) hx hb dX4_pass_40 (by decide) (fun c1 => ?_) (fun c1 => ?_)
    · replace h := (ite_h h).1 c1
      exact wX4_pass_79 C hR hT N k21 K21 x2 x3 z2 h hP hS (lv_sub hl [0, 1, 2] rfl)
    · replace h := (ite_h h).2 c1
      refine lv_aload_n hx hb dX4_pass_43 rfl (lv_at hl 0 rfl) ?_
      refine b_getr C hP iX4_pass_X4 0 (wH_0 cI cJ cZ ad z2) rfl 1 (by decide) fX4_pass_i19 rfl rfl dX4_pass_44 ?_
      refine b_getr C hP iX4_pass_X2 2 (wH_2 cI cJ cZ ad z2) rfl 9 (by decide) fX4_pass_i151 rfl rfl dX4_pass_47 ?_
      refine lv_iload_n hx hb dX4_pass_50 rfl (lv_at hl 2 rfl) ?_
      refine b_iald C hP h 21 (wH_21 cI cJ cZ ad z2) 0 rfl dX4_pass_51 (fun v4 h => ?_)
      refine lv_if_eq (tgt := 79) hx hb dX4_pass_52 (by decide) (fun c1 => ?_) (fun c1 => ?_)
      · replace h := (ite_h h).1 c1
        exact wX4_pass_79 C hR hT N k21 K21 x2 x3 z2 h hP hS (lv_sub hl [0, 1, 2] rfl)
      · replace h := (ite_h h).2 c1
        refine lv_aload_n hx hb dX4_pass_55 rfl (lv_at hl 0 rfl) ?_
        refine b_getr C hP iX4_pass_X4 0 (wH_0 cI cJ cZ ad z2) rfl 1 (by decide) fX4_pass_i19 rfl rfl dX4_pass_56 ?_
        refine b_getr C hP iX4_pass_X2 2 (wH_2 cI cJ cZ ad z2) rfl 9 (by decide) fX4_pass_i151 rfl rfl dX4_pass_59 ?_
        refine lv_iload_n hx hb dX4_pass_62 rfl (lv_at hl 2 rfl) ?_
        refine b_iald C hP h 21 (wH_21 cI cJ cZ ad z2) 0 rfl dX4_pass_63 (fun v5 h => ?_)
        refine lv_aload_n hx hb dX4_pass_64 rfl (lv_at hl 0 rfl) ?_
        refine b_geti C hP h iX4_pass_X4 0 (wH_0 cI cJ cZ ad z2) rfl 4 (by decide) fX4_pass_i39 rfl rfl dX4_pass_65 (fun v6 h => ?_)
        refine lv_icmp_gt (tgt := 79) hx hb dX4_pass_68 (by decide) (fun c1 => ?_) (fun c1 => ?_)
        · replace h := (ite_h h).1 c1
          exact wX4_pass_79 C hR hT N k21 K21 x2 x3 z2 h hP hS (lv_sub hl [0, 1, 2] rfl)
        · replace h := (ite_h h).2 c1
          refine lv_aload_n hx hb dX4_pass_71 rfl (lv_at hl 0 rfl) ?_
          refine lv_iload_n hx hb dX4_pass_72 rfl (lv_at hl 2 rfl) ?_
          refine b_callVv (As := [.int x3]) (rest := []) C hP hS h (mX4_takeAway l D cI cJ cZ ad N x3 z2) (cwV 1 C.1.2.2.2.2 gX4_pass_X4_takeAway rfl rfl rfl (by decide +kernel) ⟨Nat.le_trans (Nat.le_of_ble_eq_true rfl) C.2.2.2.2.1, Nat.le_trans (Nat.le_of_ble_eq_true rfl) C.2.2.2.2.2⟩) (va_recv C.2.1 hP (ci := 4) (q0 := 0) rfl (wH_0 cI cJ cZ ad z2)) rfl hl.1 rfl (Nat.le_of_ble_eq_true rfl) dX4_pass_73 (fun _ z7 _ _ h hP hS => ?_)
          refine lv_iinc (v := x2 + 1) (lv' := [(2, .int (x2 + 1)), (0, .ref (ad 0)), (3, .int x3)]) hx hb dX4_pass_76 hl (k := 1) rfl rfl (by decide) rfl (fun ls hl => ?_)
          exact wX4_pass_79 C hR hT N k21 K21 (x2 + 1) x3 z7 h hP hS (lv_sub hl [1, 0, 2] rfl)
theorem wX4_pass_21_L {p : Program} {l : Launch} {e : Env} {R : Room} {s : State} {m : MethodId} {args : Array Value} {below : List Frame} {meth : Method} {c : Code} {Q : State → Prop} {D : va_G} {cI cJ cZ : ClassId} {ad : Nat → Nat} {A : Nat → Prop} {sx : Nat → Nat} (C : Cx p s m args c cX4_pass 4 wsX4_pass RX4 D vwCl (tyl cI cJ cZ) (wH cI cJ cZ ad) A R 7 104) {r : ((String ⊕ Int32) × SH)} (hR : Xi p l e R s m args below meth c cX4_pass D vwCl (wH cI cJ cZ ad) A Q r) (hT : ThK p l e R s m args below meth c cX4_pass 4 wsX4_pass RX4 D vwCl (tyl cI cJ cZ) (wH cI cJ cZ ad) A Q r sx) (N : Nat) : ∀ (n : Nat), ∀ (x2 : Int32) (x3 : Int32) (z : SH) (H : Heap) (locs : List Loc) (ls : Array Slot), fX4_pass_21_L N n x2 x3 z = some r → va_P D vwCl (wH cI cJ cZ ad z) H → va_S A s.heap H locs → lv_has ls 4 [(0, .ref (ad 0)), (2, .int x2), (3, .int x3)] → W p l e R s m args below meth c H locs 0 0 Q (F0 m 21 ls []) := by
  intro n
  induction n with
  | zero => intro x2 x3 z H locs ls h; exact nomatch (show (none : Option ((String ⊕ Int32) × SH)) = some r from h)
  | succ n ih => intro x2 x3 z H locs ls h hP hS hl; exact wX4_pass_21 C hR hT N (fX4_pass_21_L N n) ih x2 x3 z (show fX4_pass_21 N (fX4_pass_21_L N n) x2 x3 z = some r from h) hP hS hl
set_option maxRecDepth 100000 in
set_option maxHeartbeats 4000000 in
theorem wX4_pass {p : Program} {l : Launch} {e : Env} {R : Room} {s : State} {m : MethodId} {args : Array Value} {below : List Frame} {meth : Method} {c : Code} {Q : State → Prop} {D : va_G} {cI cJ cZ : ClassId} {ad : Nat → Nat} {A : Nat → Prop} {sx : Nat → Nat} (C : Cx p s m args c cX4_pass 4 wsX4_pass RX4 D vwCl (tyl cI cJ cZ) (wH cI cJ cZ ad) A R 7 104) {r : ((String ⊕ Int32) × SH)} (hR : Xi p l e R s m args below meth c cX4_pass D vwCl (wH cI cJ cZ ad) A Q r) (hT : ThK p l e R s m args below meth c cX4_pass 4 wsX4_pass RX4 D vwCl (tyl cI cJ cZ) (wH cI cJ cZ ad) A Q r sx) (N : Nat) (a1 : Int32) (z0 : SH) {H : Heap} {locs : List Loc} {ls : Array Slot} (h : fX4_pass N a1 z0 = some r) (hP : va_P D vwCl (wH cI cJ cZ ad z0) H) (hS : va_S A s.heap H locs) (hl : lv_has ls 4 [(0, .ref (ad 0)), (1, .int a1)]) : W p l e R s m args below meth c H locs 0 0 Q (F0 m 0 ls []) := by
  unfold fX4_pass at h
  have hx := C.1.1
  have hb := C.1.2.1
  refine lv_iload_n hx hb dX4_pass_0 rfl (lv_at hl 1 rfl) ?_
  refine lv_iconst (v := 0) hx hb dX4_pass_1 (by decide) ?_
  refine lv_ldc hx hb C.1.2.2.2.1 (C.1.2.2.2.2 _ kX4_pass_77) dX4_pass_2 ?_
  refine b_callXSv (As := [.int a1, .int 0, .int 1000000]) (rest := []) C hT hP hS h (mX4_needWithin l D cI cJ cZ ad a1 0 1000000 z0) (fun hl0 => nX4_needWithin l hl0 D cI cJ cZ ad _ a1 0 1000000 z0) (va_cwS 3 C.1.2.2.2.2 gX4_pass_X4_needWithin rfl rfl rfl (by decide +kernel) ⟨Nat.le_trans (Nat.le_of_ble_eq_true rfl) C.2.2.2.2.1, Nat.le_trans (Nat.le_of_ble_eq_true rfl) C.2.2.2.2.2⟩) (fun _ _ => (va_cwS 3 C.1.2.2.2.2 gX4_pass_X4_needWithin rfl rfl rfl (by decide +kernel) ⟨Nat.le_trans (Nat.le_of_ble_eq_true rfl) C.2.2.2.2.1, Nat.le_trans (Nat.le_of_ble_eq_true rfl) C.2.2.2.2.2⟩)) rfl hl.1 rfl (Nat.le_of_ble_eq_true rfl) dX4_pass_4 (fun _ z1 _ _ h hP hS => ?_)
  refine lv_aload_n hx hb dX4_pass_7 rfl (lv_at hl 0 rfl) ?_
  refine lv_dup hx hb dX4_pass_8 rfl ?_
  refine b_geti C hP h iX4_pass_X4 0 (wH_0 cI cJ cZ ad z1) rfl 4 (by decide) fX4_pass_i39 rfl rfl dX4_pass_9 (fun v2 h => ?_)
  refine lv_iload_n hx hb dX4_pass_12 rfl (lv_at hl 1 rfl) ?_
  refine lv_iadd hx hb dX4_pass_13 ?_
  refine b_puti C hP hS h iX4_pass_X4 tyX4 tyX4_ok nmX4 0 (wH_0 cI cJ cZ ad z1) rfl 4 (by decide) fX4_pass_i39 rfl rfl rfl (Nat.le_of_ble_eq_true rfl) (wH_si0 cI cJ cZ ad z1 _) dX4_pass_14 (fun z3 _ _ h hP hS => ?_)
  refine lv_iconst (v := 0) hx hb dX4_pass_17 (by decide) ?_
  refine lv_istore_n (lv' := [(2, .int 0), (0, .ref (ad 0)), (1, .int a1)]) hx hb dX4_pass_18 rfl hl (by decide) rfl (fun ls hl => ?_)
  refine lv_iconst (v := 0) hx hb dX4_pass_19 (by decide) ?_
  refine lv_istore_n (lv' := [(3, .int 0), (2, .int 0), (0, .ref (ad 0)), (1, .int a1)]) hx hb dX4_pass_20 rfl hl (by decide) rfl (fun ls hl => ?_)
  exact wX4_pass_21_L C hR hT N N 0 0 z3 _ _ _ h hP hS (lv_sub hl [2, 1, 0] rfl)
theorem mX4_pass (l : Launch) (D : va_G) (cI cJ cZ : ClassId) (ad : Nat → Nat) (N : Nat) (a1 : Int32) (z0 : SH) : ∀ (q : Int32 × SH) (sz : Nat), fX4_pass N a1 z0 = some (.inr q.1, q.2) → Met l yX4_pass wsX4_pass rmX4_pass (cP D vwCl (tyl cI cJ cZ) (wH cI cJ cZ ad z0) sz [.ref (ad 0), .int a1]) (cQi D vwCl (wH cI cJ cZ ad) z0 sz q) 0 0 (va_A (wH cI cJ cZ ad z0) sz) := by
  intro q sz h
  refine ofW_i (cc := cX4_pass) (maxL := 4) (by decide) rfl (wH_same cI cJ cZ ad) (Nat.le_of_ble_eq_true rfl) (fun p e s m below meth c ls hsz C hR hP hl => ?_)
  exact wX4_pass (sx := fun _ => 0) C (Xi_of hR) ThK_no N a1 z0 h hP va_S.rf hl
theorem nX4_pass (l : Launch) (hl0 : l.stackTraces = false) (D : va_G) (cI cJ cZ : ClassId) (ad sx : Nat → Nat) (N : Nat) (a1 : Int32) (z0 : SH) : ∀ (E : String) (z1 : SH) (sz : Nat), fX4_pass N a1 z0 = some (.inl E, z1) → vx_Met l yX4_pass wsX4_pass (rmX rmX4_pass) (cPX (thX sx) D vwCl (tyl cI cJ cZ) (wH cI cJ cZ ad z0) sz [.ref (ad 0), .int a1]) (cQno) (cXX D vwCl (wH cI cJ cZ ad) z0 sz E z1) 1 6 (va_A (wH cI cJ cZ ad z0) sz) := by
  intro E z1 sz h
  refine ofX (α := Int32) (cc := cX4_pass) (maxL := 4) (by decide) rfl (wH_same cI cJ cZ ad) (Nat.le_of_ble_eq_true rfl) hl0 ⟨Nat.le_of_ble_eq_true rfl, Nat.le_of_ble_eq_true rfl⟩ (fun p e s m below meth c ls hsz C hT hP hl => ?_)
  exact wX4_pass C Xi_no hT N a1 z0 h hP va_S.rf hl
abbrev rmX4_best : Room := { frames := 7, cells := 0, slots := 0, locals := 102 }
theorem fX4_best_i169 : Cond.fieldLink RX4 169 (TX2 4).1 (TX2 4).2.1 (TX2 4).2.2.1 ∈ wsX4_best := by decide +kernel
theorem fX4_best_i19 : Cond.fieldLink RX4 19 (TX4 1).1 (TX4 1).2.1 (TX4 1).2.2.1 ∈ wsX4_best := by decide +kernel
theorem fX4_best_i28 : Cond.fieldLink RX4 28 (TX4 2).1 (TX4 2).2.1 (TX4 2).2.2.1 ∈ wsX4_best := by decide +kernel
theorem iX4_best_X2 : ∀ x ∈ wsX20, x ∈ wsX4_best := by decide +kernel
theorem iX4_best_X4 : ∀ x ∈ wsX40, x ∈ wsX4_best := by decide +kernel
theorem tX4_best_27 : tSiteN wsX4_best RX4 cX4_best 27 "java/util/NoSuchElementException" := ⟨164, 166, 168, "the book is empty", by decide, by decide +kernel, rfl, by decide +kernel, by decide +kernel, by decide +kernel, by decide +kernel, by decide +kernel, dX4_best_27, dX4_best_30, dX4_best_31, dX4_best_33, dX4_best_36⟩
set_option maxRecDepth 100000 in
set_option maxHeartbeats 4000000 in
theorem wX4_best {p : Program} {l : Launch} {e : Env} {R : Room} {s : State} {m : MethodId} {args : Array Value} {below : List Frame} {meth : Method} {c : Code} {Q : State → Prop} {D : va_G} {cI cJ cZ : ClassId} {ad : Nat → Nat} {A : Nat → Prop} {sx : Nat → Nat} (C : Cx p s m args c cX4_best 4 wsX4_best RX4 D vwCl (tyl cI cJ cZ) (wH cI cJ cZ ad) A R 7 102) {r : ((String ⊕ Int32) × SH)} (hR : Xi p l e R s m args below meth c cX4_best D vwCl (wH cI cJ cZ ad) A Q r) (hT : ThK p l e R s m args below meth c cX4_best 4 wsX4_best RX4 D vwCl (tyl cI cJ cZ) (wH cI cJ cZ ad) A Q r sx) (a1 : Int32) (a2 : Int32) (z0 : SH) {H : Heap} {locs : List Loc} {ls : Array Slot} (h : fX4_best a1 a2 z0 = some r) (hP : va_P D vwCl (wH cI cJ cZ ad z0) H) (hS : va_S A s.heap H locs) (hl : lv_has ls 4 [(0, .ref (ad 0)), (1, .int a1), (2, .int a2)]) : W p l e R s m args below meth c H locs 0 0 Q (F0 m 0 ls []) := by
  unfold fX4_best at h
  have hx := C.1.1
  have hb := C.1.2.1
  refine lv_iload_n hx hb dX4_best_0 rfl (lv_at hl 1 rfl) ?_
  refine b_callXSv (As := [.int a1]) (rest := []) C hT hP hS h (mX4_needSymbol l D cI cJ cZ ad a1 z0) (fun hl0 => nX4_needSymbol l hl0 D cI cJ cZ ad _ a1 z0) (va_cwS 1 C.1.2.2.2.2 gX4_best_X4_needSymbol rfl rfl rfl (by decide +kernel) ⟨Nat.le_trans (Nat.le_of_ble_eq_true rfl) C.2.2.2.2.1, Nat.le_trans (Nat.le_of_ble_eq_true rfl) C.2.2.2.2.2⟩) (fun _ _ => (va_cwS 1 C.1.2.2.2.2 gX4_best_X4_needSymbol rfl rfl rfl (by decide +kernel) ⟨Nat.le_trans (Nat.le_of_ble_eq_true rfl) C.2.2.2.2.1, Nat.le_trans (Nat.le_of_ble_eq_true rfl) C.2.2.2.2.2⟩)) rfl hl.1 rfl (Nat.le_of_ble_eq_true rfl) dX4_best_1 (fun _ z1 _ _ h hP hS => ?_)
  refine lv_iload_n hx hb dX4_best_4 rfl (lv_at hl 2 rfl) ?_
  refine b_callXSv (As := [.int a2]) (rest := []) C hT hP hS h (mX4_needSide l D cI cJ cZ ad a2 z1) (fun hl0 => nX4_needSide l hl0 D cI cJ cZ ad _ a2 z1) (va_cwS 1 C.1.2.2.2.2 gX4_best_X4_needSide rfl rfl rfl (by decide +kernel) ⟨Nat.le_trans (Nat.le_of_ble_eq_true rfl) C.2.2.2.2.1, Nat.le_trans (Nat.le_of_ble_eq_true rfl) C.2.2.2.2.2⟩) (fun _ _ => (va_cwS 1 C.1.2.2.2.2 gX4_best_X4_needSide rfl rfl rfl (by decide +kernel) ⟨Nat.le_trans (Nat.le_of_ble_eq_true rfl) C.2.2.2.2.1, Nat.le_trans (Nat.le_of_ble_eq_true rfl) C.2.2.2.2.2⟩)) rfl hl.1 rfl (Nat.le_of_ble_eq_true rfl) dX4_best_5 (fun _ z2 _ _ h hP hS => ?_)
  refine lv_aload_n hx hb dX4_best_8 rfl (lv_at hl 0 rfl) ?_
  refine b_getr C hP iX4_best_X4 0 (wH_0 cI cJ cZ ad z2) rfl 2 (by decide) fX4_best_i28 rfl rfl dX4_best_9 ?_
  refine lv_iload_n hx hb dX4_best_12 rfl (lv_at hl 1 rfl) ?_
  refine lv_iload_n hx hb dX4_best_13 rfl (lv_at hl 2 rfl) ?_
  refine b_callSi (As := [.int a1, .int a2]) (rest := [.ref (ad 3)]) C hP hS h (mX0_bookOf l D cI cJ cZ ad a1 a2 z2) (va_cwS 2 C.1.2.2.2.2 gX4_best_X0_bookOf rfl rfl rfl (by decide +kernel) ⟨Nat.le_trans (Nat.le_of_ble_eq_true rfl) C.2.2.2.2.1, Nat.le_trans (Nat.le_of_ble_eq_true rfl) C.2.2.2.2.2⟩) rfl hl.1 rfl (Nat.le_of_ble_eq_true rfl) dX4_best_14 (fun v4 z3 _ _ h hP hS => ?_)
  refine lv_iconst (v := 0) hx hb dX4_best_17 (by decide) ?_
  refine b_callVi (As := [.int v4, .int 0]) (rest := []) C hP hS h (mX0_orderAt l D cI cJ cZ ad v4 0 z3) (cwV 2 C.1.2.2.2.2 gX4_best_X0_orderAt rfl rfl rfl (by decide +kernel) ⟨Nat.le_trans (Nat.le_of_ble_eq_true rfl) C.2.2.2.2.1, Nat.le_trans (Nat.le_of_ble_eq_true rfl) C.2.2.2.2.2⟩) (va_recv C.2.1 hP (ci := 0) (q0 := 3) rfl (wH_3 cI cJ cZ ad z3)) rfl hl.1 rfl (Nat.le_of_ble_eq_true rfl) dX4_best_18 (fun v6 z5 _ _ h hP hS => ?_)
  refine lv_istore_n (lv' := [(3, .int v6), (0, .ref (ad 0)), (1, .int a1), (2, .int a2)]) hx hb dX4_best_21 rfl hl (by decide) rfl (fun ls hl => ?_)
  refine lv_iload_n hx hb dX4_best_22 rfl (lv_at hl 0 rfl) ?_
  refine lv_iconst (v := -1) hx hb dX4_best_23 (by decide) ?_
  refine lv_icmp_ne (tgt := 37) hx hb dX4_best_24 (by decide) (fun c1 => ?_) (fun c1 => ?_)
  · replace h := (ite_h h).2 c1
    refine lv_aload_n hx hb dX4_best_37 rfl (lv_at hl 1 rfl) ?_
    refine b_getr C hP iX4_best_X4 0 (wH_0 cI cJ cZ ad z5) rfl 1 (by decide) fX4_best_i19 rfl rfl dX4_best_38 ?_
    refine b_getr C hP iX4_best_X2 2 (wH_2 cI cJ cZ ad z5) rfl 4 (by decide) fX4_best_i169 rfl rfl dX4_best_41 ?_
    refine lv_iload_n hx hb dX4_best_44 rfl (lv_at hl 0 rfl) ?_
    refine b_iald C hP h 16 (wH_16 cI cJ cZ ad z5) 0 rfl dX4_best_45 (fun v7 h => ?_)
    exact hR 46 _ _ _ _ _ (Option.some.inj h).symm dX4_best_46 hP hS
  · replace h := (ite_h h).1 c1
    exact hT.1 27 _ _ _ _ (Option.some.inj h).symm hP hS hl.1 (Or.inr tX4_best_27)
theorem mX4_best (l : Launch) (D : va_G) (cI cJ cZ : ClassId) (ad : Nat → Nat) (a1 : Int32) (a2 : Int32) (z0 : SH) : ∀ (q : Int32 × SH) (sz : Nat), fX4_best a1 a2 z0 = some (.inr q.1, q.2) → Met l yX4_best wsX4_best rmX4_best (cP D vwCl (tyl cI cJ cZ) (wH cI cJ cZ ad z0) sz [.ref (ad 0), .int a1, .int a2]) (cQi D vwCl (wH cI cJ cZ ad) z0 sz q) 0 0 (va_A (wH cI cJ cZ ad z0) sz) := by
  intro q sz h
  refine ofW_i (cc := cX4_best) (maxL := 4) (by decide) rfl (wH_same cI cJ cZ ad) (Nat.le_of_ble_eq_true rfl) (fun p e s m below meth c ls hsz C hR hP hl => ?_)
  exact wX4_best (sx := fun _ => 0) C (Xi_of hR) ThK_no a1 a2 z0 h hP va_S.rf hl
theorem nX4_best (l : Launch) (hl0 : l.stackTraces = false) (D : va_G) (cI cJ cZ : ClassId) (ad sx : Nat → Nat) (a1 : Int32) (a2 : Int32) (z0 : SH) : ∀ (E : String) (z1 : SH) (sz : Nat), fX4_best a1 a2 z0 = some (.inl E, z1) → vx_Met l yX4_best wsX4_best (rmX rmX4_best) (cPX (thX sx) D vwCl (tyl cI cJ cZ) (wH cI cJ cZ ad z0) sz [.ref (ad 0), .int a1, .int a2]) (cQno) (cXX D vwCl (wH cI cJ cZ ad) z0 sz E z1) 1 6 (va_A (wH cI cJ cZ ad z0) sz) := by
  intro E z1 sz h
  refine ofX (α := Int32) (cc := cX4_best) (maxL := 4) (by decide) rfl (wH_same cI cJ cZ ad) (Nat.le_of_ble_eq_true rfl) hl0 ⟨Nat.le_of_ble_eq_true rfl, Nat.le_of_ble_eq_true rfl⟩ (fun p e s m below meth c ls hsz C hT hP hl => ?_)
  exact wX4_best C Xi_no hT a1 a2 z0 h hP va_S.rf hl
abbrev rmX4_depth : Room := { frames := 7, cells := 0, slots := 0, locals := 104 }
theorem fX4_depth_i28 : Cond.fieldLink RX4 28 (TX4 2).1 (TX4 2).2.1 (TX4 2).2.2.1 ∈ wsX4_depth := by decide +kernel
theorem iX4_depth_X4 : ∀ x ∈ wsX40, x ∈ wsX4_depth := by decide +kernel
set_option maxRecDepth 100000 in
set_option maxHeartbeats 4000000 in
theorem wX4_depth_50 {p : Program} {l : Launch} {e : Env} {R : Room} {s : State} {m : MethodId} {args : Array Value} {below : List Frame} {meth : Method} {c : Code} {Q : State → Prop} {D : va_G} {cI cJ cZ : ClassId} {ad : Nat → Nat} {A : Nat → Prop} {sx : Nat → Nat} (C : Cx p s m args c cX4_depth 5 wsX4_depth RX4 D vwCl (tyl cI cJ cZ) (wH cI cJ cZ ad) A R 7 104) {r : ((String ⊕ Int32) × SH)} (hR : Xi p l e R s m args below meth c cX4_depth D vwCl (wH cI cJ cZ ad) A Q r) (hT : ThK p l e R s m args below meth c cX4_depth 5 wsX4_depth RX4 D vwCl (tyl cI cJ cZ) (wH cI cJ cZ ad) A Q r sx) (N : Nat) (t0 : Int32) (z0 : SH) {H : Heap} {locs : List Loc} {ls : Array Slot} (h : fX4_depth_50 N t0 z0 = some r) (hP : va_P D vwCl (wH cI cJ cZ ad z0) H) (hS : va_S A s.heap H locs) (hl : lv_has ls 5 []) : W p l e R s m args below meth c H locs 0 0 Q (F0 m 50 ls [.int t0]) := by
  unfold fX4_depth_50 at h
  have hx := C.1.1
  have hb := C.1.2.1
  exact hR 50 _ _ _ _ _ (Option.some.inj h).symm dX4_depth_50 hP hS
set_option maxRecDepth 100000 in
set_option maxHeartbeats 4000000 in
theorem wX4_depth {p : Program} {l : Launch} {e : Env} {R : Room} {s : State} {m : MethodId} {args : Array Value} {below : List Frame} {meth : Method} {c : Code} {Q : State → Prop} {D : va_G} {cI cJ cZ : ClassId} {ad : Nat → Nat} {A : Nat → Prop} {sx : Nat → Nat} (C : Cx p s m args c cX4_depth 5 wsX4_depth RX4 D vwCl (tyl cI cJ cZ) (wH cI cJ cZ ad) A R 7 104) {r : ((String ⊕ Int32) × SH)} (hR : Xi p l e R s m args below meth c cX4_depth D vwCl (wH cI cJ cZ ad) A Q r) (hT : ThK p l e R s m args below meth c cX4_depth 5 wsX4_depth RX4 D vwCl (tyl cI cJ cZ) (wH cI cJ cZ ad) A Q r sx) (N : Nat) (a1 : Int32) (a2 : Int32) (a3 : Int32) (z0 : SH) {H : Heap} {locs : List Loc} {ls : Array Slot} (h : fX4_depth N a1 a2 a3 z0 = some r) (hP : va_P D vwCl (wH cI cJ cZ ad z0) H) (hS : va_S A s.heap H locs) (hl : lv_has ls 5 [(0, .ref (ad 0)), (1, .int a1), (2, .int a2), (3, .int a3)]) : W p l e R s m args below meth c H locs 0 0 Q (F0 m 0 ls []) := by
  unfold fX4_depth at h
  have hx := C.1.1
  have hb := C.1.2.1
  refine lv_iload_n hx hb dX4_depth_0 rfl (lv_at hl 1 rfl) ?_
  refine b_callXSv (As := [.int a1]) (rest := []) C hT hP hS h (mX4_needSymbol l D cI cJ cZ ad a1 z0) (fun hl0 => nX4_needSymbol l hl0 D cI cJ cZ ad _ a1 z0) (va_cwS 1 C.1.2.2.2.2 gX4_depth_X4_needSymbol rfl rfl rfl (by decide +kernel) ⟨Nat.le_trans (Nat.le_of_ble_eq_true rfl) C.2.2.2.2.1, Nat.le_trans (Nat.le_of_ble_eq_true rfl) C.2.2.2.2.2⟩) (fun _ _ => (va_cwS 1 C.1.2.2.2.2 gX4_depth_X4_needSymbol rfl rfl rfl (by decide +kernel) ⟨Nat.le_trans (Nat.le_of_ble_eq_true rfl) C.2.2.2.2.1, Nat.le_trans (Nat.le_of_ble_eq_true rfl) C.2.2.2.2.2⟩)) rfl hl.1 rfl (Nat.le_of_ble_eq_true rfl) dX4_depth_1 (fun _ z1 _ _ h hP hS => ?_)
  refine lv_iload_n hx hb dX4_depth_4 rfl (lv_at hl 2 rfl) ?_
  refine b_callXSv (As := [.int a2]) (rest := []) C hT hP hS h (mX4_needSide l D cI cJ cZ ad a2 z1) (fun hl0 => nX4_needSide l hl0 D cI cJ cZ ad _ a2 z1) (va_cwS 1 C.1.2.2.2.2 gX4_depth_X4_needSide rfl rfl rfl (by decide +kernel) ⟨Nat.le_trans (Nat.le_of_ble_eq_true rfl) C.2.2.2.2.1, Nat.le_trans (Nat.le_of_ble_eq_true rfl) C.2.2.2.2.2⟩) (fun _ _ => (va_cwS 1 C.1.2.2.2.2 gX4_depth_X4_needSide rfl rfl rfl (by decide +kernel) ⟨Nat.le_trans (Nat.le_of_ble_eq_true rfl) C.2.2.2.2.1, Nat.le_trans (Nat.le_of_ble_eq_true rfl) C.2.2.2.2.2⟩)) rfl hl.1 rfl (Nat.le_of_ble_eq_true rfl) dX4_depth_5 (fun _ z2 _ _ h hP hS => ?_)
  refine lv_iload_n hx hb dX4_depth_8 rfl (lv_at hl 3 rfl) ?_
  refine lv_iconst (v := 0) hx hb dX4_depth_9 (by decide) ?_
  refine lv_sipush (v := 10000) hx hb dX4_depth_10 (by decide) ?_
  refine b_callXSv (As := [.int a3, .int 0, .int 10000]) (rest := []) C hT hP hS h (mX4_needWithin l D cI cJ cZ ad a3 0 10000 z2) (fun hl0 => nX4_needWithin l hl0 D cI cJ cZ ad _ a3 0 10000 z2) (va_cwS 3 C.1.2.2.2.2 gX4_depth_X4_needWithin rfl rfl rfl (by decide +kernel) ⟨Nat.le_trans (Nat.le_of_ble_eq_true rfl) C.2.2.2.2.1, Nat.le_trans (Nat.le_of_ble_eq_true rfl) C.2.2.2.2.2⟩) (fun _ _ => (va_cwS 3 C.1.2.2.2.2 gX4_depth_X4_needWithin rfl rfl rfl (by decide +kernel) ⟨Nat.le_trans (Nat.le_of_ble_eq_true rfl) C.2.2.2.2.1, Nat.le_trans (Nat.le_of_ble_eq_true rfl) C.2.2.2.2.2⟩)) rfl hl.1 rfl (Nat.le_of_ble_eq_true rfl) dX4_depth_13 (fun _ z3 _ _ h hP hS => ?_)
  refine lv_iload_n hx hb dX4_depth_16 rfl (lv_at hl 1 rfl) ?_
  refine lv_iload_n hx hb dX4_depth_17 rfl (lv_at hl 2 rfl) ?_
  refine b_callSi (As := [.int a1, .int a2]) (rest := []) C hP hS h (mX0_bookOf l D cI cJ cZ ad a1 a2 z3) (va_cwS 2 C.1.2.2.2.2 gX4_depth_X0_bookOf rfl rfl rfl (by decide +kernel) ⟨Nat.le_trans (Nat.le_of_ble_eq_true rfl) C.2.2.2.2.1, Nat.le_trans (Nat.le_of_ble_eq_true rfl) C.2.2.2.2.2⟩) rfl hl.1 rfl (Nat.le_of_ble_eq_true rfl) dX4_depth_18 (fun v5 z4 _ _ h hP hS => ?_)
  refine lv_istore (lv' := [(4, .int v5), (0, .ref (ad 0)), (1, .int a1), (2, .int a2), (3, .int a3)]) hx hb dX4_depth_21 hl (by decide) rfl (fun ls hl => ?_)
  refine lv_iload_n hx hb dX4_depth_23 rfl (lv_at hl 4 rfl) ?_
  refine lv_if_ne (tgt := 39) hx hb dX4_depth_24 (by decide) (fun c1 => ?_) (fun c1 => ?_)
  · replace h := (ite_h h).2 c1
    refine lv_aload_n hx hb dX4_depth_39 rfl (lv_at hl 1 rfl) ?_
    refine b_getr C hP iX4_depth_X4 0 (wH_0 cI cJ cZ ad z4) rfl 2 (by decide) fX4_depth_i28 rfl rfl dX4_depth_40 ?_
    refine lv_iload hx hb dX4_depth_43 (lv_at hl 0 rfl) ?_
    refine lv_iload_n hx hb dX4_depth_45 rfl (lv_at hl 4 rfl) ?_
    refine lv_iconst (v := -1) hx hb dX4_depth_46 (by decide) ?_
    refine b_callVi (As := [.int v5, .int a3, .int ((-1))]) (rest := []) C hP hS h (mX0_sumShown l D cI cJ cZ ad N v5 a3 ((-1)) z4) (cwV 3 C.1.2.2.2.2 gX4_depth_X0_sumShown rfl rfl rfl (by decide +kernel) ⟨Nat.le_trans (Nat.le_of_ble_eq_true rfl) C.2.2.2.2.1, Nat.le_trans (Nat.le_of_ble_eq_true rfl) C.2.2.2.2.2⟩) (va_recv C.2.1 hP (ci := 0) (q0 := 3) rfl (wH_3 cI cJ cZ ad z4)) rfl hl.1 rfl (Nat.le_of_ble_eq_true rfl) dX4_depth_47 (fun v7 z6 _ _ h hP hS => ?_)
    exact wX4_depth_50 C hR hT N v7 z6 h hP hS (lv_sub hl [] rfl)
  · replace h := (ite_h h).1 c1
    refine lv_aload_n hx hb dX4_depth_27 rfl (lv_at hl 1 rfl) ?_
    refine b_getr C hP iX4_depth_X4 0 (wH_0 cI cJ cZ ad z4) rfl 2 (by decide) fX4_depth_i28 rfl rfl dX4_depth_28 ?_
    refine lv_iload hx hb dX4_depth_31 (lv_at hl 0 rfl) ?_
    refine b_callVi (As := [.int v5]) (rest := []) C hP hS h (mX0_countPrices l D cI cJ cZ ad N v5 z4) (cwV 1 C.1.2.2.2.2 gX4_depth_X0_countPrices rfl rfl rfl (by decide +kernel) ⟨Nat.le_trans (Nat.le_of_ble_eq_true rfl) C.2.2.2.2.1, Nat.le_trans (Nat.le_of_ble_eq_true rfl) C.2.2.2.2.2⟩) (va_recv C.2.1 hP (ci := 0) (q0 := 3) rfl (wH_3 cI cJ cZ ad z4)) rfl hl.1 rfl (Nat.le_of_ble_eq_true rfl) dX4_depth_33 (fun v9 z8 _ _ h hP hS => ?_)
    refine lv_goto (tgt := 50) hx hb dX4_depth_36 (by decide) ?_
    exact wX4_depth_50 C hR hT N v9 z8 h hP hS (lv_sub hl [] rfl)
theorem mX4_depth (l : Launch) (D : va_G) (cI cJ cZ : ClassId) (ad : Nat → Nat) (N : Nat) (a1 : Int32) (a2 : Int32) (a3 : Int32) (z0 : SH) : ∀ (q : Int32 × SH) (sz : Nat), fX4_depth N a1 a2 a3 z0 = some (.inr q.1, q.2) → Met l yX4_depth wsX4_depth rmX4_depth (cP D vwCl (tyl cI cJ cZ) (wH cI cJ cZ ad z0) sz [.ref (ad 0), .int a1, .int a2, .int a3]) (cQi D vwCl (wH cI cJ cZ ad) z0 sz q) 0 0 (va_A (wH cI cJ cZ ad z0) sz) := by
  intro q sz h
  refine ofW_i (cc := cX4_depth) (maxL := 5) (by decide) rfl (wH_same cI cJ cZ ad) (Nat.le_of_ble_eq_true rfl) (fun p e s m below meth c ls hsz C hR hP hl => ?_)
  exact wX4_depth (sx := fun _ => 0) C (Xi_of hR) ThK_no N a1 a2 a3 z0 h hP va_S.rf hl
theorem nX4_depth (l : Launch) (hl0 : l.stackTraces = false) (D : va_G) (cI cJ cZ : ClassId) (ad sx : Nat → Nat) (N : Nat) (a1 : Int32) (a2 : Int32) (a3 : Int32) (z0 : SH) : ∀ (E : String) (z1 : SH) (sz : Nat), fX4_depth N a1 a2 a3 z0 = some (.inl E, z1) → vx_Met l yX4_depth wsX4_depth (rmX rmX4_depth) (cPX (thX sx) D vwCl (tyl cI cJ cZ) (wH cI cJ cZ ad z0) sz [.ref (ad 0), .int a1, .int a2, .int a3]) (cQno) (cXX D vwCl (wH cI cJ cZ ad) z0 sz E z1) 1 6 (va_A (wH cI cJ cZ ad z0) sz) := by
  intro E z1 sz h
  refine ofX (α := Int32) (cc := cX4_depth) (maxL := 5) (by decide) rfl (wH_same cI cJ cZ ad) (Nat.le_of_ble_eq_true rfl) hl0 ⟨Nat.le_of_ble_eq_true rfl, Nat.le_of_ble_eq_true rfl⟩ (fun p e s m below meth c ls hsz C hT hP hl => ?_)
  exact wX4_depth C Xi_no hT N a1 a2 a3 z0 h hP va_S.rf hl
abbrev rmX4_level : Room := { frames := 7, cells := 0, slots := 0, locals := 102 }
theorem fX4_level_i28 : Cond.fieldLink RX4 28 (TX4 2).1 (TX4 2).2.1 (TX4 2).2.2.1 ∈ wsX4_level := by decide +kernel
theorem iX4_level_X4 : ∀ x ∈ wsX40, x ∈ wsX4_level := by decide +kernel
theorem tX4_level_111 : tSite wsX4_level RX4 cX4_level 111 "java/lang/IllegalArgumentException" := ⟨132, 193, 136, "a level has no such number", by decide +kernel, by decide +kernel, rfl, by decide +kernel, by decide +kernel, by decide +kernel, by decide +kernel, by decide +kernel, by decide +kernel, dX4_level_111, dX4_level_114, Or.inl ⟨dX4_level_115, dX4_level_117, dX4_level_120⟩⟩
theorem tX4_level_47 : tSite wsX4_level RX4 cX4_level 47 "java/lang/IndexOutOfBoundsException" := ⟨179, 181, 183, "there is no such level", by decide +kernel, by decide +kernel, rfl, by decide +kernel, by decide +kernel, by decide +kernel, by decide +kernel, by decide +kernel, by decide +kernel, dX4_level_47, dX4_level_50, Or.inl ⟨dX4_level_51, dX4_level_53, dX4_level_56⟩⟩
theorem tX4_level_8 : tSite wsX4_level RX4 cX4_level 8 "java/lang/IndexOutOfBoundsException" := ⟨179, 181, 183, "there is no such level", by decide +kernel, by decide +kernel, rfl, by decide +kernel, by decide +kernel, by decide +kernel, by decide +kernel, by decide +kernel, by decide +kernel, dX4_level_8, dX4_level_11, Or.inl ⟨dX4_level_12, dX4_level_14, dX4_level_17⟩⟩
set_option maxRecDepth 100000 in
set_option maxHeartbeats 4000000 in
theorem wX4_level {p : Program} {l : Launch} {e : Env} {R : Room} {s : State} {m : MethodId} {args : Array Value} {below : List Frame} {meth : Method} {c : Code} {Q : State → Prop} {D : va_G} {cI cJ cZ : ClassId} {ad : Nat → Nat} {A : Nat → Prop} {sx : Nat → Nat} (C : Cx p s m args c cX4_level 7 wsX4_level RX4 D vwCl (tyl cI cJ cZ) (wH cI cJ cZ ad) A R 7 102) {r : ((String ⊕ Int32) × SH)} (hR : Xi p l e R s m args below meth c cX4_level D vwCl (wH cI cJ cZ ad) A Q r) (hT : ThK p l e R s m args below meth c cX4_level 7 wsX4_level RX4 D vwCl (tyl cI cJ cZ) (wH cI cJ cZ ad) A Q r sx) (N : Nat) (a1 : Int32) (a2 : Int32) (a3 : Int32) (a4 : Int32) (z0 : SH) {H : Heap} {locs : List Loc} {ls : Array Slot} (h : fX4_level N a1 a2 a3 a4 z0 = some r) (hP : va_P D vwCl (wH cI cJ cZ ad z0) H) (hS : va_S A s.heap H locs) (hl : lv_has ls 7 [(0, .ref (ad 0)), (1, .int a1), (2, .int a2), (3, .int a3), (4, .int a4)]) : W p l e R s m args below meth c H locs 0 0 Q (F0 m 0 ls []) := by
  unfold fX4_level at h
  have hx := C.1.1
  have hb := C.1.2.1
  refine lv_iload_n hx hb dX4_level_0 rfl (lv_at hl 1 rfl) ?_
  refine b_callXSv (As := [.int a1]) (rest := []) C hT hP hS h (mX4_needSymbol l D cI cJ cZ ad a1 z0) (fun hl0 => nX4_needSymbol l hl0 D cI cJ cZ ad _ a1 z0) (va_cwS 1 C.1.2.2.2.2 gX4_level_X4_needSymbol rfl rfl rfl (by decide +kernel) ⟨Nat.le_trans (Nat.le_of_ble_eq_true rfl) C.2.2.2.2.1, Nat.le_trans (Nat.le_of_ble_eq_true rfl) C.2.2.2.2.2⟩) (fun _ _ => (va_cwS 1 C.1.2.2.2.2 gX4_level_X4_needSymbol rfl rfl rfl (by decide +kernel) ⟨Nat.le_trans (Nat.le_of_ble_eq_true rfl) C.2.2.2.2.1, Nat.le_trans (Nat.le_of_ble_eq_true rfl) C.2.2.2.2.2⟩)) rfl hl.1 rfl (Nat.le_of_ble_eq_true rfl) dX4_level_1 (fun _ z1 _ _ h hP hS => ?_)
  refine lv_iload_n hx hb dX4_level_4 rfl (lv_at hl 3 rfl) ?_
  refine lv_if_ge (tgt := 18) hx hb dX4_level_5 (by decide) (fun c1 => ?_) (fun c1 => ?_)
  · replace h := (ite_h h).1 c1
    refine lv_iload_n hx hb dX4_level_18 rfl (lv_at hl 2 rfl) ?_
    refine b_callXSv (As := [.int a2]) (rest := []) C hT hP hS h (mX4_needSide l D cI cJ cZ ad a2 z1) (fun hl0 => nX4_needSide l hl0 D cI cJ cZ ad _ a2 z1) (va_cwS 1 C.1.2.2.2.2 gX4_level_X4_needSide rfl rfl rfl (by decide +kernel) ⟨Nat.le_trans (Nat.le_of_ble_eq_true rfl) C.2.2.2.2.1, Nat.le_trans (Nat.le_of_ble_eq_true rfl) C.2.2.2.2.2⟩) (fun _ _ => (va_cwS 1 C.1.2.2.2.2 gX4_level_X4_needSide rfl rfl rfl (by decide +kernel) ⟨Nat.le_trans (Nat.le_of_ble_eq_true rfl) C.2.2.2.2.1, Nat.le_trans (Nat.le_of_ble_eq_true rfl) C.2.2.2.2.2⟩)) rfl hl.1 rfl (Nat.le_of_ble_eq_true rfl) dX4_level_19 (fun _ z2 _ _ h hP hS => ?_)
    refine lv_iload_n hx hb dX4_level_22 rfl (lv_at hl 1 rfl) ?_
    refine lv_iload_n hx hb dX4_level_23 rfl (lv_at hl 2 rfl) ?_
    refine b_callSi (As := [.int a1, .int a2]) (rest := []) C hP hS h (mX0_bookOf l D cI cJ cZ ad a1 a2 z2) (va_cwS 2 C.1.2.2.2.2 gX4_level_X0_bookOf rfl rfl rfl (by decide +kernel) ⟨Nat.le_trans (Nat.le_of_ble_eq_true rfl) C.2.2.2.2.1, Nat.le_trans (Nat.le_of_ble_eq_true rfl) C.2.2.2.2.2⟩) rfl hl.1 rfl (Nat.le_of_ble_eq_true rfl) dX4_level_24 (fun v4 z3 _ _ h hP hS => ?_)
    refine lv_istore (lv' := [(5, .int v4), (0, .ref (ad 0)), (1, .int a1), (2, .int a2), (3, .int a3), (4, .int a4)]) hx hb dX4_level_27 hl (by decide) rfl (fun ls hl => ?_)
    refine lv_aload_n hx hb dX4_level_29 rfl (lv_at hl 1 rfl) ?_
    refine b_getr C hP iX4_level_X4 0 (wH_0 cI cJ cZ ad z3) rfl 2 (by decide) fX4_level_i28 rfl rfl dX4_level_30 ?_
    refine lv_iload hx hb dX4_level_33 (lv_at hl 0 rfl) ?_
    refine lv_iload_n hx hb dX4_level_35 rfl (lv_at hl 4 rfl) ?_
    refine b_callVi (As := [.int v4, .int a3]) (rest := []) C hP hS h (mX0_priceOfLevel l D cI cJ cZ ad N v4 a3 z3) (cwV 2 C.1.2.2.2.2 gX4_level_X0_priceOfLevel rfl rfl rfl (by decide +kernel) ⟨Nat.le_trans (Nat.le_of_ble_eq_true rfl) C.2.2.2.2.1, Nat.le_trans (Nat.le_of_ble_eq_true rfl) C.2.2.2.2.2⟩) (va_recv C.2.1 hP (ci := 0) (q0 := 3) rfl (wH_3 cI cJ cZ ad z3)) rfl hl.1 rfl (Nat.le_of_ble_eq_true rfl) dX4_level_36 (fun v6 z5 _ _ h hP hS => ?_)
    refine lv_istore (lv' := [(6, .int v6), (5, .int v4), (0, .ref (ad 0)), (1, .int a1), (2, .int a2), (3, .int a3), (4, .int a4)]) hx hb dX4_level_39 hl (by decide) rfl (fun ls hl => ?_)
    refine lv_iload hx hb dX4_level_41 (lv_at hl 0 rfl) ?_
    refine lv_iconst (v := -1) hx hb dX4_level_43 (by decide) ?_
    refine lv_icmp_ne (tgt := 57) hx hb dX4_level_44 (by decide) (fun c1 => ?_) (fun c1 => ?_)
    · replace h := (ite_h h).2 c1
      refine lv_iload hx hb dX4_level_57 (lv_at hl 6 rfl) ?_
      by_cases c0 : a4 = 0
      · replace h := (ite_h h).1 c0
        refine lv_tableIn (off := 25) (tgt := 84) hx hb dX4_level_59 (by rw [c0]; decide) (by rw [c0]; decide) (by rw [c0]; rfl) (by decide) ?_
        refine lv_iload hx hb dX4_level_84 (lv_at hl 0 rfl) ?_
        exact hR 86 _ _ _ _ _ (Option.some.inj h).symm dX4_level_86 hP hS
      replace h := (ite_h h).2 c0
      by_cases c1 : a4 = 1
      · replace h := (ite_h h).1 c1
        refine lv_tableIn (off := 28) (tgt := 87) hx hb dX4_level_59 (by rw [c1]; decide) (by rw [c1]; decide) (by rw [c1]; rfl) (by decide) ?_
        refine lv_aload_n hx hb dX4_level_87 rfl (lv_at hl 2 rfl) ?_
        refine b_getr C hP iX4_level_X4 0 (wH_0 cI cJ cZ ad z5) rfl 2 (by decide) fX4_level_i28 rfl rfl dX4_level_88 ?_
        refine lv_iload hx hb dX4_level_91 (lv_at hl 1 rfl) ?_
        refine lv_iload hx hb dX4_level_93 (lv_at hl 0 rfl) ?_
        refine b_callVi (As := [.int v4, .int v6]) (rest := []) C hP hS h (mX0_countOrders l D cI cJ cZ ad N v4 v6 z5) (cwV 2 C.1.2.2.2.2 gX4_level_X0_countOrders rfl rfl rfl (by decide +kernel) ⟨Nat.le_trans (Nat.le_of_ble_eq_true rfl) C.2.2.2.2.1, Nat.le_trans (Nat.le_of_ble_eq_true rfl) C.2.2.2.2.2⟩) (va_recv C.2.1 hP (ci := 0) (q0 := 3) rfl (wH_3 cI cJ cZ ad z5)) rfl hl.1 rfl (Nat.le_of_ble_eq_true rfl) dX4_level_95 (fun v8 z7 _ _ h hP hS => ?_)
        exact hR 98 _ _ _ _ _ (Option.some.inj h).symm dX4_level_98 hP hS
      replace h := (ite_h h).2 c1
      by_cases c2 : a4 = 2
      · replace h := (ite_h h).1 c2
        refine lv_tableIn (off := 40) (tgt := 99) hx hb dX4_level_59 (by rw [c2]; decide) (by rw [c2]; decide) (by rw [c2]; rfl) (by decide) ?_
        refine lv_aload_n hx hb dX4_level_99 rfl (lv_at hl 2 rfl) ?_
        refine b_getr C hP iX4_level_X4 0 (wH_0 cI cJ cZ ad z5) rfl 2 (by decide) fX4_level_i28 rfl rfl dX4_level_100 ?_
        refine lv_iload hx hb dX4_level_103 (lv_at hl 1 rfl) ?_
        refine lv_iload hx hb dX4_level_105 (lv_at hl 0 rfl) ?_
        refine b_callVi (As := [.int v4, .int v6]) (rest := []) C hP hS h (mX0_sumLeft l D cI cJ cZ ad N v4 v6 z5) (cwV 2 C.1.2.2.2.2 gX4_level_X0_sumLeft rfl rfl rfl (by decide +kernel) ⟨Nat.le_trans (Nat.le_of_ble_eq_true rfl) C.2.2.2.2.1, Nat.le_trans (Nat.le_of_ble_eq_true rfl) C.2.2.2.2.2⟩) (va_recv C.2.1 hP (ci := 0) (q0 := 3) rfl (wH_3 cI cJ cZ ad z5)) rfl hl.1 rfl (Nat.le_of_ble_eq_true rfl) dX4_level_107 (fun v10 z9 _ _ h hP hS => ?_)
        exact hR 110 _ _ _ _ _ (Option.some.inj h).symm dX4_level_110 hP hS
      replace h := (ite_h h).2 c2
      refine lv_tableOut (tgt := 111) hx hb dX4_level_59 (tsw_out2 c0 c1 c2) (by decide) ?_
      exact hT.1 111 _ _ _ _ (Option.some.inj h).symm hP hS hl.1 (Or.inl tX4_level_111)
    · replace h := (ite_h h).1 c1
      exact hT.1 47 _ _ _ _ (Option.some.inj h).symm hP hS hl.1 (Or.inl tX4_level_47)
  · replace h := (ite_h h).2 c1
    exact hT.1 8 _ _ _ _ (Option.some.inj h).symm hP hS hl.1 (Or.inl tX4_level_8)
theorem mX4_level (l : Launch) (D : va_G) (cI cJ cZ : ClassId) (ad : Nat → Nat) (N : Nat) (a1 : Int32) (a2 : Int32) (a3 : Int32) (a4 : Int32) (z0 : SH) : ∀ (q : Int32 × SH) (sz : Nat), fX4_level N a1 a2 a3 a4 z0 = some (.inr q.1, q.2) → Met l yX4_level wsX4_level rmX4_level (cP D vwCl (tyl cI cJ cZ) (wH cI cJ cZ ad z0) sz [.ref (ad 0), .int a1, .int a2, .int a3, .int a4]) (cQi D vwCl (wH cI cJ cZ ad) z0 sz q) 0 0 (va_A (wH cI cJ cZ ad z0) sz) := by
  intro q sz h
  refine ofW_i (cc := cX4_level) (maxL := 7) (by decide) rfl (wH_same cI cJ cZ ad) (Nat.le_of_ble_eq_true rfl) (fun p e s m below meth c ls hsz C hR hP hl => ?_)
  exact wX4_level (sx := fun _ => 0) C (Xi_of hR) ThK_no N a1 a2 a3 a4 z0 h hP va_S.rf hl
theorem nX4_level (l : Launch) (hl0 : l.stackTraces = false) (D : va_G) (cI cJ cZ : ClassId) (ad sx : Nat → Nat) (N : Nat) (a1 : Int32) (a2 : Int32) (a3 : Int32) (a4 : Int32) (z0 : SH) : ∀ (E : String) (z1 : SH) (sz : Nat), fX4_level N a1 a2 a3 a4 z0 = some (.inl E, z1) → vx_Met l yX4_level wsX4_level (rmX rmX4_level) (cPX (thX sx) D vwCl (tyl cI cJ cZ) (wH cI cJ cZ ad z0) sz [.ref (ad 0), .int a1, .int a2, .int a3, .int a4]) (cQno) (cXX D vwCl (wH cI cJ cZ ad) z0 sz E z1) 1 6 (va_A (wH cI cJ cZ ad z0) sz) := by
  intro E z1 sz h
  refine ofX (α := Int32) (cc := cX4_level) (maxL := 7) (by decide) rfl (wH_same cI cJ cZ ad) (Nat.le_of_ble_eq_true rfl) hl0 ⟨Nat.le_of_ble_eq_true rfl, Nat.le_of_ble_eq_true rfl⟩ (fun p e s m below meth c ls hsz C hT hP hl => ?_)
  exact wX4_level C Xi_no hT N a1 a2 a3 a4 z0 h hP va_S.rf hl
abbrev rmX4_about : Room := { frames := 7, cells := 0, slots := 0, locals := 103 }
theorem fX4_about_i126 : Cond.fieldLink RX4 126 (TX2 6).1 (TX2 6).2.1 (TX2 6).2.2.1 ∈ wsX4_about := by decide +kernel
theorem fX4_about_i139 : Cond.fieldLink RX4 139 (TX2 7).1 (TX2 7).2.1 (TX2 7).2.2.1 ∈ wsX4_about := by decide +kernel
theorem fX4_about_i151 : Cond.fieldLink RX4 151 (TX2 9).1 (TX2 9).2.1 (TX2 9).2.2.1 ∈ wsX4_about := by decide +kernel
theorem fX4_about_i19 : Cond.fieldLink RX4 19 (TX4 1).1 (TX4 1).2.1 (TX4 1).2.2.1 ∈ wsX4_about := by decide +kernel
theorem fX4_about_i198 : Cond.fieldLink RX4 198 (TX2 0).1 (TX2 0).2.1 (TX2 0).2.2.1 ∈ wsX4_about := by decide +kernel
theorem fX4_about_i201 : Cond.fieldLink RX4 201 (TX2 8).1 (TX2 8).2.1 (TX2 8).2.2.1 ∈ wsX4_about := by decide +kernel
theorem fX4_about_i204 : Cond.fieldLink RX4 204 (TX2 10).1 (TX2 10).2.1 (TX2 10).2.2.1 ∈ wsX4_about := by decide +kernel
theorem iX4_about_X2 : ∀ x ∈ wsX20, x ∈ wsX4_about := by decide +kernel
theorem iX4_about_X4 : ∀ x ∈ wsX40, x ∈ wsX4_about := by decide +kernel
theorem tX4_about_104 : tSite wsX4_about RX4 cX4_about 104 "java/lang/IllegalArgumentException" := ⟨132, 207, 136, "an order has no such number", by decide +kernel, by decide +kernel, rfl, by decide +kernel, by decide +kernel, by decide +kernel, by decide +kernel, by decide +kernel, by decide +kernel, dX4_about_104, dX4_about_107, Or.inl ⟨dX4_about_108, dX4_about_110, dX4_about_113⟩⟩
set_option maxRecDepth 100000 in
set_option maxHeartbeats 4000000 in
theorem wX4_about {p : Program} {l : Launch} {e : Env} {R : Room} {s : State} {m : MethodId} {args : Array Value} {below : List Frame} {meth : Method} {c : Code} {Q : State → Prop} {D : va_G} {cI cJ cZ : ClassId} {ad : Nat → Nat} {A : Nat → Prop} {sx : Nat → Nat} (C : Cx p s m args c cX4_about 3 wsX4_about RX4 D vwCl (tyl cI cJ cZ) (wH cI cJ cZ ad) A R 7 103) {r : ((String ⊕ Int32) × SH)} (hR : Xi p l e R s m args below meth c cX4_about D vwCl (wH cI cJ cZ ad) A Q r) (hT : ThK p l e R s m args below meth c cX4_about 3 wsX4_about RX4 D vwCl (tyl cI cJ cZ) (wH cI cJ cZ ad) A Q r sx) (a1 : Int32) (a2 : Int32) (z0 : SH) {H : Heap} {locs : List Loc} {ls : Array Slot} (h : fX4_about a1 a2 z0 = some r) (hP : va_P D vwCl (wH cI cJ cZ ad z0) H) (hS : va_S A s.heap H locs) (hl : lv_has ls 3 [(0, .ref (ad 0)), (1, .int a1), (2, .int a2)]) : W p l e R s m args below meth c H locs 0 0 Q (F0 m 0 ls []) := by
  unfold fX4_about at h
  have hx := C.1.1
  have hb := C.1.2.1
  refine lv_aload_n hx hb dX4_about_0 rfl (lv_at hl 0 rfl) ?_
  refine lv_iload_n hx hb dX4_about_1 rfl (lv_at hl 1 rfl) ?_
  refine b_callXVv (As := [.int a1]) (rest := []) C hT hP hS h (mX4_needOrder l D cI cJ cZ ad a1 z0) (fun hl0 => nX4_needOrder l hl0 D cI cJ cZ ad _ a1 z0) (cwV 1 C.1.2.2.2.2 gX4_about_X4_needOrder rfl rfl rfl (by decide +kernel) ⟨Nat.le_trans (Nat.le_of_ble_eq_true rfl) C.2.2.2.2.1, Nat.le_trans (Nat.le_of_ble_eq_true rfl) C.2.2.2.2.2⟩) (fun _ _ => (cwV 1 C.1.2.2.2.2 gX4_about_X4_needOrder rfl rfl rfl (by decide +kernel) ⟨Nat.le_trans (Nat.le_of_ble_eq_true rfl) C.2.2.2.2.1, Nat.le_trans (Nat.le_of_ble_eq_true rfl) C.2.2.2.2.2⟩)) (va_recv C.2.1 hP (ci := 4) (q0 := 0) rfl (wH_0 cI cJ cZ ad z0)) rfl hl.1 rfl (Nat.le_of_ble_eq_true rfl) dX4_about_2 (fun _ z1 _ _ h hP hS => ?_)
  refine lv_iload_n hx hb dX4_about_5 rfl (lv_at hl 2 rfl) ?_
  by_cases c0 : a2 = 0
  · replace h := (ite_h h).1 c0
    refine lv_tableIn (off := 38) (tgt := 44) hx hb dX4_about_6 (by rw [c0]; decide) (by rw [c0]; decide) (by rw [c0]; rfl) (by decide) ?_
    refine lv_aload_n hx hb dX4_about_44 rfl (lv_at hl 0 rfl) ?_
    refine b_getr C hP iX4_about_X4 0 (wH_0 cI cJ cZ ad z1) rfl 1 (by decide) fX4_about_i19 rfl rfl dX4_about_45 ?_
    refine b_getr C hP iX4_about_X2 2 (wH_2 cI cJ cZ ad z1) rfl 0 (by decide) fX4_about_i198 rfl rfl dX4_about_48 ?_
    refine lv_iload_n hx hb dX4_about_51 rfl (lv_at hl 1 rfl) ?_
    refine b_iald C hP h 12 (wH_12 cI cJ cZ ad z1) 0 rfl dX4_about_52 (fun v2 h => ?_)
    exact hR 53 _ _ _ _ _ (Option.some.inj h).symm dX4_about_53 hP hS
  replace h := (ite_h h).2 c0
  by_cases c1 : a2 = 1
  · replace h := (ite_h h).1 c1
    refine lv_tableIn (off := 48) (tgt := 54) hx hb dX4_about_6 (by rw [c1]; decide) (by rw [c1]; decide) (by rw [c1]; rfl) (by decide) ?_
    refine lv_aload_n hx hb dX4_about_54 rfl (lv_at hl 0 rfl) ?_
    refine b_getr C hP iX4_about_X4 0 (wH_0 cI cJ cZ ad z1) rfl 1 (by decide) fX4_about_i19 rfl rfl dX4_about_55 ?_
    refine b_getr C hP iX4_about_X2 2 (wH_2 cI cJ cZ ad z1) rfl 6 (by decide) fX4_about_i126 rfl rfl dX4_about_58 ?_
    refine lv_iload_n hx hb dX4_about_61 rfl (lv_at hl 1 rfl) ?_
    refine b_iald C hP h 18 (wH_18 cI cJ cZ ad z1) 0 rfl dX4_about_62 (fun v3 h => ?_)
    exact hR 63 _ _ _ _ _ (Option.some.inj h).symm dX4_about_63 hP hS
  replace h := (ite_h h).2 c1
  by_cases c2 : a2 = 2
  · replace h := (ite_h h).1 c2
    refine lv_tableIn (off := 58) (tgt := 64) hx hb dX4_about_6 (by rw [c2]; decide) (by rw [c2]; decide) (by rw [c2]; rfl) (by decide) ?_
    refine lv_aload_n hx hb dX4_about_64 rfl (lv_at hl 0 rfl) ?_
    refine b_getr C hP iX4_about_X4 0 (wH_0 cI cJ cZ ad z1) rfl 1 (by decide) fX4_about_i19 rfl rfl dX4_about_65 ?_
    refine b_getr C hP iX4_about_X2 2 (wH_2 cI cJ cZ ad z1) rfl 7 (by decide) fX4_about_i139 rfl rfl dX4_about_68 ?_
    refine lv_iload_n hx hb dX4_about_71 rfl (lv_at hl 1 rfl) ?_
    refine b_iald C hP h 19 (wH_19 cI cJ cZ ad z1) 0 rfl dX4_about_72 (fun v4 h => ?_)
    exact hR 73 _ _ _ _ _ (Option.some.inj h).symm dX4_about_73 hP hS
  replace h := (ite_h h).2 c2
  by_cases c3 : a2 = 3
  · replace h := (ite_h h).1 c3
    refine lv_tableIn (off := 68) (tgt := 74) hx hb dX4_about_6 (by rw [c3]; decide) (by rw [c3]; decide) (by rw [c3]; rfl) (by decide) ?_
    refine lv_aload_n hx hb dX4_about_74 rfl (lv_at hl 0 rfl) ?_
    refine b_getr C hP iX4_about_X4 0 (wH_0 cI cJ cZ ad z1) rfl 1 (by decide) fX4_about_i19 rfl rfl dX4_about_75 ?_
    refine b_getr C hP iX4_about_X2 2 (wH_2 cI cJ cZ ad z1) rfl 8 (by decide) fX4_about_i201 rfl rfl dX4_about_78 ?_
    refine lv_iload_n hx hb dX4_about_81 rfl (lv_at hl 1 rfl) ?_
    refine b_iald C hP h 20 (wH_20 cI cJ cZ ad z1) 0 rfl dX4_about_82 (fun v5 h => ?_)
    exact hR 83 _ _ _ _ _ (Option.some.inj h).symm dX4_about_83 hP hS
  replace h := (ite_h h).2 c3
  by_cases c4 : a2 = 4
  · replace h := (ite_h h).1 c4
    refine lv_tableIn (off := 78) (tgt := 84) hx hb dX4_about_6 (by rw [c4]; decide) (by rw [c4]; decide) (by rw [c4]; rfl) (by decide) ?_
    refine lv_aload_n hx hb dX4_about_84 rfl (lv_at hl 0 rfl) ?_
    refine b_getr C hP iX4_about_X4 0 (wH_0 cI cJ cZ ad z1) rfl 1 (by decide) fX4_about_i19 rfl rfl dX4_about_85 ?_
    refine b_getr C hP iX4_about_X2 2 (wH_2 cI cJ cZ ad z1) rfl 9 (by decide) fX4_about_i151 rfl rfl dX4_about_88 ?_
    refine lv_iload_n hx hb dX4_about_91 rfl (lv_at hl 1 rfl) ?_
    refine b_iald C hP h 21 (wH_21 cI cJ cZ ad z1) 0 rfl dX4_about_92 (fun v6 h => ?_)
    exact hR 93 _ _ _ _ _ (Option.some.inj h).symm dX4_about_93 hP hS
  replace h := (ite_h h).2 c4
  by_cases c5 : a2 = 5
  · replace h := (ite_h h).1 c5
    refine lv_tableIn (off := 88) (tgt := 94) hx hb dX4_about_6 (by rw [c5]; decide) (by rw [c5]; decide) (by rw [c5]; rfl) (by decide) ?_
    refine lv_aload_n hx hb dX4_about_94 rfl (lv_at hl 0 rfl) ?_
    refine b_getr C hP iX4_about_X4 0 (wH_0 cI cJ cZ ad z1) rfl 1 (by decide) fX4_about_i19 rfl rfl dX4_about_95 ?_
    refine b_getr C hP iX4_about_X2 2 (wH_2 cI cJ cZ ad z1) rfl 10 (by decide) fX4_about_i204 rfl rfl dX4_about_98 ?_
    refine lv_iload_n hx hb dX4_about_101 rfl (lv_at hl 1 rfl) ?_
    refine b_iald C hP h 22 (wH_22 cI cJ cZ ad z1) 0 rfl dX4_about_102 (fun v7 h => ?_)
    exact hR 103 _ _ _ _ _ (Option.some.inj h).symm dX4_about_103 hP hS
  replace h := (ite_h h).2 c5
  refine lv_tableOut (tgt := 104) hx hb dX4_about_6 (tsw_out5 c0 c1 c2 c3 c4 c5) (by decide) ?_
  exact hT.1 104 _ _ _ _ (Option.some.inj h).symm hP hS hl.1 (Or.inl tX4_about_104)
theorem mX4_about (l : Launch) (D : va_G) (cI cJ cZ : ClassId) (ad : Nat → Nat) (a1 : Int32) (a2 : Int32) (z0 : SH) : ∀ (q : Int32 × SH) (sz : Nat), fX4_about a1 a2 z0 = some (.inr q.1, q.2) → Met l yX4_about wsX4_about rmX4_about (cP D vwCl (tyl cI cJ cZ) (wH cI cJ cZ ad z0) sz [.ref (ad 0), .int a1, .int a2]) (cQi D vwCl (wH cI cJ cZ ad) z0 sz q) 0 0 (va_A (wH cI cJ cZ ad z0) sz) := by
  intro q sz h
  refine ofW_i (cc := cX4_about) (maxL := 3) (by decide) rfl (wH_same cI cJ cZ ad) (Nat.le_of_ble_eq_true rfl) (fun p e s m below meth c ls hsz C hR hP hl => ?_)
  exact wX4_about (sx := fun _ => 0) C (Xi_of hR) ThK_no a1 a2 z0 h hP va_S.rf hl
theorem nX4_about (l : Launch) (hl0 : l.stackTraces = false) (D : va_G) (cI cJ cZ : ClassId) (ad sx : Nat → Nat) (a1 : Int32) (a2 : Int32) (z0 : SH) : ∀ (E : String) (z1 : SH) (sz : Nat), fX4_about a1 a2 z0 = some (.inl E, z1) → vx_Met l yX4_about wsX4_about (rmX rmX4_about) (cPX (thX sx) D vwCl (tyl cI cJ cZ) (wH cI cJ cZ ad z0) sz [.ref (ad 0), .int a1, .int a2]) (cQno) (cXX D vwCl (wH cI cJ cZ ad) z0 sz E z1) 1 6 (va_A (wH cI cJ cZ ad z0) sz) := by
  intro E z1 sz h
  refine ofX (α := Int32) (cc := cX4_about) (maxL := 3) (by decide) rfl (wH_same cI cJ cZ ad) (Nat.le_of_ble_eq_true rfl) hl0 ⟨Nat.le_of_ble_eq_true rfl, Nat.le_of_ble_eq_true rfl⟩ (fun p e s m below meth c ls hsz C hT hP hl => ?_)
  exact wX4_about C Xi_no hT a1 a2 z0 h hP va_S.rf hl
abbrev rmX4_ahead : Room := { frames := 7, cells := 0, slots := 0, locals := 103 }
theorem fX4_ahead_i169 : Cond.fieldLink RX4 169 (TX2 4).1 (TX2 4).2.1 (TX2 4).2.2.1 ∈ wsX4_ahead := by decide +kernel
theorem fX4_ahead_i19 : Cond.fieldLink RX4 19 (TX4 1).1 (TX4 1).2.1 (TX4 1).2.2.1 ∈ wsX4_ahead := by decide +kernel
theorem fX4_ahead_i201 : Cond.fieldLink RX4 201 (TX2 8).1 (TX2 8).2.1 (TX2 8).2.2.1 ∈ wsX4_ahead := by decide +kernel
theorem fX4_ahead_i211 : Cond.fieldLink RX4 211 (TX2 1).1 (TX2 1).2.1 (TX2 1).2.2.1 ∈ wsX4_ahead := by decide +kernel
theorem fX4_ahead_i214 : Cond.fieldLink RX4 214 (TX2 2).1 (TX2 2).2.1 (TX2 2).2.2.1 ∈ wsX4_ahead := by decide +kernel
theorem fX4_ahead_i28 : Cond.fieldLink RX4 28 (TX4 2).1 (TX4 2).2.1 (TX4 2).2.2.1 ∈ wsX4_ahead := by decide +kernel
theorem iX4_ahead_X2 : ∀ x ∈ wsX20, x ∈ wsX4_ahead := by decide +kernel
theorem iX4_ahead_X4 : ∀ x ∈ wsX40, x ∈ wsX4_ahead := by decide +kernel
theorem tX4_ahead_17 : tSiteN wsX4_ahead RX4 cX4_ahead 17 "java/util/NoSuchElementException" := ⟨164, 209, 168, "the order does not rest", by decide, by decide +kernel, rfl, by decide +kernel, by decide +kernel, by decide +kernel, by decide +kernel, by decide +kernel, dX4_ahead_17, dX4_ahead_20, dX4_ahead_21, dX4_ahead_23, dX4_ahead_26⟩
set_option maxRecDepth 100000 in
set_option maxHeartbeats 4000000 in
theorem wX4_ahead {p : Program} {l : Launch} {e : Env} {R : Room} {s : State} {m : MethodId} {args : Array Value} {below : List Frame} {meth : Method} {c : Code} {Q : State → Prop} {D : va_G} {cI cJ cZ : ClassId} {ad : Nat → Nat} {A : Nat → Prop} {sx : Nat → Nat} (C : Cx p s m args c cX4_ahead 3 wsX4_ahead RX4 D vwCl (tyl cI cJ cZ) (wH cI cJ cZ ad) A R 7 103) {r : ((String ⊕ Int32) × SH)} (hR : Xi p l e R s m args below meth c cX4_ahead D vwCl (wH cI cJ cZ ad) A Q r) (hT : ThK p l e R s m args below meth c cX4_ahead 3 wsX4_ahead RX4 D vwCl (tyl cI cJ cZ) (wH cI cJ cZ ad) A Q r sx) (N : Nat) (a1 : Int32) (z0 : SH) {H : Heap} {locs : List Loc} {ls : Array Slot} (h : fX4_ahead N a1 z0 = some r) (hP : va_P D vwCl (wH cI cJ cZ ad z0) H) (hS : va_S A s.heap H locs) (hl : lv_has ls 3 [(0, .ref (ad 0)), (1, .int a1)]) : W p l e R s m args below meth c H locs 0 0 Q (F0 m 0 ls []) := by
  unfold fX4_ahead at h
  have hx := C.1.1
  have hb := C.1.2.1
  refine lv_aload_n hx hb dX4_ahead_0 rfl (lv_at hl 0 rfl) ?_
  refine lv_iload_n hx hb dX4_ahead_1 rfl (lv_at hl 1 rfl) ?_
  refine b_callXVv (As := [.int a1]) (rest := []) C hT hP hS h (mX4_needOrder l D cI cJ cZ ad a1 z0) (fun hl0 => nX4_needOrder l hl0 D cI cJ cZ ad _ a1 z0) (cwV 1 C.1.2.2.2.2 gX4_ahead_X4_needOrder rfl rfl rfl (by decide +kernel) ⟨Nat.le_trans (Nat.le_of_ble_eq_true rfl) C.2.2.2.2.1, Nat.le_trans (Nat.le_of_ble_eq_true rfl) C.2.2.2.2.2⟩) (fun _ _ => (cwV 1 C.1.2.2.2.2 gX4_ahead_X4_needOrder rfl rfl rfl (by decide +kernel) ⟨Nat.le_trans (Nat.le_of_ble_eq_true rfl) C.2.2.2.2.1, Nat.le_trans (Nat.le_of_ble_eq_true rfl) C.2.2.2.2.2⟩)) (va_recv C.2.1 hP (ci := 4) (q0 := 0) rfl (wH_0 cI cJ cZ ad z0)) rfl hl.1 rfl (Nat.le_of_ble_eq_true rfl) dX4_ahead_2 (fun _ z1 _ _ h hP hS => ?_)
  refine lv_aload_n hx hb dX4_ahead_5 rfl (lv_at hl 0 rfl) ?_
  refine b_getr C hP iX4_ahead_X4 0 (wH_0 cI cJ cZ ad z1) rfl 1 (by decide) fX4_ahead_i19 rfl rfl dX4_ahead_6 ?_
  refine b_getr C hP iX4_ahead_X2 2 (wH_2 cI cJ cZ ad z1) rfl 8 (by decide) fX4_ahead_i201 rfl rfl dX4_ahead_9 ?_
  refine lv_iload_n hx hb dX4_ahead_12 rfl (lv_at hl 1 rfl) ?_
  refine b_iald C hP h 20 (wH_20 cI cJ cZ ad z1) 0 rfl dX4_ahead_13 (fun v2 h => ?_)
  refine lv_if_eq (tgt := 27) hx hb dX4_ahead_14 (by decide) (fun c1 => ?_) (fun c1 => ?_)
  · replace h := (ite_h h).1 c1
    refine lv_aload_n hx hb dX4_ahead_27 rfl (lv_at hl 0 rfl) ?_
    refine b_getr C hP iX4_ahead_X4 0 (wH_0 cI cJ cZ ad z1) rfl 1 (by decide) fX4_ahead_i19 rfl rfl dX4_ahead_28 ?_
    refine b_getr C hP iX4_ahead_X2 2 (wH_2 cI cJ cZ ad z1) rfl 1 (by decide) fX4_ahead_i211 rfl rfl dX4_ahead_31 ?_
    refine lv_iload_n hx hb dX4_ahead_34 rfl (lv_at hl 1 rfl) ?_
    refine b_iald C hP h 13 (wH_13 cI cJ cZ ad z1) 0 rfl dX4_ahead_35 (fun v3 h => ?_)
    refine lv_aload_n hx hb dX4_ahead_36 rfl (lv_at hl 0 rfl) ?_
    refine b_getr C hP iX4_ahead_X4 0 (wH_0 cI cJ cZ ad z1) rfl 1 (by decide) fX4_ahead_i19 rfl rfl dX4_ahead_37 ?_
    refine b_getr C hP iX4_ahead_X2 2 (wH_2 cI cJ cZ ad z1) rfl 2 (by decide) fX4_ahead_i214 rfl rfl dX4_ahead_40 ?_
    refine lv_iload_n hx hb dX4_ahead_43 rfl (lv_at hl 1 rfl) ?_
    refine b_iald C hP h 14 (wH_14 cI cJ cZ ad z1) 0 rfl dX4_ahead_44 (fun v4 h => ?_)
    refine b_callSi (As := [.int v3, .int v4]) (rest := []) C hP hS h (mX0_bookOf l D cI cJ cZ ad v3 v4 z1) (va_cwS 2 C.1.2.2.2.2 gX4_ahead_X0_bookOf rfl rfl rfl (by decide +kernel) ⟨Nat.le_trans (Nat.le_of_ble_eq_true rfl) C.2.2.2.2.1, Nat.le_trans (Nat.le_of_ble_eq_true rfl) C.2.2.2.2.2⟩) rfl hl.1 rfl (Nat.le_of_ble_eq_true rfl) dX4_ahead_45 (fun v6 z5 _ _ h hP hS => ?_)
    refine lv_istore_n (lv' := [(2, .int v6), (0, .ref (ad 0)), (1, .int a1)]) hx hb dX4_ahead_48 rfl hl (by decide) rfl (fun ls hl => ?_)
    refine lv_aload_n hx hb dX4_ahead_49 rfl (lv_at hl 1 rfl) ?_
    refine b_getr C hP iX4_ahead_X4 0 (wH_0 cI cJ cZ ad z5) rfl 2 (by decide) fX4_ahead_i28 rfl rfl dX4_ahead_50 ?_
    refine lv_iload_n hx hb dX4_ahead_53 rfl (lv_at hl 0 rfl) ?_
    refine lv_aload_n hx hb dX4_ahead_54 rfl (lv_at hl 1 rfl) ?_
    refine b_getr C hP iX4_ahead_X4 0 (wH_0 cI cJ cZ ad z5) rfl 1 (by decide) fX4_ahead_i19 rfl rfl dX4_ahead_55 ?_
    refine b_getr C hP iX4_ahead_X2 2 (wH_2 cI cJ cZ ad z5) rfl 4 (by decide) fX4_ahead_i169 rfl rfl dX4_ahead_58 ?_
    refine lv_iload_n hx hb dX4_ahead_61 rfl (lv_at hl 2 rfl) ?_
    refine b_iald C hP h 16 (wH_16 cI cJ cZ ad z5) 0 rfl dX4_ahead_62 (fun v7 h => ?_)
    refine lv_iload_n hx hb dX4_ahead_63 rfl (lv_at hl 2 rfl) ?_
    refine b_callVi (As := [.int v6, .int v7, .int a1]) (rest := []) C hP hS h (mX0_sumShown l D cI cJ cZ ad N v6 v7 a1 z5) (cwV 3 C.1.2.2.2.2 gX4_ahead_X0_sumShown rfl rfl rfl (by decide +kernel) ⟨Nat.le_trans (Nat.le_of_ble_eq_true rfl) C.2.2.2.2.1, Nat.le_trans (Nat.le_of_ble_eq_true rfl) C.2.2.2.2.2⟩) (va_recv C.2.1 hP (ci := 0) (q0 := 3) rfl (wH_3 cI cJ cZ ad z5)) rfl hl.1 rfl (Nat.le_of_ble_eq_true rfl) dX4_ahead_64 (fun v9 z8 _ _ h hP hS => ?_)
    exact hR 67 _ _ _ _ _ (Option.some.inj h).symm dX4_ahead_67 hP hS
  · replace h := (ite_h h).2 c1
    exact hT.1 17 _ _ _ _ (Option.some.inj h).symm hP hS hl.1 (Or.inr tX4_ahead_17)
theorem mX4_ahead (l : Launch) (D : va_G) (cI cJ cZ : ClassId) (ad : Nat → Nat) (N : Nat) (a1 : Int32) (z0 : SH) : ∀ (q : Int32 × SH) (sz : Nat), fX4_ahead N a1 z0 = some (.inr q.1, q.2) → Met l yX4_ahead wsX4_ahead rmX4_ahead (cP D vwCl (tyl cI cJ cZ) (wH cI cJ cZ ad z0) sz [.ref (ad 0), .int a1]) (cQi D vwCl (wH cI cJ cZ ad) z0 sz q) 0 0 (va_A (wH cI cJ cZ ad z0) sz) := by
  intro q sz h
  refine ofW_i (cc := cX4_ahead) (maxL := 3) (by decide) rfl (wH_same cI cJ cZ ad) (Nat.le_of_ble_eq_true rfl) (fun p e s m below meth c ls hsz C hR hP hl => ?_)
  exact wX4_ahead (sx := fun _ => 0) C (Xi_of hR) ThK_no N a1 z0 h hP va_S.rf hl
theorem nX4_ahead (l : Launch) (hl0 : l.stackTraces = false) (D : va_G) (cI cJ cZ : ClassId) (ad sx : Nat → Nat) (N : Nat) (a1 : Int32) (z0 : SH) : ∀ (E : String) (z1 : SH) (sz : Nat), fX4_ahead N a1 z0 = some (.inl E, z1) → vx_Met l yX4_ahead wsX4_ahead (rmX rmX4_ahead) (cPX (thX sx) D vwCl (tyl cI cJ cZ) (wH cI cJ cZ ad z0) sz [.ref (ad 0), .int a1]) (cQno) (cXX D vwCl (wH cI cJ cZ ad) z0 sz E z1) 1 6 (va_A (wH cI cJ cZ ad z0) sz) := by
  intro E z1 sz h
  refine ofX (α := Int32) (cc := cX4_ahead) (maxL := 3) (by decide) rfl (wH_same cI cJ cZ ad) (Nat.le_of_ble_eq_true rfl) hl0 ⟨Nat.le_of_ble_eq_true rfl, Nat.le_of_ble_eq_true rfl⟩ (fun p e s m below meth c ls hsz C hT hP hl => ?_)
  exact wX4_ahead C Xi_no hT N a1 z0 h hP va_S.rf hl
abbrev rmX4_cash : Room := { frames := 7, cells := 0, slots := 0, locals := 102 }
theorem fX4_cash_i10 : Cond.fieldLink RX4 10 (TX4 0).1 (TX4 0).2.1 (TX4 0).2.2.1 ∈ wsX4_cash := by decide +kernel
theorem fX4_cash_i217 : Cond.fieldLink RX4 217 (TX1 1).1 (TX1 1).2.1 (TX1 1).2.2.1 ∈ wsX4_cash := by decide +kernel
theorem fX4_cash_i52 : Cond.fieldLink RX4 52 (TX1 0).1 (TX1 0).2.1 (TX1 0).2.2.1 ∈ wsX4_cash := by decide +kernel
theorem iX4_cash_X1 : ∀ x ∈ wsX10, x ∈ wsX4_cash := by decide +kernel
theorem iX4_cash_X4 : ∀ x ∈ wsX40, x ∈ wsX4_cash := by decide +kernel
theorem tX4_cash_52 : tSite wsX4_cash RX4 cX4_cash 52 "java/lang/IllegalArgumentException" := ⟨132, 220, 136, "cash has no such number", by decide +kernel, by decide +kernel, rfl, by decide +kernel, by decide +kernel, by decide +kernel, by decide +kernel, by decide +kernel, by decide +kernel, dX4_cash_52, dX4_cash_55, Or.inl ⟨dX4_cash_56, dX4_cash_58, dX4_cash_61⟩⟩
set_option maxRecDepth 100000 in
set_option maxHeartbeats 4000000 in
theorem wX4_cash {p : Program} {l : Launch} {e : Env} {R : Room} {s : State} {m : MethodId} {args : Array Value} {below : List Frame} {meth : Method} {c : Code} {Q : State → Prop} {D : va_G} {cI cJ cZ : ClassId} {ad : Nat → Nat} {A : Nat → Prop} {sx : Nat → Nat} (C : Cx p s m args c cX4_cash 3 wsX4_cash RX4 D vwCl (tyl cI cJ cZ) (wH cI cJ cZ ad) A R 7 102) {r : ((String ⊕ Int64) × SH)} (hR : Xl p l e R s m args below meth c cX4_cash D vwCl (wH cI cJ cZ ad) A Q r) (hT : ThK p l e R s m args below meth c cX4_cash 3 wsX4_cash RX4 D vwCl (tyl cI cJ cZ) (wH cI cJ cZ ad) A Q r sx) (a1 : Int32) (a2 : Int32) (z0 : SH) {H : Heap} {locs : List Loc} {ls : Array Slot} (h : fX4_cash a1 a2 z0 = some r) (hP : va_P D vwCl (wH cI cJ cZ ad z0) H) (hS : va_S A s.heap H locs) (hl : lv_has ls 3 [(0, .ref (ad 0)), (1, .int a1), (2, .int a2)]) : W p l e R s m args below meth c H locs 0 0 Q (F0 m 0 ls []) := by
  unfold fX4_cash at h
  have hx := C.1.1
  have hb := C.1.2.1
  refine lv_iload_n hx hb dX4_cash_0 rfl (lv_at hl 1 rfl) ?_
  refine b_callXSv (As := [.int a1]) (rest := []) C hT hP hS h (mX4_needAccount l D cI cJ cZ ad a1 z0) (fun hl0 => nX4_needAccount l hl0 D cI cJ cZ ad _ a1 z0) (va_cwS 1 C.1.2.2.2.2 gX4_cash_X4_needAccount rfl rfl rfl (by decide +kernel) ⟨Nat.le_trans (Nat.le_of_ble_eq_true rfl) C.2.2.2.2.1, Nat.le_trans (Nat.le_of_ble_eq_true rfl) C.2.2.2.2.2⟩) (fun _ _ => (va_cwS 1 C.1.2.2.2.2 gX4_cash_X4_needAccount rfl rfl rfl (by decide +kernel) ⟨Nat.le_trans (Nat.le_of_ble_eq_true rfl) C.2.2.2.2.1, Nat.le_trans (Nat.le_of_ble_eq_true rfl) C.2.2.2.2.2⟩)) rfl hl.1 rfl (Nat.le_of_ble_eq_true rfl) dX4_cash_1 (fun _ z1 _ _ h hP hS => ?_)
  refine lv_iload_n hx hb dX4_cash_4 rfl (lv_at hl 2 rfl) ?_
  by_cases c0 : a2 = 0
  · replace h := (ite_h h).1 c0
    refine lv_lookup (off := 27) (tgt := 32) hx hb dX4_cash_5 (by decide) (by rw [c0]; rfl) (by decide) ?_
    refine lv_aload_n hx hb dX4_cash_32 rfl (lv_at hl 0 rfl) ?_
    refine b_getr C hP iX4_cash_X4 0 (wH_0 cI cJ cZ ad z1) rfl 0 (by decide) fX4_cash_i10 rfl rfl dX4_cash_33 ?_
    refine b_getr C hP iX4_cash_X1 1 (wH_1 cI cJ cZ ad z1) rfl 0 (by decide) fX4_cash_i52 rfl rfl dX4_cash_36 ?_
    refine lv_iload_n hx hb dX4_cash_39 rfl (lv_at hl 1 rfl) ?_
    refine b_lald C hP h 5 (wH_5 cI cJ cZ ad z1) 1 rfl dX4_cash_40 (fun v2 h => ?_)
    exact hR 41 _ _ _ _ _ (Option.some.inj h).symm dX4_cash_41 hP hS
  replace h := (ite_h h).2 c0
  by_cases c1 : a2 = 1
  · replace h := (ite_h h).1 c1
    refine lv_lookup (off := 37) (tgt := 42) hx hb dX4_cash_5 (by decide) (by rw [c1]; rfl) (by decide) ?_
    refine lv_aload_n hx hb dX4_cash_42 rfl (lv_at hl 0 rfl) ?_
    refine b_getr C hP iX4_cash_X4 0 (wH_0 cI cJ cZ ad z1) rfl 0 (by decide) fX4_cash_i10 rfl rfl dX4_cash_43 ?_
    refine b_getr C hP iX4_cash_X1 1 (wH_1 cI cJ cZ ad z1) rfl 1 (by decide) fX4_cash_i217 rfl rfl dX4_cash_46 ?_
    refine lv_iload_n hx hb dX4_cash_49 rfl (lv_at hl 1 rfl) ?_
    refine b_lald C hP h 6 (wH_6 cI cJ cZ ad z1) 1 rfl dX4_cash_50 (fun v3 h => ?_)
    exact hR 51 _ _ _ _ _ (Option.some.inj h).symm dX4_cash_51 hP hS
  replace h := (ite_h h).2 c1
  refine lv_lookup (off := 47) (tgt := 52) hx hb dX4_cash_5 (by decide) ((lv_osw c0 (by decide)).trans ((lv_osw c1 (by decide)).trans (rfl))) (by decide) ?_
  exact hT.1 52 _ _ _ _ (Option.some.inj h).symm hP hS hl.1 (Or.inl tX4_cash_52)
theorem mX4_cash (l : Launch) (D : va_G) (cI cJ cZ : ClassId) (ad : Nat → Nat) (a1 : Int32) (a2 : Int32) (z0 : SH) : ∀ (q : Int64 × SH) (sz : Nat), fX4_cash a1 a2 z0 = some (.inr q.1, q.2) → Met l yX4_cash wsX4_cash rmX4_cash (cP D vwCl (tyl cI cJ cZ) (wH cI cJ cZ ad z0) sz [.ref (ad 0), .int a1, .int a2]) (cQl D vwCl (wH cI cJ cZ ad) z0 sz q) 0 0 (va_A (wH cI cJ cZ ad z0) sz) := by
  intro q sz h
  refine ofW_l (cc := cX4_cash) (maxL := 3) (by decide) rfl (wH_same cI cJ cZ ad) (Nat.le_of_ble_eq_true rfl) (fun p e s m below meth c ls hsz C hR hP hl => ?_)
  exact wX4_cash (sx := fun _ => 0) C (Xl_of hR) ThK_no a1 a2 z0 h hP va_S.rf hl
theorem nX4_cash (l : Launch) (hl0 : l.stackTraces = false) (D : va_G) (cI cJ cZ : ClassId) (ad sx : Nat → Nat) (a1 : Int32) (a2 : Int32) (z0 : SH) : ∀ (E : String) (z1 : SH) (sz : Nat), fX4_cash a1 a2 z0 = some (.inl E, z1) → vx_Met l yX4_cash wsX4_cash (rmX rmX4_cash) (cPX (thX sx) D vwCl (tyl cI cJ cZ) (wH cI cJ cZ ad z0) sz [.ref (ad 0), .int a1, .int a2]) (cQno) (cXX D vwCl (wH cI cJ cZ ad) z0 sz E z1) 1 6 (va_A (wH cI cJ cZ ad z0) sz) := by
  intro E z1 sz h
  refine ofX (α := Int64) (cc := cX4_cash) (maxL := 3) (by decide) rfl (wH_same cI cJ cZ ad) (Nat.le_of_ble_eq_true rfl) hl0 ⟨Nat.le_of_ble_eq_true rfl, Nat.le_of_ble_eq_true rfl⟩ (fun p e s m below meth c ls hsz C hT hP hl => ?_)
  exact wX4_cash C Xl_no hT a1 a2 z0 h hP va_S.rf hl
abbrev rmX4_shares : Room := { frames := 7, cells := 0, slots := 0, locals := 102 }
theorem fX4_shares_i10 : Cond.fieldLink RX4 10 (TX4 0).1 (TX4 0).2.1 (TX4 0).2.2.1 ∈ wsX4_shares := by decide +kernel
theorem fX4_shares_i222 : Cond.fieldLink RX4 222 (TX1 3).1 (TX1 3).2.1 (TX1 3).2.2.1 ∈ wsX4_shares := by decide +kernel
theorem fX4_shares_i225 : Cond.fieldLink RX4 225 (TX1 4).1 (TX1 4).2.1 (TX1 4).2.2.1 ∈ wsX4_shares := by decide +kernel
theorem fX4_shares_i228 : Cond.fieldLink RX4 228 (TX1 5).1 (TX1 5).2.1 (TX1 5).2.2.1 ∈ wsX4_shares := by decide +kernel
theorem fX4_shares_i82 : Cond.fieldLink RX4 82 (TX1 2).1 (TX1 2).2.1 (TX1 2).2.2.1 ∈ wsX4_shares := by decide +kernel
theorem iX4_shares_X1 : ∀ x ∈ wsX10, x ∈ wsX4_shares := by decide +kernel
theorem iX4_shares_X4 : ∀ x ∈ wsX40, x ∈ wsX4_shares := by decide +kernel
theorem tX4_shares_92 : tSite wsX4_shares RX4 cX4_shares 92 "java/lang/IllegalArgumentException" := ⟨132, 231, 136, "shares have no such number", by decide +kernel, by decide +kernel, rfl, by decide +kernel, by decide +kernel, by decide +kernel, by decide +kernel, by decide +kernel, by decide +kernel, dX4_shares_92, dX4_shares_95, Or.inl ⟨dX4_shares_96, dX4_shares_98, dX4_shares_101⟩⟩
set_option maxRecDepth 100000 in
set_option maxHeartbeats 4000000 in
theorem wX4_shares {p : Program} {l : Launch} {e : Env} {R : Room} {s : State} {m : MethodId} {args : Array Value} {below : List Frame} {meth : Method} {c : Code} {Q : State → Prop} {D : va_G} {cI cJ cZ : ClassId} {ad : Nat → Nat} {A : Nat → Prop} {sx : Nat → Nat} (C : Cx p s m args c cX4_shares 5 wsX4_shares RX4 D vwCl (tyl cI cJ cZ) (wH cI cJ cZ ad) A R 7 102) {r : ((String ⊕ Int32) × SH)} (hR : Xi p l e R s m args below meth c cX4_shares D vwCl (wH cI cJ cZ ad) A Q r) (hT : ThK p l e R s m args below meth c cX4_shares 5 wsX4_shares RX4 D vwCl (tyl cI cJ cZ) (wH cI cJ cZ ad) A Q r sx) (a1 : Int32) (a2 : Int32) (a3 : Int32) (z0 : SH) {H : Heap} {locs : List Loc} {ls : Array Slot} (h : fX4_shares a1 a2 a3 z0 = some r) (hP : va_P D vwCl (wH cI cJ cZ ad z0) H) (hS : va_S A s.heap H locs) (hl : lv_has ls 5 [(0, .ref (ad 0)), (1, .int a1), (2, .int a2), (3, .int a3)]) : W p l e R s m args below meth c H locs 0 0 Q (F0 m 0 ls []) := by
  unfold fX4_shares at h
  have hx := C.1.1
  have hb := C.1.2.1
  refine lv_iload_n hx hb dX4_shares_0 rfl (lv_at hl 1 rfl) ?_
  refine b_callXSv (As := [.int a1]) (rest := []) C hT hP hS h (mX4_needAccount l D cI cJ cZ ad a1 z0) (fun hl0 => nX4_needAccount l hl0 D cI cJ cZ ad _ a1 z0) (va_cwS 1 C.1.2.2.2.2 gX4_shares_X4_needAccount rfl rfl rfl (by decide +kernel) ⟨Nat.le_trans (Nat.le_of_ble_eq_true rfl) C.2.2.2.2.1, Nat.le_trans (Nat.le_of_ble_eq_true rfl) C.2.2.2.2.2⟩) (fun _ _ => (va_cwS 1 C.1.2.2.2.2 gX4_shares_X4_needAccount rfl rfl rfl (by decide +kernel) ⟨Nat.le_trans (Nat.le_of_ble_eq_true rfl) C.2.2.2.2.1, Nat.le_trans (Nat.le_of_ble_eq_true rfl) C.2.2.2.2.2⟩)) rfl hl.1 rfl (Nat.le_of_ble_eq_true rfl) dX4_shares_1 (fun _ z1 _ _ h hP hS => ?_)
  refine lv_iload_n hx hb dX4_shares_4 rfl (lv_at hl 2 rfl) ?_
  refine b_callXSv (As := [.int a2]) (rest := []) C hT hP hS h (mX4_needSymbol l D cI cJ cZ ad a2 z1) (fun hl0 => nX4_needSymbol l hl0 D cI cJ cZ ad _ a2 z1) (va_cwS 1 C.1.2.2.2.2 gX4_shares_X4_needSymbol rfl rfl rfl (by decide +kernel) ⟨Nat.le_trans (Nat.le_of_ble_eq_true rfl) C.2.2.2.2.1, Nat.le_trans (Nat.le_of_ble_eq_true rfl) C.2.2.2.2.2⟩) (fun _ _ => (va_cwS 1 C.1.2.2.2.2 gX4_shares_X4_needSymbol rfl rfl rfl (by decide +kernel) ⟨Nat.le_trans (Nat.le_of_ble_eq_true rfl) C.2.2.2.2.1, Nat.le_trans (Nat.le_of_ble_eq_true rfl) C.2.2.2.2.2⟩)) rfl hl.1 rfl (Nat.le_of_ble_eq_true rfl) dX4_shares_5 (fun _ z2 _ _ h hP hS => ?_)
  refine lv_iload_n hx hb dX4_shares_8 rfl (lv_at hl 1 rfl) ?_
  refine lv_iload_n hx hb dX4_shares_9 rfl (lv_at hl 2 rfl) ?_
  refine b_callSi (As := [.int a1, .int a2]) (rest := []) C hP hS h (mX1_placeOf l D cI cJ cZ ad a1 a2 z2) (va_cwS 2 C.1.2.2.2.2 gX4_shares_X1_placeOf rfl rfl rfl (by decide +kernel) ⟨Nat.le_trans (Nat.le_of_ble_eq_true rfl) C.2.2.2.2.1, Nat.le_trans (Nat.le_of_ble_eq_true rfl) C.2.2.2.2.2⟩) rfl hl.1 rfl (Nat.le_of_ble_eq_true rfl) dX4_shares_10 (fun v4 z3 _ _ h hP hS => ?_)
  refine lv_istore (lv' := [(4, .int v4), (0, .ref (ad 0)), (1, .int a1), (2, .int a2), (3, .int a3)]) hx hb dX4_shares_13 hl (by decide) rfl (fun ls hl => ?_)
  refine lv_iload_n hx hb dX4_shares_15 rfl (lv_at hl 4 rfl) ?_
  by_cases c0 : a3 = 0
  · replace h := (ite_h h).1 c0
    refine lv_tableIn (off := 32) (tgt := 48) hx hb dX4_shares_16 (by rw [c0]; decide) (by rw [c0]; decide) (by rw [c0]; rfl) (by decide) ?_
    refine lv_aload_n hx hb dX4_shares_48 rfl (lv_at hl 1 rfl) ?_
    refine b_getr C hP iX4_shares_X4 0 (wH_0 cI cJ cZ ad z3) rfl 0 (by decide) fX4_shares_i10 rfl rfl dX4_shares_49 ?_
    refine b_getr C hP iX4_shares_X1 1 (wH_1 cI cJ cZ ad z3) rfl 2 (by decide) fX4_shares_i82 rfl rfl dX4_shares_52 ?_
    refine lv_iload hx hb dX4_shares_55 (lv_at hl 0 rfl) ?_
    refine b_iald C hP h 7 (wH_7 cI cJ cZ ad z3) 0 rfl dX4_shares_57 (fun v5 h => ?_)
    exact hR 58 _ _ _ _ _ (Option.some.inj h).symm dX4_shares_58 hP hS
  replace h := (ite_h h).2 c0
  by_cases c1 : a3 = 1
  · replace h := (ite_h h).1 c1
    refine lv_tableIn (off := 43) (tgt := 59) hx hb dX4_shares_16 (by rw [c1]; decide) (by rw [c1]; decide) (by rw [c1]; rfl) (by decide) ?_
    refine lv_aload_n hx hb dX4_shares_59 rfl (lv_at hl 1 rfl) ?_
    refine b_getr C hP iX4_shares_X4 0 (wH_0 cI cJ cZ ad z3) rfl 0 (by decide) fX4_shares_i10 rfl rfl dX4_shares_60 ?_
    refine b_getr C hP iX4_shares_X1 1 (wH_1 cI cJ cZ ad z3) rfl 3 (by decide) fX4_shares_i222 rfl rfl dX4_shares_63 ?_
    refine lv_iload hx hb dX4_shares_66 (lv_at hl 0 rfl) ?_
    refine b_iald C hP h 8 (wH_8 cI cJ cZ ad z3) 0 rfl dX4_shares_68 (fun v6 h => ?_)
    exact hR 69 _ _ _ _ _ (Option.some.inj h).symm dX4_shares_69 hP hS
  replace h := (ite_h h).2 c1
  by_cases c2 : a3 = 2
  · replace h := (ite_h h).1 c2
    refine lv_tableIn (off := 54) (tgt := 70) hx hb dX4_shares_16 (by rw [c2]; decide) (by rw [c2]; decide) (by rw [c2]; rfl) (by decide) ?_
    refine lv_aload_n hx hb dX4_shares_70 rfl (lv_at hl 1 rfl) ?_
    refine b_getr C hP iX4_shares_X4 0 (wH_0 cI cJ cZ ad z3) rfl 0 (by decide) fX4_shares_i10 rfl rfl dX4_shares_71 ?_
    refine b_getr C hP iX4_shares_X1 1 (wH_1 cI cJ cZ ad z3) rfl 4 (by decide) fX4_shares_i225 rfl rfl dX4_shares_74 ?_
    refine lv_iload hx hb dX4_shares_77 (lv_at hl 0 rfl) ?_
    refine b_iald C hP h 9 (wH_9 cI cJ cZ ad z3) 0 rfl dX4_shares_79 (fun v7 h => ?_)
    exact hR 80 _ _ _ _ _ (Option.some.inj h).symm dX4_shares_80 hP hS
  replace h := (ite_h h).2 c2
  by_cases c3 : a3 = 3
  · replace h := (ite_h h).1 c3
    refine lv_tableIn (off := 65) (tgt := 81) hx hb dX4_shares_16 (by rw [c3]; decide) (by rw [c3]; decide) (by rw [c3]; rfl) (by decide) ?_
    refine lv_aload_n hx hb dX4_shares_81 rfl (lv_at hl 1 rfl) ?_
    refine b_getr C hP iX4_shares_X4 0 (wH_0 cI cJ cZ ad z3) rfl 0 (by decide) fX4_shares_i10 rfl rfl dX4_shares_82 ?_
    refine b_getr C hP iX4_shares_X1 1 (wH_1 cI cJ cZ ad z3) rfl 5 (by decide) fX4_shares_i228 rfl rfl dX4_shares_85 ?_
    refine lv_iload hx hb dX4_shares_88 (lv_at hl 0 rfl) ?_
    refine b_iald C hP h 10 (wH_10 cI cJ cZ ad z3) 0 rfl dX4_shares_90 (fun v8 h => ?_)
    exact hR 91 _ _ _ _ _ (Option.some.inj h).symm dX4_shares_91 hP hS
  replace h := (ite_h h).2 c3
  refine lv_tableOut (tgt := 92) hx hb dX4_shares_16 (tsw_out3 c0 c1 c2 c3) (by decide) ?_
  exact hT.1 92 _ _ _ _ (Option.some.inj h).symm hP hS hl.1 (Or.inl tX4_shares_92)
theorem mX4_shares (l : Launch) (D : va_G) (cI cJ cZ : ClassId) (ad : Nat → Nat) (a1 : Int32) (a2 : Int32) (a3 : Int32) (z0 : SH) : ∀ (q : Int32 × SH) (sz : Nat), fX4_shares a1 a2 a3 z0 = some (.inr q.1, q.2) → Met l yX4_shares wsX4_shares rmX4_shares (cP D vwCl (tyl cI cJ cZ) (wH cI cJ cZ ad z0) sz [.ref (ad 0), .int a1, .int a2, .int a3]) (cQi D vwCl (wH cI cJ cZ ad) z0 sz q) 0 0 (va_A (wH cI cJ cZ ad z0) sz) := by
  intro q sz h
  refine ofW_i (cc := cX4_shares) (maxL := 5) (by decide) rfl (wH_same cI cJ cZ ad) (Nat.le_of_ble_eq_true rfl) (fun p e s m below meth c ls hsz C hR hP hl => ?_)
  exact wX4_shares (sx := fun _ => 0) C (Xi_of hR) ThK_no a1 a2 a3 z0 h hP va_S.rf hl
theorem nX4_shares (l : Launch) (hl0 : l.stackTraces = false) (D : va_G) (cI cJ cZ : ClassId) (ad sx : Nat → Nat) (a1 : Int32) (a2 : Int32) (a3 : Int32) (z0 : SH) : ∀ (E : String) (z1 : SH) (sz : Nat), fX4_shares a1 a2 a3 z0 = some (.inl E, z1) → vx_Met l yX4_shares wsX4_shares (rmX rmX4_shares) (cPX (thX sx) D vwCl (tyl cI cJ cZ) (wH cI cJ cZ ad z0) sz [.ref (ad 0), .int a1, .int a2, .int a3]) (cQno) (cXX D vwCl (wH cI cJ cZ ad) z0 sz E z1) 1 6 (va_A (wH cI cJ cZ ad z0) sz) := by
  intro E z1 sz h
  refine ofX (α := Int32) (cc := cX4_shares) (maxL := 5) (by decide) rfl (wH_same cI cJ cZ ad) (Nat.le_of_ble_eq_true rfl) hl0 ⟨Nat.le_of_ble_eq_true rfl, Nat.le_of_ble_eq_true rfl⟩ (fun p e s m below meth c ls hsz C hT hP hl => ?_)
  exact wX4_shares C Xi_no hT a1 a2 a3 z0 h hP va_S.rf hl
abbrev rmX4_count : Room := { frames := 6, cells := 0, slots := 0, locals := 82 }
theorem fX4_count_i10 : Cond.fieldLink RX4 10 (TX4 0).1 (TX4 0).2.1 (TX4 0).2.2.1 ∈ wsX4_count := by decide +kernel
theorem fX4_count_i100 : Cond.fieldLink RX4 100 (TX2 11).1 (TX2 11).2.1 (TX2 11).2.2.1 ∈ wsX4_count := by decide +kernel
theorem fX4_count_i19 : Cond.fieldLink RX4 19 (TX4 1).1 (TX4 1).2.1 (TX4 1).2.2.1 ∈ wsX4_count := by decide +kernel
theorem fX4_count_i233 : Cond.fieldLink RX4 233 (TX3 8).1 (TX3 8).2.1 (TX3 8).2.2.1 ∈ wsX4_count := by decide +kernel
theorem fX4_count_i236 : Cond.fieldLink RX4 236 (TX1 7).1 (TX1 7).2.1 (TX1 7).2.2.1 ∈ wsX4_count := by decide +kernel
theorem fX4_count_i35 : Cond.fieldLink RX4 35 (TX4 3).1 (TX4 3).2.1 (TX4 3).2.2.1 ∈ wsX4_count := by decide +kernel
theorem fX4_count_i39 : Cond.fieldLink RX4 39 (TX4 4).1 (TX4 4).2.1 (TX4 4).2.2.1 ∈ wsX4_count := by decide +kernel
theorem fX4_count_i97 : Cond.fieldLink RX4 97 (TX2 12).1 (TX2 12).2.1 (TX2 12).2.2.1 ∈ wsX4_count := by decide +kernel
theorem iX4_count_X1 : ∀ x ∈ wsX10, x ∈ wsX4_count := by decide +kernel
theorem iX4_count_X2 : ∀ x ∈ wsX20, x ∈ wsX4_count := by decide +kernel
theorem iX4_count_X3 : ∀ x ∈ wsX30, x ∈ wsX4_count := by decide +kernel
theorem iX4_count_X4 : ∀ x ∈ wsX40, x ∈ wsX4_count := by decide +kernel
theorem tX4_count_73 : tSite wsX4_count RX4 cX4_count 73 "java/lang/IllegalArgumentException" := ⟨132, 239, 136, "there is no such count", by decide +kernel, by decide +kernel, rfl, by decide +kernel, by decide +kernel, by decide +kernel, by decide +kernel, by decide +kernel, by decide +kernel, dX4_count_73, dX4_count_76, Or.inl ⟨dX4_count_77, dX4_count_79, dX4_count_82⟩⟩
set_option maxRecDepth 100000 in
set_option maxHeartbeats 4000000 in
theorem wX4_count {p : Program} {l : Launch} {e : Env} {R : Room} {s : State} {m : MethodId} {args : Array Value} {below : List Frame} {meth : Method} {c : Code} {Q : State → Prop} {D : va_G} {cI cJ cZ : ClassId} {ad : Nat → Nat} {A : Nat → Prop} {sx : Nat → Nat} (C : Cx p s m args c cX4_count 2 wsX4_count RX4 D vwCl (tyl cI cJ cZ) (wH cI cJ cZ ad) A R 6 82) {r : ((String ⊕ Int32) × SH)} (hR : Xi p l e R s m args below meth c cX4_count D vwCl (wH cI cJ cZ ad) A Q r) (hT : ThK p l e R s m args below meth c cX4_count 2 wsX4_count RX4 D vwCl (tyl cI cJ cZ) (wH cI cJ cZ ad) A Q r sx) (a1 : Int32) (z0 : SH) {H : Heap} {locs : List Loc} {ls : Array Slot} (h : fX4_count a1 z0 = some r) (hP : va_P D vwCl (wH cI cJ cZ ad z0) H) (hS : va_S A s.heap H locs) (hl : lv_has ls 2 [(0, .ref (ad 0)), (1, .int a1)]) : W p l e R s m args below meth c H locs 0 0 Q (F0 m 0 ls []) := by
  unfold fX4_count at h
  have hx := C.1.1
  have hb := C.1.2.1
  refine lv_iload_n hx hb dX4_count_0 rfl (lv_at hl 1 rfl) ?_
  by_cases c0 : a1 = 0
  · replace h := (ite_h h).1 c0
    refine lv_tableIn (off := 35) (tgt := 36) hx hb dX4_count_1 (by rw [c0]; decide) (by rw [c0]; decide) (by rw [c0]; rfl) (by decide) ?_
    refine lv_aload_n hx hb dX4_count_36 rfl (lv_at hl 0 rfl) ?_
    refine b_getr C hP iX4_count_X4 0 (wH_0 cI cJ cZ ad z0) rfl 3 (by decide) fX4_count_i35 rfl rfl dX4_count_37 ?_
    refine b_geti C hP h iX4_count_X3 4 (wH_4 cI cJ cZ ad z0) rfl 8 (by decide) fX4_count_i233 rfl rfl dX4_count_40 (fun v1 h => ?_)
    exact hR 43 _ _ _ _ _ (Option.some.inj h).symm dX4_count_43 hP hS
  replace h := (ite_h h).2 c0
  by_cases c1 : a1 = 1
  · replace h := (ite_h h).1 c1
    refine lv_tableIn (off := 43) (tgt := 44) hx hb dX4_count_1 (by rw [c1]; decide) (by rw [c1]; decide) (by rw [c1]; rfl) (by decide) ?_
    refine lv_aload_n hx hb dX4_count_44 rfl (lv_at hl 0 rfl) ?_
    refine b_getr C hP iX4_count_X4 0 (wH_0 cI cJ cZ ad z0) rfl 1 (by decide) fX4_count_i19 rfl rfl dX4_count_45 ?_
    refine b_geti C hP h iX4_count_X2 2 (wH_2 cI cJ cZ ad z0) rfl 11 (by decide) fX4_count_i100 rfl rfl dX4_count_48 (fun v2 h => ?_)
    exact hR 51 _ _ _ _ _ (Option.some.inj h).symm dX4_count_51 hP hS
  replace h := (ite_h h).2 c1
  by_cases c2 : a1 = 2
  · replace h := (ite_h h).1 c2
    refine lv_tableIn (off := 51) (tgt := 52) hx hb dX4_count_1 (by rw [c2]; decide) (by rw [c2]; decide) (by rw [c2]; rfl) (by decide) ?_
    refine lv_aload_n hx hb dX4_count_52 rfl (lv_at hl 0 rfl) ?_
    refine b_getr C hP iX4_count_X4 0 (wH_0 cI cJ cZ ad z0) rfl 1 (by decide) fX4_count_i19 rfl rfl dX4_count_53 ?_
    refine b_geti C hP h iX4_count_X2 2 (wH_2 cI cJ cZ ad z0) rfl 12 (by decide) fX4_count_i97 rfl rfl dX4_count_56 (fun v3 h => ?_)
    exact hR 59 _ _ _ _ _ (Option.some.inj h).symm dX4_count_59 hP hS
  replace h := (ite_h h).2 c2
  by_cases c3 : a1 = 3
  · replace h := (ite_h h).1 c3
    refine lv_tableIn (off := 59) (tgt := 60) hx hb dX4_count_1 (by rw [c3]; decide) (by rw [c3]; decide) (by rw [c3]; rfl) (by decide) ?_
    refine lv_aload_n hx hb dX4_count_60 rfl (lv_at hl 0 rfl) ?_
    refine b_getr C hP iX4_count_X4 0 (wH_0 cI cJ cZ ad z0) rfl 0 (by decide) fX4_count_i10 rfl rfl dX4_count_61 ?_
    refine b_geti C hP h iX4_count_X1 1 (wH_1 cI cJ cZ ad z0) rfl 7 (by decide) fX4_count_i236 rfl rfl dX4_count_64 (fun v4 h => ?_)
    exact hR 67 _ _ _ _ _ (Option.some.inj h).symm dX4_count_67 hP hS
  replace h := (ite_h h).2 c3
  by_cases c4 : a1 = 4
  · replace h := (ite_h h).1 c4
    refine lv_tableIn (off := 67) (tgt := 68) hx hb dX4_count_1 (by rw [c4]; decide) (by rw [c4]; decide) (by rw [c4]; rfl) (by decide) ?_
    refine lv_aload_n hx hb dX4_count_68 rfl (lv_at hl 0 rfl) ?_
    refine b_geti C hP h iX4_count_X4 0 (wH_0 cI cJ cZ ad z0) rfl 4 (by decide) fX4_count_i39 rfl rfl dX4_count_69 (fun v5 h => ?_)
    exact hR 72 _ _ _ _ _ (Option.some.inj h).symm dX4_count_72 hP hS
  replace h := (ite_h h).2 c4
  refine lv_tableOut (tgt := 73) hx hb dX4_count_1 (tsw_out4 c0 c1 c2 c3 c4) (by decide) ?_
  exact hT.1 73 _ _ _ _ (Option.some.inj h).symm hP hS hl.1 (Or.inl tX4_count_73)
theorem mX4_count (l : Launch) (D : va_G) (cI cJ cZ : ClassId) (ad : Nat → Nat) (a1 : Int32) (z0 : SH) : ∀ (q : Int32 × SH) (sz : Nat), fX4_count a1 z0 = some (.inr q.1, q.2) → Met l yX4_count wsX4_count rmX4_count (cP D vwCl (tyl cI cJ cZ) (wH cI cJ cZ ad z0) sz [.ref (ad 0), .int a1]) (cQi D vwCl (wH cI cJ cZ ad) z0 sz q) 0 0 (va_A (wH cI cJ cZ ad z0) sz) := by
  intro q sz h
  refine ofW_i (cc := cX4_count) (maxL := 2) (by decide) rfl (wH_same cI cJ cZ ad) (Nat.le_of_ble_eq_true rfl) (fun p e s m below meth c ls hsz C hR hP hl => ?_)
  exact wX4_count (sx := fun _ => 0) C (Xi_of hR) ThK_no a1 z0 h hP va_S.rf hl
theorem nX4_count (l : Launch) (hl0 : l.stackTraces = false) (D : va_G) (cI cJ cZ : ClassId) (ad sx : Nat → Nat) (a1 : Int32) (z0 : SH) : ∀ (E : String) (z1 : SH) (sz : Nat), fX4_count a1 z0 = some (.inl E, z1) → vx_Met l yX4_count wsX4_count (rmX rmX4_count) (cPX (thX sx) D vwCl (tyl cI cJ cZ) (wH cI cJ cZ ad z0) sz [.ref (ad 0), .int a1]) (cQno) (cXX D vwCl (wH cI cJ cZ ad) z0 sz E z1) 1 6 (va_A (wH cI cJ cZ ad z0) sz) := by
  intro E z1 sz h
  refine ofX (α := Int32) (cc := cX4_count) (maxL := 2) (by decide) rfl (wH_same cI cJ cZ ad) (Nat.le_of_ble_eq_true rfl) hl0 ⟨Nat.le_of_ble_eq_true rfl, Nat.le_of_ble_eq_true rfl⟩ (fun p e s m below meth c ls hsz C hT hP hl => ?_)
  exact wX4_count C Xi_no hT a1 z0 h hP va_S.rf hl
abbrev rmX4_trade : Room := { frames := 6, cells := 0, slots := 0, locals := 82 }
theorem fX4_trade_i233 : Cond.fieldLink RX4 233 (TX3 8).1 (TX3 8).2.1 (TX3 8).2.2.1 ∈ wsX4_trade := by decide +kernel
theorem fX4_trade_i243 : Cond.fieldLink RX4 243 (TX3 0).1 (TX3 0).2.1 (TX3 0).2.2.1 ∈ wsX4_trade := by decide +kernel
theorem fX4_trade_i246 : Cond.fieldLink RX4 246 (TX3 1).1 (TX3 1).2.1 (TX3 1).2.2.1 ∈ wsX4_trade := by decide +kernel
theorem fX4_trade_i249 : Cond.fieldLink RX4 249 (TX3 2).1 (TX3 2).2.1 (TX3 2).2.2.1 ∈ wsX4_trade := by decide +kernel
theorem fX4_trade_i250 : Cond.fieldLink RX4 250 (TX3 3).1 (TX3 3).2.1 (TX3 3).2.2.1 ∈ wsX4_trade := by decide +kernel
theorem fX4_trade_i35 : Cond.fieldLink RX4 35 (TX4 3).1 (TX4 3).2.1 (TX4 3).2.2.1 ∈ wsX4_trade := by decide +kernel
theorem iX4_trade_X3 : ∀ x ∈ wsX30, x ∈ wsX4_trade := by decide +kernel
theorem iX4_trade_X4 : ∀ x ∈ wsX40, x ∈ wsX4_trade := by decide +kernel
theorem tX4_trade_22 : tSite wsX4_trade RX4 cX4_trade 22 "java/lang/IndexOutOfBoundsException" := ⟨179, 241, 183, "there is no such trade", by decide +kernel, by decide +kernel, rfl, by decide +kernel, by decide +kernel, by decide +kernel, by decide +kernel, by decide +kernel, by decide +kernel, dX4_trade_22, dX4_trade_25, Or.inl ⟨dX4_trade_26, dX4_trade_28, dX4_trade_31⟩⟩
theorem tX4_trade_104 : tSite wsX4_trade RX4 cX4_trade 104 "java/lang/IllegalArgumentException" := ⟨132, 253, 136, "a trade has no such number", by decide +kernel, by decide +kernel, rfl, by decide +kernel, by decide +kernel, by decide +kernel, by decide +kernel, by decide +kernel, by decide +kernel, dX4_trade_104, dX4_trade_107, Or.inl ⟨dX4_trade_108, dX4_trade_110, dX4_trade_113⟩⟩
set_option maxRecDepth 100000 in
set_option maxHeartbeats 4000000 in
theorem wX4_trade_22 {p : Program} {l : Launch} {e : Env} {R : Room} {s : State} {m : MethodId} {args : Array Value} {below : List Frame} {meth : Method} {c : Code} {Q : State → Prop} {D : va_G} {cI cJ cZ : ClassId} {ad : Nat → Nat} {A : Nat → Prop} {sx : Nat → Nat} (C : Cx p s m args c cX4_trade 3 wsX4_trade RX4 D vwCl (tyl cI cJ cZ) (wH cI cJ cZ ad) A R 6 82) {r : ((String ⊕ Int32) × SH)} (hR : Xi p l e R s m args below meth c cX4_trade D vwCl (wH cI cJ cZ ad) A Q r) (hT : ThK p l e R s m args below meth c cX4_trade 3 wsX4_trade RX4 D vwCl (tyl cI cJ cZ) (wH cI cJ cZ ad) A Q r sx) (z0 : SH) {H : Heap} {locs : List Loc} {ls : Array Slot} (h : fX4_trade_22 z0 = some r) (hP : va_P D vwCl (wH cI cJ cZ ad z0) H) (hS : va_S A s.heap H locs) (hl : lv_has ls 3 []) : W p l e R s m args below meth c H locs 0 0 Q (F0 m 22 ls []) := by
  unfold fX4_trade_22 at h
  have hx := C.1.1
  have hb := C.1.2.1
  exact hT.1 22 _ _ _ _ (Option.some.inj h).symm hP hS hl.1 (Or.inl tX4_trade_22)
set_option maxRecDepth 100000 in
set_option maxHeartbeats 4000000 in
theorem wX4_trade {p : Program} {l : Launch} {e : Env} {R : Room} {s : State} {m : MethodId} {args : Array Value} {below : List Frame} {meth : Method} {c : Code} {Q : State → Prop} {D : va_G} {cI cJ cZ : ClassId} {ad : Nat → Nat} {A : Nat → Prop} {sx : Nat → Nat} (C : Cx p s m args c cX4_trade 3 wsX4_trade RX4 D vwCl (tyl cI cJ cZ) (wH cI cJ cZ ad) A R 6 82) {r : ((String ⊕ Int32) × SH)} (hR : Xi p l e R s m args below meth c cX4_trade D vwCl (wH cI cJ cZ ad) A Q r) (hT : ThK p l e R s m args below meth c cX4_trade 3 wsX4_trade RX4 D vwCl (tyl cI cJ cZ) (wH cI cJ cZ ad) A Q r sx) (a1 : Int32) (a2 : Int32) (z0 : SH) {H : Heap} {locs : List Loc} {ls : Array Slot} (h : fX4_trade a1 a2 z0 = some r) (hP : va_P D vwCl (wH cI cJ cZ ad z0) H) (hS : va_S A s.heap H locs) (hl : lv_has ls 3 [(0, .ref (ad 0)), (1, .int a1), (2, .int a2)]) : W p l e R s m args below meth c H locs 0 0 Q (F0 m 0 ls []) := by
  unfold fX4_trade at h
  have hx := C.1.1
  have hb := C.1.2.1
  refine lv_iload_n hx hb dX4_trade_0 rfl (lv_at hl 1 rfl) ?_
  refine lv_if_lt (tgt := 22) hx hb dX4_trade_1 (by decide) (fun c1 => ?_) (fun c1 => ?_)
  · replace h := (ite_h h).1 c1
    exact wX4_trade_22 C hR hT z0 h hP hS (lv_sub hl [] rfl)
  · replace h := (ite_h h).2 c1
    refine lv_iload_n hx hb dX4_trade_4 rfl (lv_at hl 1 rfl) ?_
    refine lv_aload_n hx hb dX4_trade_5 rfl (lv_at hl 0 rfl) ?_
    refine b_getr C hP iX4_trade_X4 0 (wH_0 cI cJ cZ ad z0) rfl 3 (by decide) fX4_trade_i35 rfl rfl dX4_trade_6 ?_
    refine b_geti C hP h iX4_trade_X3 4 (wH_4 cI cJ cZ ad z0) rfl 8 (by decide) fX4_trade_i233 rfl rfl dX4_trade_9 (fun v1 h => ?_)
    refine lv_icmp_ge (tgt := 22) hx hb dX4_trade_12 (by decide) (fun c1 => ?_) (fun c1 => ?_)
    · replace h := (ite_h h).1 c1
      exact wX4_trade_22 C hR hT z0 h hP hS (lv_sub hl [] rfl)
    · replace h := (ite_h h).2 c1
      refine lv_iload_n hx hb dX4_trade_15 rfl (lv_at hl 1 rfl) ?_
      refine lv_sipush (v := 300) hx hb dX4_trade_16 (by decide) ?_
      refine lv_icmp_lt (tgt := 32) hx hb dX4_trade_19 (by decide) (fun c1 => ?_) (fun c1 => ?_)
      · replace h := (ite_h h).1 c1
        refine lv_iload_n hx hb dX4_trade_32 rfl (lv_at hl 2 rfl) ?_
        by_cases c0 : a2 = 0
        · replace h := (ite_h h).1 c0
          refine lv_tableIn (off := 31) (tgt := 64) hx hb dX4_trade_33 (by rw [c0]; decide) (by rw [c0]; decide) (by rw [c0]; rfl) (by decide) ?_
          refine lv_aload_n hx hb dX4_trade_64 rfl (lv_at hl 0 rfl) ?_
          refine b_getr C hP iX4_trade_X4 0 (wH_0 cI cJ cZ ad z0) rfl 3 (by decide) fX4_trade_i35 rfl rfl dX4_trade_65 ?_
          refine b_getr C hP iX4_trade_X3 4 (wH_4 cI cJ cZ ad z0) rfl 0 (by decide) fX4_trade_i243 rfl rfl dX4_trade_68 ?_
          refine lv_iload_n hx hb dX4_trade_71 rfl (lv_at hl 1 rfl) ?_
          refine b_iald C hP h 25 (wH_25 cI cJ cZ ad z0) 0 rfl dX4_trade_72 (fun v2 h => ?_)
          exact hR 73 _ _ _ _ _ (Option.some.inj h).symm dX4_trade_73 hP hS
        replace h := (ite_h h).2 c0
        by_cases c1 : a2 = 1
        · replace h := (ite_h h).1 c1
          refine lv_tableIn (off := 41) (tgt := 74) hx hb dX4_trade_33 (by rw [c1]; decide) (by rw [c1]; decide) (by rw [c1]; rfl) (by decide) ?_
          refine lv_aload_n hx hb dX4_trade_74 rfl (lv_at hl 0 rfl) ?_
          refine b_getr C hP iX4_trade_X4 0 (wH_0 cI cJ cZ ad z0) rfl 3 (by decide) fX4_trade_i35 rfl rfl dX4_trade_75 ?_
          refine b_getr C hP iX4_trade_X3 4 (wH_4 cI cJ cZ ad z0) rfl 1 (by decide) fX4_trade_i246 rfl rfl dX4_trade_78 ?_
          refine lv_iload_n hx hb dX4_trade_81 rfl (lv_at hl 1 rfl) ?_
          refine b_iald C hP h 26 (wH_26 cI cJ cZ ad z0) 0 rfl dX4_trade_82 (fun v3 h => ?_)
          exact hR 83 _ _ _ _ _ (Option.some.inj h).symm dX4_trade_83 hP hS
        replace h := (ite_h h).2 c1
        by_cases c2 : a2 = 2
        · replace h := (ite_h h).1 c2
          refine lv_tableIn (off := 51) (tgt := 84) hx hb dX4_trade_33 (by rw [c2]; decide) (by rw [c2]; decide) (by rw [c2]; rfl) (by decide) ?_
          refine lv_aload_n hx hb dX4_trade_84 rfl (lv_at hl 0 rfl) ?_
          refine b_getr C hP iX4_trade_X4 0 (wH_0 cI cJ cZ ad z0) rfl 3 (by decide) fX4_trade_i35 rfl rfl dX4_trade_85 ?_
          refine b_getr C hP iX4_trade_X3 4 (wH_4 cI cJ cZ ad z0) rfl 2 (by decide) fX4_trade_i249 rfl rfl dX4_trade_88 ?_
          refine lv_iload_n hx hb dX4_trade_91 rfl (lv_at hl 1 rfl) ?_
          refine b_iald C hP h 27 (wH_27 cI cJ cZ ad z0) 0 rfl dX4_trade_92 (fun v4 h => ?_)
          exact hR 93 _ _ _ _ _ (Option.some.inj h).symm dX4_trade_93 hP hS
        replace h := (ite_h h).2 c2
        by_cases c3 : a2 = 3
        · replace h := (ite_h h).1 c3
          refine lv_tableIn (off := 61) (tgt := 94) hx hb dX4_trade_33 (by rw [c3]; decide) (by rw [c3]; decide) (by rw [c3]; rfl) (by decide) ?_
          refine lv_aload_n hx hb dX4_trade_94 rfl (lv_at hl 0 rfl) ?_
          refine b_getr C hP iX4_trade_X4 0 (wH_0 cI cJ cZ ad z0) rfl 3 (by decide) fX4_trade_i35 rfl rfl dX4_trade_95 ?_
          refine b_getr C hP iX4_trade_X3 4 (wH_4 cI cJ cZ ad z0) rfl 3 (by decide) fX4_trade_i250 rfl rfl dX4_trade_98 ?_
          refine lv_iload_n hx hb dX4_trade_101 rfl (lv_at hl 1 rfl) ?_
          refine b_iald C hP h 28 (wH_28 cI cJ cZ ad z0) 0 rfl dX4_trade_102 (fun v5 h => ?_)
          exact hR 103 _ _ _ _ _ (Option.some.inj h).symm dX4_trade_103 hP hS
        replace h := (ite_h h).2 c3
        refine lv_tableOut (tgt := 104) hx hb dX4_trade_33 (tsw_out3 c0 c1 c2 c3) (by decide) ?_
        exact hT.1 104 _ _ _ _ (Option.some.inj h).symm hP hS hl.1 (Or.inl tX4_trade_104)
      · replace h := (ite_h h).2 c1
        exact wX4_trade_22 C hR hT z0 h hP hS (lv_sub hl [] rfl)
theorem mX4_trade (l : Launch) (D : va_G) (cI cJ cZ : ClassId) (ad : Nat → Nat) (a1 : Int32) (a2 : Int32) (z0 : SH) : ∀ (q : Int32 × SH) (sz : Nat), fX4_trade a1 a2 z0 = some (.inr q.1, q.2) → Met l yX4_trade wsX4_trade rmX4_trade (cP D vwCl (tyl cI cJ cZ) (wH cI cJ cZ ad z0) sz [.ref (ad 0), .int a1, .int a2]) (cQi D vwCl (wH cI cJ cZ ad) z0 sz q) 0 0 (va_A (wH cI cJ cZ ad z0) sz) := by
  intro q sz h
  refine ofW_i (cc := cX4_trade) (maxL := 3) (by decide) rfl (wH_same cI cJ cZ ad) (Nat.le_of_ble_eq_true rfl) (fun p e s m below meth c ls hsz C hR hP hl => ?_)
  exact wX4_trade (sx := fun _ => 0) C (Xi_of hR) ThK_no a1 a2 z0 h hP va_S.rf hl
theorem nX4_trade (l : Launch) (hl0 : l.stackTraces = false) (D : va_G) (cI cJ cZ : ClassId) (ad sx : Nat → Nat) (a1 : Int32) (a2 : Int32) (z0 : SH) : ∀ (E : String) (z1 : SH) (sz : Nat), fX4_trade a1 a2 z0 = some (.inl E, z1) → vx_Met l yX4_trade wsX4_trade (rmX rmX4_trade) (cPX (thX sx) D vwCl (tyl cI cJ cZ) (wH cI cJ cZ ad z0) sz [.ref (ad 0), .int a1, .int a2]) (cQno) (cXX D vwCl (wH cI cJ cZ ad) z0 sz E z1) 1 6 (va_A (wH cI cJ cZ ad z0) sz) := by
  intro E z1 sz h
  refine ofX (α := Int32) (cc := cX4_trade) (maxL := 3) (by decide) rfl (wH_same cI cJ cZ ad) (Nat.le_of_ble_eq_true rfl) hl0 ⟨Nat.le_of_ble_eq_true rfl, Nat.le_of_ble_eq_true rfl⟩ (fun p e s m below meth c ls hsz C hT hP hl => ?_)
  exact wX4_trade C Xi_no hT a1 a2 z0 h hP va_S.rf hl
abbrev rmX4_symbol : Room := { frames := 7, cells := 0, slots := 0, locals := 102 }
theorem fX4_symbol_i255 : Cond.fieldLink RX4 255 (TX3 4).1 (TX3 4).2.1 (TX3 4).2.2.1 ∈ wsX4_symbol := by decide +kernel
theorem fX4_symbol_i258 : Cond.fieldLink RX4 258 (TX3 5).1 (TX3 5).2.1 (TX3 5).2.2.1 ∈ wsX4_symbol := by decide +kernel
theorem fX4_symbol_i261 : Cond.fieldLink RX4 261 (TX3 6).1 (TX3 6).2.1 (TX3 6).2.2.1 ∈ wsX4_symbol := by decide +kernel
theorem fX4_symbol_i264 : Cond.fieldLink RX4 264 (TX3 7).1 (TX3 7).2.1 (TX3 7).2.2.1 ∈ wsX4_symbol := by decide +kernel
theorem fX4_symbol_i35 : Cond.fieldLink RX4 35 (TX4 3).1 (TX4 3).2.1 (TX4 3).2.2.1 ∈ wsX4_symbol := by decide +kernel
theorem iX4_symbol_X3 : ∀ x ∈ wsX30, x ∈ wsX4_symbol := by decide +kernel
theorem iX4_symbol_X4 : ∀ x ∈ wsX40, x ∈ wsX4_symbol := by decide +kernel
theorem tX4_symbol_76 : tSite wsX4_symbol RX4 cX4_symbol 76 "java/lang/IllegalArgumentException" := ⟨132, 267, 136, "a symbol has no such number", by decide +kernel, by decide +kernel, rfl, by decide +kernel, by decide +kernel, by decide +kernel, by decide +kernel, by decide +kernel, by decide +kernel, dX4_symbol_76, dX4_symbol_79, Or.inr ⟨dX4_symbol_80, dX4_symbol_83, dX4_symbol_86⟩⟩
set_option maxRecDepth 100000 in
set_option maxHeartbeats 4000000 in
theorem wX4_symbol {p : Program} {l : Launch} {e : Env} {R : Room} {s : State} {m : MethodId} {args : Array Value} {below : List Frame} {meth : Method} {c : Code} {Q : State → Prop} {D : va_G} {cI cJ cZ : ClassId} {ad : Nat → Nat} {A : Nat → Prop} {sx : Nat → Nat} (C : Cx p s m args c cX4_symbol 3 wsX4_symbol RX4 D vwCl (tyl cI cJ cZ) (wH cI cJ cZ ad) A R 7 102) {r : ((String ⊕ Int32) × SH)} (hR : Xi p l e R s m args below meth c cX4_symbol D vwCl (wH cI cJ cZ ad) A Q r) (hT : ThK p l e R s m args below meth c cX4_symbol 3 wsX4_symbol RX4 D vwCl (tyl cI cJ cZ) (wH cI cJ cZ ad) A Q r sx) (a1 : Int32) (a2 : Int32) (z0 : SH) {H : Heap} {locs : List Loc} {ls : Array Slot} (h : fX4_symbol a1 a2 z0 = some r) (hP : va_P D vwCl (wH cI cJ cZ ad z0) H) (hS : va_S A s.heap H locs) (hl : lv_has ls 3 [(0, .ref (ad 0)), (1, .int a1), (2, .int a2)]) : W p l e R s m args below meth c H locs 0 0 Q (F0 m 0 ls []) := by
  unfold fX4_symbol at h
  have hx := C.1.1
  have hb := C.1.2.1
  refine lv_iload_n hx hb dX4_symbol_0 rfl (lv_at hl 1 rfl) ?_
  refine b_callXSv (As := [.int a1]) (rest := []) C hT hP hS h (mX4_needSymbol l D cI cJ cZ ad a1 z0) (fun hl0 => nX4_needSymbol l hl0 D cI cJ cZ ad _ a1 z0) (va_cwS 1 C.1.2.2.2.2 gX4_symbol_X4_needSymbol rfl rfl rfl (by decide +kernel) ⟨Nat.le_trans (Nat.le_of_ble_eq_true rfl) C.2.2.2.2.1, Nat.le_trans (Nat.le_of_ble_eq_true rfl) C.2.2.2.2.2⟩) (fun _ _ => (va_cwS 1 C.1.2.2.2.2 gX4_symbol_X4_needSymbol rfl rfl rfl (by decide +kernel) ⟨Nat.le_trans (Nat.le_of_ble_eq_true rfl) C.2.2.2.2.1, Nat.le_trans (Nat.le_of_ble_eq_true rfl) C.2.2.2.2.2⟩)) rfl hl.1 rfl (Nat.le_of_ble_eq_true rfl) dX4_symbol_1 (fun _ z1 _ _ h hP hS => ?_)
  refine lv_iload_n hx hb dX4_symbol_4 rfl (lv_at hl 2 rfl) ?_
  by_cases c0 : a2 = 0
  · replace h := (ite_h h).1 c0
    refine lv_tableIn (off := 31) (tgt := 36) hx hb dX4_symbol_5 (by rw [c0]; decide) (by rw [c0]; decide) (by rw [c0]; rfl) (by decide) ?_
    refine lv_aload_n hx hb dX4_symbol_36 rfl (lv_at hl 0 rfl) ?_
    refine b_getr C hP iX4_symbol_X4 0 (wH_0 cI cJ cZ ad z1) rfl 3 (by decide) fX4_symbol_i35 rfl rfl dX4_symbol_37 ?_
    refine b_getr C hP iX4_symbol_X3 4 (wH_4 cI cJ cZ ad z1) rfl 4 (by decide) fX4_symbol_i255 rfl rfl dX4_symbol_40 ?_
    refine lv_iload_n hx hb dX4_symbol_43 rfl (lv_at hl 1 rfl) ?_
    refine b_iald C hP h 29 (wH_29 cI cJ cZ ad z1) 0 rfl dX4_symbol_44 (fun v2 h => ?_)
    exact hR 45 _ _ _ _ _ (Option.some.inj h).symm dX4_symbol_45 hP hS
  replace h := (ite_h h).2 c0
  by_cases c1 : a2 = 1
  · replace h := (ite_h h).1 c1
    refine lv_tableIn (off := 41) (tgt := 46) hx hb dX4_symbol_5 (by rw [c1]; decide) (by rw [c1]; decide) (by rw [c1]; rfl) (by decide) ?_
    refine lv_aload_n hx hb dX4_symbol_46 rfl (lv_at hl 0 rfl) ?_
    refine b_getr C hP iX4_symbol_X4 0 (wH_0 cI cJ cZ ad z1) rfl 3 (by decide) fX4_symbol_i35 rfl rfl dX4_symbol_47 ?_
    refine b_getr C hP iX4_symbol_X3 4 (wH_4 cI cJ cZ ad z1) rfl 5 (by decide) fX4_symbol_i258 rfl rfl dX4_symbol_50 ?_
    refine lv_iload_n hx hb dX4_symbol_53 rfl (lv_at hl 1 rfl) ?_
    refine b_iald C hP h 30 (wH_30 cI cJ cZ ad z1) 0 rfl dX4_symbol_54 (fun v3 h => ?_)
    exact hR 55 _ _ _ _ _ (Option.some.inj h).symm dX4_symbol_55 hP hS
  replace h := (ite_h h).2 c1
  by_cases c2 : a2 = 2
  · replace h := (ite_h h).1 c2
    refine lv_tableIn (off := 51) (tgt := 56) hx hb dX4_symbol_5 (by rw [c2]; decide) (by rw [c2]; decide) (by rw [c2]; rfl) (by decide) ?_
    refine lv_aload_n hx hb dX4_symbol_56 rfl (lv_at hl 0 rfl) ?_
    refine b_getr C hP iX4_symbol_X4 0 (wH_0 cI cJ cZ ad z1) rfl 3 (by decide) fX4_symbol_i35 rfl rfl dX4_symbol_57 ?_
    refine b_getr C hP iX4_symbol_X3 4 (wH_4 cI cJ cZ ad z1) rfl 6 (by decide) fX4_symbol_i261 rfl rfl dX4_symbol_60 ?_
    refine lv_iload_n hx hb dX4_symbol_63 rfl (lv_at hl 1 rfl) ?_
    refine b_iald C hP h 31 (wH_31 cI cJ cZ ad z1) 0 rfl dX4_symbol_64 (fun v4 h => ?_)
    exact hR 65 _ _ _ _ _ (Option.some.inj h).symm dX4_symbol_65 hP hS
  replace h := (ite_h h).2 c2
  by_cases c3 : a2 = 3
  · replace h := (ite_h h).1 c3
    refine lv_tableIn (off := 61) (tgt := 66) hx hb dX4_symbol_5 (by rw [c3]; decide) (by rw [c3]; decide) (by rw [c3]; rfl) (by decide) ?_
    refine lv_aload_n hx hb dX4_symbol_66 rfl (lv_at hl 0 rfl) ?_
    refine b_getr C hP iX4_symbol_X4 0 (wH_0 cI cJ cZ ad z1) rfl 3 (by decide) fX4_symbol_i35 rfl rfl dX4_symbol_67 ?_
    refine b_getr C hP iX4_symbol_X3 4 (wH_4 cI cJ cZ ad z1) rfl 7 (by decide) fX4_symbol_i264 rfl rfl dX4_symbol_70 ?_
    refine lv_iload_n hx hb dX4_symbol_73 rfl (lv_at hl 1 rfl) ?_
    refine b_iald C hP h 32 (wH_32 cI cJ cZ ad z1) 0 rfl dX4_symbol_74 (fun v5 h => ?_)
    exact hR 75 _ _ _ _ _ (Option.some.inj h).symm dX4_symbol_75 hP hS
  replace h := (ite_h h).2 c3
  refine lv_tableOut (tgt := 76) hx hb dX4_symbol_5 (tsw_out3 c0 c1 c2 c3) (by decide) ?_
  exact hT.1 76 _ _ _ _ (Option.some.inj h).symm hP hS hl.1 (Or.inl tX4_symbol_76)
theorem mX4_symbol (l : Launch) (D : va_G) (cI cJ cZ : ClassId) (ad : Nat → Nat) (a1 : Int32) (a2 : Int32) (z0 : SH) : ∀ (q : Int32 × SH) (sz : Nat), fX4_symbol a1 a2 z0 = some (.inr q.1, q.2) → Met l yX4_symbol wsX4_symbol rmX4_symbol (cP D vwCl (tyl cI cJ cZ) (wH cI cJ cZ ad z0) sz [.ref (ad 0), .int a1, .int a2]) (cQi D vwCl (wH cI cJ cZ ad) z0 sz q) 0 0 (va_A (wH cI cJ cZ ad z0) sz) := by
  intro q sz h
  refine ofW_i (cc := cX4_symbol) (maxL := 3) (by decide) rfl (wH_same cI cJ cZ ad) (Nat.le_of_ble_eq_true rfl) (fun p e s m below meth c ls hsz C hR hP hl => ?_)
  exact wX4_symbol (sx := fun _ => 0) C (Xi_of hR) ThK_no a1 a2 z0 h hP va_S.rf hl
theorem nX4_symbol (l : Launch) (hl0 : l.stackTraces = false) (D : va_G) (cI cJ cZ : ClassId) (ad sx : Nat → Nat) (a1 : Int32) (a2 : Int32) (z0 : SH) : ∀ (E : String) (z1 : SH) (sz : Nat), fX4_symbol a1 a2 z0 = some (.inl E, z1) → vx_Met l yX4_symbol wsX4_symbol (rmX rmX4_symbol) (cPX (thX sx) D vwCl (tyl cI cJ cZ) (wH cI cJ cZ ad z0) sz [.ref (ad 0), .int a1, .int a2]) (cQno) (cXX D vwCl (wH cI cJ cZ ad) z0 sz E z1) 1 6 (va_A (wH cI cJ cZ ad z0) sz) := by
  intro E z1 sz h
  refine ofX (α := Int32) (cc := cX4_symbol) (maxL := 3) (by decide) rfl (wH_same cI cJ cZ ad) (Nat.le_of_ble_eq_true rfl) hl0 ⟨Nat.le_of_ble_eq_true rfl, Nat.le_of_ble_eq_true rfl⟩ (fun p e s m below meth c ls hsz C hT hP hl => ?_)
  exact wX4_symbol C Xi_no hT a1 a2 z0 h hP va_S.rf hl
