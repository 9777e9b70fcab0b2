abbrev rmX1_know : Room := { frames := 0, cells := 0, slots := 0, locals := 0 }
theorem fX1_know_i31 : Cond.fieldLink RX1 31 (TX1 6).1 (TX1 6).2.1 (TX1 6).2.2.1 ∈ wsX1_know := by decide +kernel
theorem fX1_know_i35 : Cond.fieldLink RX1 35 (TX1 7).1 (TX1 7).2.1 (TX1 7).2.2.1 ∈ wsX1_know := by decide +kernel
theorem iX1_know_X1 : ∀ x ∈ wsX10, x ∈ wsX1_know := by decide +kernel
set_option maxRecDepth 100000 in
set_option maxHeartbeats 4000000 in
theorem wX1_know_26 {p : Program} {l : Launch} {e : Env} {R : Room} {s : State} {m : MethodId} {args : Array Value} {below : List Frame} {meth : Method} {c : Code} {Q : State → Prop} {D : va_G} {cI cJ cZ : ClassId} {ad : Nat → Nat} {A : Nat → Prop} (C : Cx p s m args c cX1_know 2 wsX1_know RX1 D vwCl (tyl cI cJ cZ) (wH cI cJ cZ ad) A R 0 0) {r : (Unit × SH)} (hR : Rv p l e R s m args below meth c cX1_know D vwCl (wH cI cJ cZ ad) A Q r) (z0 : SH) {H : Heap} {locs : List Loc} {ls : Array Slot} (h : fX1_know_26 z0 = some r) (hP : va_P D vwCl (wH cI cJ cZ ad z0) H) (hS : va_S A s.heap H locs) (hl : lv_has ls 2 []) : W p l e R s m args below meth c H locs 0 0 Q (F0 m 26 ls []) := by
  unfold fX1_know_26 at h
  have hx := C.1.1
  have hb := C.1.2.1
  exact hR 26 _ _ _ _ (Option.some.inj h).symm dX1_know_26 hP hS
set_option maxRecDepth 100000 in
set_option maxHeartbeats 4000000 in
theorem wX1_know {p : Program} {l : Launch} {e : Env} {R : Room} {s : State} {m : MethodId} {args : Array Value} {below : List Frame} {meth : Method} {c : Code} {Q : State → Prop} {D : va_G} {cI cJ cZ : ClassId} {ad : Nat → Nat} {A : Nat → Prop} (C : Cx p s m args c cX1_know 2 wsX1_know RX1 D vwCl (tyl cI cJ cZ) (wH cI cJ cZ ad) A R 0 0) {r : (Unit × SH)} (hR : Rv p l e R s m args below meth c cX1_know D vwCl (wH cI cJ cZ ad) A Q r) (a1 : Int32) (z0 : SH) {H : Heap} {locs : List Loc} {ls : Array Slot} (h : fX1_know a1 z0 = some r) (hP : va_P D vwCl (wH cI cJ cZ ad z0) H) (hS : va_S A s.heap H locs) (hl : lv_has ls 2 [(0, .ref (ad 1)), (1, .int a1)]) : W p l e R s m args below meth c H locs 0 0 Q (F0 m 0 ls []) := by
  unfold fX1_know at h
  have hx := C.1.1
  have hb := C.1.2.1
  refine lv_aload_n hx hb dX1_know_0 rfl (lv_at hl 0 rfl) ?_
  refine b_getr C hP iX1_know_X1 1 (wH_1 cI cJ cZ ad z0) rfl 6 (by decide) fX1_know_i31 rfl rfl dX1_know_1 ?_
  refine lv_iload_n hx hb dX1_know_4 rfl (lv_at hl 1 rfl) ?_
  refine b_zald C hP h 11 (wH_11 cI cJ cZ ad z0) 2 rfl dX1_know_5 (fun v1 h => ?_)
  refine lv_if_ne (tgt := 26) hx hb dX1_know_6 (by decide) (fun c1 => ?_) (fun c1 => ?_)
  · replace h := (ite_h h).2 c1
    exact wX1_know_26 C hR z0 h hP hS (lv_sub hl [] rfl)
  · replace h := (ite_h h).1 c1
    refine lv_aload_n hx hb dX1_know_9 rfl (lv_at hl 0 rfl) ?_
    refine b_getr C hP iX1_know_X1 1 (wH_1 cI cJ cZ ad z0) rfl 6 (by decide) fX1_know_i31 rfl rfl dX1_know_10 ?_
    refine lv_iload_n hx hb dX1_know_13 rfl (lv_at hl 1 rfl) ?_
    refine lv_iconst (v := 1) hx hb dX1_know_14 (by decide) ?_
    refine b_zast C hP hS h 11 (wH_11 cI cJ cZ ad z0) 2 rfl (wH_s11 cI cJ cZ ad z0 _ _) dX1_know_15 (fun z2 _ _ h hP hS => ?_)
    refine lv_aload_n hx hb dX1_know_16 rfl (lv_at hl 0 rfl) ?_
    refine lv_dup hx hb dX1_know_17 rfl ?_
    refine b_geti C hP h iX1_know_X1 1 (wH_1 cI cJ cZ ad z2) rfl 7 (by decide) fX1_know_i35 rfl rfl dX1_know_18 (fun v3 h => ?_)
    refine lv_iconst (v := 1) hx hb dX1_know_21 (by decide) ?_
    refine lv_iadd hx hb dX1_know_22 ?_
    refine b_puti C hP hS h iX1_know_X1 tyX1 tyX1_ok nmX1 1 (wH_1 cI cJ cZ ad z2) rfl 7 (by decide) fX1_know_i35 rfl rfl rfl (Nat.le_of_ble_eq_true rfl) (wH_si1 cI cJ cZ ad z2 _) dX1_know_23 (fun z4 _ _ h hP hS => ?_)
    exact wX1_know_26 C hR z4 h hP hS (lv_sub hl [] rfl)
theorem mX1_know (l : Launch) (D : va_G) (cI cJ cZ : ClassId) (ad : Nat → Nat) (a1 : Int32) (z0 : SH) : ∀ (q : (Unit × SH)) (sz : Nat), fX1_know a1 z0 = some q → Met l yX1_know wsX1_know rmX1_know (cP D vwCl (tyl cI cJ cZ) (wH cI cJ cZ ad z0) sz [.ref (ad 1), .int a1]) (cQv D vwCl (wH cI cJ cZ ad) z0 sz q) 0 0 (va_A (wH cI cJ cZ ad z0) sz) := by
  intro q sz h
  refine ofW_v (cc := cX1_know) (maxL := 2) (by decide) rfl (wH_same cI cJ cZ ad) (Nat.le_of_ble_eq_true rfl) (fun p e s m below meth c ls hsz C hR hP hl => ?_)
  exact wX1_know C hR a1 z0 h hP va_S.rf hl
abbrev rmX1_freeCash : Room := { frames := 0, cells := 0, slots := 0, locals := 0 }
theorem fX1_freeCash_i15 : Cond.fieldLink RX1 15 (TX1 1).1 (TX1 1).2.1 (TX1 1).2.2.1 ∈ wsX1_freeCash := by decide +kernel
theorem fX1_freeCash_i9 : Cond.fieldLink RX1 9 (TX1 0).1 (TX1 0).2.1 (TX1 0).2.2.1 ∈ wsX1_freeCash := by decide +kernel
theorem iX1_freeCash_X1 : ∀ x ∈ wsX10, x ∈ wsX1_freeCash := by decide +kernel
set_option maxRecDepth 100000 in
set_option maxHeartbeats 4000000 in
theorem wX1_freeCash {p : Program} {l : Launch} {e : Env} {R : Room} {s : State} {m : MethodId} {args : Array Value} {below : List Frame} {meth : Method} {c : Code} {Q : State → Prop} {D : va_G} {cI cJ cZ : ClassId} {ad : Nat → Nat} {A : Nat → Prop} (C : Cx p s m args c cX1_freeCash 2 wsX1_freeCash RX1 D vwCl (tyl cI cJ cZ) (wH cI cJ cZ ad) A R 0 0) {r : (Int64 × SH)} (hR : Rl p l e R s m args below meth c cX1_freeCash D vwCl (wH cI cJ cZ ad) A Q r) (a1 : Int32) (z0 : SH) {H : Heap} {locs : List Loc} {ls : Array Slot} (h : fX1_freeCash a1 z0 = some r) (hP : va_P D vwCl (wH cI cJ cZ ad z0) H) (hS : va_S A s.heap H locs) (hl : lv_has ls 2 [(0, .ref (ad 1)), (1, .int a1)]) : W p l e R s m args below meth c H locs 0 0 Q (F0 m 0 ls []) := by
  unfold fX1_freeCash at h
  have hx := C.1.1
  have hb := C.1.2.1
  refine lv_aload_n hx hb dX1_freeCash_0 rfl (lv_at hl 0 rfl) ?_
  refine b_getr C hP iX1_freeCash_X1 1 (wH_1 cI cJ cZ ad z0) rfl 0 (by decide) fX1_freeCash_i9 rfl rfl dX1_freeCash_1 ?_
  refine lv_iload_n hx hb dX1_freeCash_4 rfl (lv_at hl 1 rfl) ?_
  refine b_lald C hP h 5 (wH_5 cI cJ cZ ad z0) 1 rfl dX1_freeCash_5 (fun v1 h => ?_)
  refine lv_aload_n hx hb dX1_freeCash_6 rfl (lv_at hl 0 rfl) ?_
  refine b_getr C hP iX1_freeCash_X1 1 (wH_1 cI cJ cZ ad z0) rfl 1 (by decide) fX1_freeCash_i15 rfl rfl dX1_freeCash_7 ?_
  refine lv_iload_n hx hb dX1_freeCash_10 rfl (lv_at hl 1 rfl) ?_
  refine b_lald C hP h 6 (wH_6 cI cJ cZ ad z0) 1 rfl dX1_freeCash_11 (fun v2 h => ?_)
  refine lv_lsub hx hb dX1_freeCash_12 ?_
  exact hR 13 _ _ _ _ _ (Option.some.inj h).symm dX1_freeCash_13 hP hS
theorem mX1_freeCash (l : Launch) (D : va_G) (cI cJ cZ : ClassId) (ad : Nat → Nat) (a1 : Int32) (z0 : SH) : ∀ (q : (Int64 × SH)) (sz : Nat), fX1_freeCash a1 z0 = some q → Met l yX1_freeCash wsX1_freeCash rmX1_freeCash (cP D vwCl (tyl cI cJ cZ) (wH cI cJ cZ ad z0) sz [.ref (ad 1), .int a1]) (cQl D vwCl (wH cI cJ cZ ad) z0 sz q) 0 0 (va_A (wH cI cJ cZ ad z0) sz) := by
  intro q sz h
  refine ofW_l (cc := cX1_freeCash) (maxL := 2) (by decide) rfl (wH_same cI cJ cZ ad) (Nat.le_of_ble_eq_true rfl) (fun p e s m below meth c ls hsz C hR hP hl => ?_)
  exact wX1_freeCash C hR a1 z0 h hP va_S.rf hl
abbrev rmX1_placeOf : Room := { frames := 0, cells := 0, slots := 0, locals := 0 }
set_option maxRecDepth 100000 in
set_option maxHeartbeats 4000000 in
theorem wX1_placeOf {p : Program} {l : Launch} {e : Env} {R : Room} {s : State} {m : MethodId} {args : Array Value} {below : List Frame} {meth : Method} {c : Code} {Q : State → Prop} {D : va_G} {cI cJ cZ : ClassId} {ad : Nat → Nat} {A : Nat → Prop} (C : Cx p s m args c cX1_placeOf 2 wsX1_placeOf RX1 D vwCl (tyl cI cJ cZ) (wH cI cJ cZ ad) A R 0 0) {r : (Int32 × SH)} (hR : Ri p l e R s m args below meth c cX1_placeOf D vwCl (wH cI cJ cZ ad) A Q r) (a1 : Int32) (a2 : Int32) (z0 : SH) {H : Heap} {locs : List Loc} {ls : Array Slot} (h : fX1_placeOf a1 a2 z0 = some r) (hP : va_P D vwCl (wH cI cJ cZ ad z0) H) (hS : va_S A s.heap H locs) (hl : lv_has ls 2 [(0, .int a1), (1, .int a2)]) : W p l e R s m args below meth c H locs 0 0 Q (F0 m 0 ls []) := by
  unfold fX1_placeOf at h
  have hx := C.1.1
  have hb := C.1.2.1
  refine lv_iload_n hx hb dX1_placeOf_0 rfl (lv_at hl 0 rfl) ?_
  refine lv_iconst (v := 4) hx hb dX1_placeOf_1 (by decide) ?_
  refine lv_imul hx hb dX1_placeOf_2 ?_
  refine lv_iload_n hx hb dX1_placeOf_3 rfl (lv_at hl 1 rfl) ?_
  refine lv_iadd hx hb dX1_placeOf_4 ?_
  exact hR 5 _ _ _ _ _ (Option.some.inj h).symm dX1_placeOf_5 hP hS
theorem mX1_placeOf (l : Launch) (D : va_G) (cI cJ cZ : ClassId) (ad : Nat → Nat) (a1 : Int32) (a2 : Int32) (z0 : SH) : ∀ (q : (Int32 × SH)) (sz : Nat), fX1_placeOf a1 a2 z0 = some q → Met l yX1_placeOf wsX1_placeOf rmX1_placeOf (cP D vwCl (tyl cI cJ cZ) (wH cI cJ cZ ad z0) sz [.int a1, .int a2]) (cQi D vwCl (wH cI cJ cZ ad) z0 sz q) 0 0 (va_A (wH cI cJ cZ ad z0) sz) := by
  intro q sz h
  refine ofW_i (cc := cX1_placeOf) (maxL := 2) (by decide) rfl (wH_same cI cJ cZ ad) (Nat.le_of_ble_eq_true rfl) (fun p e s m below meth c ls hsz C hR hP hl => ?_)
  exact wX1_placeOf C hR a1 a2 z0 h hP va_S.rf hl
abbrev rmX1_canHold : Room := { frames := 1, cells := 0, slots := 0, locals := 21 }
theorem fX1_canHold_i18 : Cond.fieldLink RX1 18 (TX1 2).1 (TX1 2).2.1 (TX1 2).2.2.1 ∈ wsX1_canHold := by decide +kernel
theorem fX1_canHold_i22 : Cond.fieldLink RX1 22 (TX1 3).1 (TX1 3).2.1 (TX1 3).2.2.1 ∈ wsX1_canHold := by decide +kernel
theorem iX1_canHold_X1 : ∀ x ∈ wsX10, x ∈ wsX1_canHold := by decide +kernel
set_option maxRecDepth 100000 in
set_option maxHeartbeats 4000000 in
theorem wX1_canHold_58 {p : Program} {l : Launch} {e : Env} {R : Room} {s : State} {m : MethodId} {args : Array Value} {below : List Frame} {meth : Method} {c : Code} {Q : State → Prop} {D : va_G} {cI cJ cZ : ClassId} {ad : Nat → Nat} {A : Nat → Prop} (C : Cx p s m args c cX1_canHold 7 wsX1_canHold RX1 D vwCl (tyl cI cJ cZ) (wH cI cJ cZ ad) A R 1 21) {r : (Int32 × SH)} (hR : Rz p l e R s m args below meth c cX1_canHold D vwCl (wH cI cJ cZ ad) A Q r) (t0 : Int32) (z0 : SH) {H : Heap} {locs : List Loc} {ls : Array Slot} (h : fX1_canHold_58 t0 z0 = some r) (hP : va_P D vwCl (wH cI cJ cZ ad z0) H) (hS : va_S A s.heap H locs) (hl : lv_has ls 7 []) : W p l e R s m args below meth c H locs 0 0 Q (F0 m 58 ls [.int t0]) := by
  unfold fX1_canHold_58 at h
  have hx := C.1.1
  have hb := C.1.2.1
  exact hR 58 _ _ _ _ _ h dX1_canHold_58 hP hS
set_option maxRecDepth 100000 in
set_option maxHeartbeats 4000000 in
theorem wX1_canHold_25 {p : Program} {l : Launch} {e : Env} {R : Room} {s : State} {m : MethodId} {args : Array Value} {below : List Frame} {meth : Method} {c : Code} {Q : State → Prop} {D : va_G} {cI cJ cZ : ClassId} {ad : Nat → Nat} {A : Nat → Prop} (C : Cx p s m args c cX1_canHold 7 wsX1_canHold RX1 D vwCl (tyl cI cJ cZ) (wH cI cJ cZ ad) A R 1 21) {r : (Int32 × SH)} (hR : Rz p l e R s m args below meth c cX1_canHold D vwCl (wH cI cJ cZ ad) A Q r) (t0 : Int32) (z0 : SH) {H : Heap} {locs : List Loc} {ls : Array Slot} (h : fX1_canHold_25 t0 z0 = some r) (hP : va_P D vwCl (wH cI cJ cZ ad z0) H) (hS : va_S A s.heap H locs) (hl : lv_has ls 7 []) : W p l e R s m args below meth c H locs 0 0 Q (F0 m 25 ls [.int t0]) := by
  unfold fX1_canHold_25 at h
  have hx := C.1.1
  have hb := C.1.2.1
  exact hR 25 _ _ _ _ _ h dX1_canHold_25 hP hS
set_option maxRecDepth 100000 in
set_option maxHeartbeats 4000000 in
theorem wX1_canHold {p : Program} {l : Launch} {e : Env} {R : Room} {s : State} {m : MethodId} {args : Array Value} {below : List Frame} {meth : Method} {c : Code} {Q : State → Prop} {D : va_G} {cI cJ cZ : ClassId} {ad : Nat → Nat} {A : Nat → Prop} (C : Cx p s m args c cX1_canHold 7 wsX1_canHold RX1 D vwCl (tyl cI cJ cZ) (wH cI cJ cZ ad) A R 1 21) {r : (Int32 × SH)} (hR : Rz p l e R s m args below meth c cX1_canHold D vwCl (wH cI cJ cZ ad) A Q r) (a1 : Int32) (a2 : Int32) (a3 : Int32) (a4 : Int32) (a5 : Int32) (z0 : SH) {H : Heap} {locs : List Loc} {ls : Array Slot} (h : fX1_canHold a1 a2 a3 a4 a5 z0 = some r) (hP : va_P D vwCl (wH cI cJ cZ ad z0) H) (hS : va_S A s.heap H locs) (hl : lv_has ls 7 [(0, .ref (ad 1)), (1, .int a1), (2, .int a2), (3, .int a3), (4, .int a4), (5, .int a5)]) : W p l e R s m args below meth c H locs 0 0 Q (F0 m 0 ls []) := by
  unfold fX1_canHold at h
  have hx := C.1.1
  have hb := C.1.2.1
  refine lv_iload_n hx hb dX1_canHold_0 rfl (lv_at hl 3 rfl) ?_
  refine lv_if_ne (tgt := 26) hx hb dX1_canHold_1 (by decide) (fun c1 => ?_) (fun c1 => ?_)
  · replace h := (ite_h h).2 c1
    refine lv_iload_n hx hb dX1_canHold_26 rfl (lv_at hl 1 rfl) ?_
    refine lv_iload_n hx hb dX1_canHold_27 rfl (lv_at hl 2 rfl) ?_
    refine b_callSi (As := [.int a1, .int a2]) (rest := []) C hP hS h (mX1_placeOf l D cI cJ cZ ad a1 a2 z0) (va_cwS 2 C.1.2.2.2.2 gX1_canHold_X1_placeOf rfl rfl rfl (by decide +kernel) ⟨Nat.le_trans (Nat.le_of_ble_eq_true rfl) C.2.2.2.2.1, Nat.le_trans (Nat.le_of_ble_eq_true rfl) C.2.2.2.2.2⟩) rfl hl.1 rfl (Nat.le_of_ble_eq_true rfl) dX1_canHold_28 (fun v2 z1 _ _ h hP hS => ?_)
    refine lv_istore (lv' := [(6, .int v2), (0, .ref (ad 1)), (1, .int a1), (2, .int a2), (3, .int a3), (4, .int a4), (5, .int a5)]) hx hb dX1_canHold_31 hl (by decide) rfl (fun ls hl => ?_)
    refine lv_aload_n hx hb dX1_canHold_33 rfl (lv_at hl 1 rfl) ?_
    refine b_getr C hP iX1_canHold_X1 1 (wH_1 cI cJ cZ ad z1) rfl 2 (by decide) fX1_canHold_i18 rfl rfl dX1_canHold_34 ?_
    refine lv_iload hx hb dX1_canHold_37 (lv_at hl 0 rfl) ?_
    refine b_iald C hP h 7 (wH_7 cI cJ cZ ad z1) 0 rfl dX1_canHold_39 (fun v3 h => ?_)
    refine lv_aload_n hx hb dX1_canHold_40 rfl (lv_at hl 1 rfl) ?_
    refine b_getr C hP iX1_canHold_X1 1 (wH_1 cI cJ cZ ad z1) rfl 3 (by decide) fX1_canHold_i22 rfl rfl dX1_canHold_41 ?_
    refine lv_iload hx hb dX1_canHold_44 (lv_at hl 0 rfl) ?_
    refine b_iald C hP h 8 (wH_8 cI cJ cZ ad z1) 0 rfl dX1_canHold_46 (fun v4 h => ?_)
    refine lv_isub hx hb dX1_canHold_47 ?_
    refine lv_iload hx hb dX1_canHold_48 (lv_at hl 6 rfl) ?_
    refine lv_icmp_lt (tgt := 57) hx hb dX1_canHold_50 (by decide) (fun c1 => ?_) (fun c1 => ?_)
    · replace h := (ite_h h).1 c1
      refine lv_iconst (v := 0) hx hb dX1_canHold_57 (by decide) ?_
      exact wX1_canHold_58 C hR 0 z1 h hP hS (lv_sub hl [] rfl)
    · replace h := (ite_h h).2 c1
      refine lv_iconst (v := 1) hx hb dX1_canHold_53 (by decide) ?_
      refine lv_goto (tgt := 58) hx hb dX1_canHold_54 (by decide) ?_
      exact wX1_canHold_58 C hR 1 z1 h hP hS (lv_sub hl [] rfl)
  · replace h := (ite_h h).1 c1
    refine lv_aload_n hx hb dX1_canHold_4 rfl (lv_at hl 0 rfl) ?_
    refine lv_iload_n hx hb dX1_canHold_5 rfl (lv_at hl 1 rfl) ?_
    refine b_callVl (As := [.int a1]) (rest := []) C hP hS h (mX1_freeCash l D cI cJ cZ ad a1 z0) (cwV 1 C.1.2.2.2.2 gX1_canHold_X1_freeCash rfl rfl rfl (by decide +kernel) ⟨Nat.le_trans (Nat.le_of_ble_eq_true rfl) C.2.2.2.2.1, Nat.le_trans (Nat.le_of_ble_eq_true rfl) C.2.2.2.2.2⟩) (va_recv C.2.1 hP (ci := 1) (q0 := 1) rfl (wH_1 cI cJ cZ ad z0)) rfl hl.1 rfl (Nat.le_of_ble_eq_true rfl) dX1_canHold_6 (fun v6 z5 _ _ h hP hS => ?_)
    refine lv_iload hx hb dX1_canHold_9 (lv_at hl 4 rfl) ?_
    refine lv_i2l hx hb dX1_canHold_11 rfl ?_
    refine lv_iload hx hb dX1_canHold_12 (lv_at hl 5 rfl) ?_
    refine lv_i2l hx hb dX1_canHold_14 rfl ?_
    refine lv_lmul hx hb dX1_canHold_15 ?_
    refine W.lcmp hx hb dX1_canHold_16 ?_
    refine lv_if_lt (tgt := 24) hx hb dX1_canHold_17 (by decide) (fun c1 => ?_) (fun c1 => ?_)
    · replace h := (ite_h h).1 c1
      refine lv_iconst (v := 0) hx hb dX1_canHold_24 (by decide) ?_
      exact wX1_canHold_25 C hR 0 z5 h hP hS (lv_sub hl [] rfl)
    · replace h := (ite_h h).2 c1
      refine lv_iconst (v := 1) hx hb dX1_canHold_20 (by decide) ?_
      refine lv_goto (tgt := 25) hx hb dX1_canHold_21 (by decide) ?_
      exact wX1_canHold_25 C hR 1 z5 h hP hS (lv_sub hl [] rfl)
theorem mX1_canHold (l : Launch) (D : va_G) (cI cJ cZ : ClassId) (ad : Nat → Nat) (a1 : Int32) (a2 : Int32) (a3 : Int32) (a4 : Int32) (a5 : Int32) (z0 : SH) : ∀ (q : (Int32 × SH)) (sz : Nat), fX1_canHold a1 a2 a3 a4 a5 z0 = some q → Met l yX1_canHold wsX1_canHold rmX1_canHold (cP D vwCl (tyl cI cJ cZ) (wH cI cJ cZ ad z0) sz [.ref (ad 1), .int a1, .int a2, .int a3, .int a4, .int a5]) (cQi D vwCl (wH cI cJ cZ ad) z0 sz q) 0 0 (va_A (wH cI cJ cZ ad z0) sz) := by
  intro q sz h
  refine ofW_z (cc := cX1_canHold) (maxL := 7) (by decide) rfl (wH_same cI cJ cZ ad) (Nat.le_of_ble_eq_true rfl) (fun p e s m below meth c ls hsz C hR hP hl => ?_)
  exact wX1_canHold C hR a1 a2 a3 a4 a5 z0 h hP va_S.rf hl
abbrev rmX2_take : Room := { frames := 0, cells := 0, slots := 0, locals := 0 }
theorem fX2_take_i15 : Cond.fieldLink RX2 15 (TX2 1).1 (TX2 1).2.1 (TX2 1).2.2.1 ∈ wsX2_take := by decide +kernel
theorem fX2_take_i18 : Cond.fieldLink RX2 18 (TX2 2).1 (TX2 2).2.1 (TX2 2).2.2.1 ∈ wsX2_take := by decide +kernel
theorem fX2_take_i21 : Cond.fieldLink RX2 21 (TX2 3).1 (TX2 3).2.1 (TX2 3).2.2.1 ∈ wsX2_take := by decide +kernel
theorem fX2_take_i24 : Cond.fieldLink RX2 24 (TX2 4).1 (TX2 4).2.1 (TX2 4).2.2.1 ∈ wsX2_take := by decide +kernel
theorem fX2_take_i27 : Cond.fieldLink RX2 27 (TX2 5).1 (TX2 5).2.1 (TX2 5).2.2.1 ∈ wsX2_take := by decide +kernel
theorem fX2_take_i30 : Cond.fieldLink RX2 30 (TX2 6).1 (TX2 6).2.1 (TX2 6).2.2.1 ∈ wsX2_take := by decide +kernel
theorem fX2_take_i36 : Cond.fieldLink RX2 36 (TX2 8).1 (TX2 8).2.1 (TX2 8).2.2.1 ∈ wsX2_take := by decide +kernel
theorem fX2_take_i45 : Cond.fieldLink RX2 45 (TX2 11).1 (TX2 11).2.1 (TX2 11).2.2.1 ∈ wsX2_take := by decide +kernel
theorem fX2_take_i49 : Cond.fieldLink RX2 49 (TX2 12).1 (TX2 12).2.1 (TX2 12).2.2.1 ∈ wsX2_take := by decide +kernel
theorem fX2_take_i9 : Cond.fieldLink RX2 9 (TX2 0).1 (TX2 0).2.1 (TX2 0).2.2.1 ∈ wsX2_take := by decide +kernel
theorem iX2_take_X2 : ∀ x ∈ wsX20, x ∈ wsX2_take := by decide +kernel
set_option maxRecDepth 100000 in
set_option maxHeartbeats 4000000 in
theorem wX2_take {p : Program} {l : Launch} {e : Env} {R : Room} {s : State} {m : MethodId} {args : Array Value} {below : List Frame} {meth : Method} {c : Code} {Q : State → Prop} {D : va_G} {cI cJ cZ : ClassId} {ad : Nat → Nat} {A : Nat → Prop} (C : Cx p s m args c cX2_take 9 wsX2_take RX2 D vwCl (tyl cI cJ cZ) (wH cI cJ cZ ad) A R 0 0) {r : (Int32 × SH)} (hR : Ri p l e R s m args below meth c cX2_take D vwCl (wH cI cJ cZ ad) A Q r) (a1 : Int32) (a2 : Int32) (a3 : Int32) (a4 : Int32) (a5 : Int32) (a6 : Int32) (a7 : Int32) (z0 : SH) {H : Heap} {locs : List Loc} {ls : Array Slot} (h : fX2_take a1 a2 a3 a4 a5 a6 a7 z0 = some r) (hP : va_P D vwCl (wH cI cJ cZ ad z0) H) (hS : va_S A s.heap H locs) (hl : lv_has ls 9 [(0, .ref (ad 2)), (1, .int a1), (2, .int a2), (3, .int a3), (4, .int a4), (5, .int a5), (6, .int a6), (7, .int a7)]) : W p l e R s m args below meth c H locs 0 0 Q (F0 m 0 ls []) := by
  unfold fX2_take at h
  have hx := C.1.1
  have hb := C.1.2.1
  refine lv_aload_n hx hb dX2_take_0 rfl (lv_at hl 0 rfl) ?_
  refine b_geti C hP h iX2_take_X2 2 (wH_2 cI cJ cZ ad z0) rfl 11 (by decide) fX2_take_i45 rfl rfl dX2_take_1 (fun v1 h => ?_)
  refine lv_istore (lv' := [(8, .int v1), (0, .ref (ad 2)), (1, .int a1), (2, .int a2), (3, .int a3), (4, .int a4), (5, .int a5), (6, .int a6), (7, .int a7)]) hx hb dX2_take_4 hl (by decide) rfl (fun ls hl => ?_)
  refine lv_aload_n hx hb dX2_take_6 rfl (lv_at hl 1 rfl) ?_
  refine b_getr C hP iX2_take_X2 2 (wH_2 cI cJ cZ ad z0) rfl 0 (by decide) fX2_take_i9 rfl rfl dX2_take_7 ?_
  refine lv_iload hx hb dX2_take_10 (lv_at hl 0 rfl) ?_
  refine lv_iload_n hx hb dX2_take_12 rfl (lv_at hl 2 rfl) ?_
  refine b_iast C hP hS h 12 (wH_12 cI cJ cZ ad z0) 0 rfl (wH_s12 cI cJ cZ ad z0 _ _) dX2_take_13 (fun z2 _ _ h hP hS => ?_)
  refine lv_aload_n hx hb dX2_take_14 rfl (lv_at hl 1 rfl) ?_
  refine b_getr C hP iX2_take_X2 2 (wH_2 cI cJ cZ ad z2) rfl 1 (by decide) fX2_take_i15 rfl rfl dX2_take_15 ?_
  refine lv_iload hx hb dX2_take_18 (lv_at hl 0 rfl) ?_
  refine lv_iload_n hx hb dX2_take_20 rfl (lv_at hl 3 rfl) ?_
  refine b_iast C hP hS h 13 (wH_13 cI cJ cZ ad z2) 0 rfl (wH_s13 cI cJ cZ ad z2 _ _) dX2_take_21 (fun z3 _ _ h hP hS => ?_)
  refine lv_aload_n hx hb dX2_take_22 rfl (lv_at hl 1 rfl) ?_
  refine b_getr C hP iX2_take_X2 2 (wH_2 cI cJ cZ ad z3) rfl 2 (by decide) fX2_take_i18 rfl rfl dX2_take_23 ?_
  refine lv_iload hx hb dX2_take_26 (lv_at hl 0 rfl) ?_
  refine lv_iload_n hx hb dX2_take_28 rfl (lv_at hl 4 rfl) ?_
  refine b_iast C hP hS h 14 (wH_14 cI cJ cZ ad z3) 0 rfl (wH_s14 cI cJ cZ ad z3 _ _) dX2_take_29 (fun z4 _ _ h hP hS => ?_)
  refine lv_aload_n hx hb dX2_take_30 rfl (lv_at hl 1 rfl) ?_
  refine b_getr C hP iX2_take_X2 2 (wH_2 cI cJ cZ ad z4) rfl 3 (by decide) fX2_take_i21 rfl rfl dX2_take_31 ?_
  refine lv_iload hx hb dX2_take_34 (lv_at hl 0 rfl) ?_
  refine lv_iload hx hb dX2_take_36 (lv_at hl 5 rfl) ?_
  refine b_iast C hP hS h 15 (wH_15 cI cJ cZ ad z4) 0 rfl (wH_s15 cI cJ cZ ad z4 _ _) dX2_take_38 (fun z5 _ _ h hP hS => ?_)
  refine lv_aload_n hx hb dX2_take_39 rfl (lv_at hl 1 rfl) ?_
  refine b_getr C hP iX2_take_X2 2 (wH_2 cI cJ cZ ad z5) rfl 4 (by decide) fX2_take_i24 rfl rfl dX2_take_40 ?_
  refine lv_iload hx hb dX2_take_43 (lv_at hl 0 rfl) ?_
  refine lv_iload hx hb dX2_take_45 (lv_at hl 6 rfl) ?_
  refine b_iast C hP hS h 16 (wH_16 cI cJ cZ ad z5) 0 rfl (wH_s16 cI cJ cZ ad z5 _ _) dX2_take_47 (fun z6 _ _ h hP hS => ?_)
  refine lv_aload_n hx hb dX2_take_48 rfl (lv_at hl 1 rfl) ?_
  refine b_getr C hP iX2_take_X2 2 (wH_2 cI cJ cZ ad z6) rfl 5 (by decide) fX2_take_i27 rfl rfl dX2_take_49 ?_
  refine lv_iload hx hb dX2_take_52 (lv_at hl 0 rfl) ?_
  refine lv_iload hx hb dX2_take_54 (lv_at hl 8 rfl) ?_
  refine b_iast C hP hS h 17 (wH_17 cI cJ cZ ad z6) 0 rfl (wH_s17 cI cJ cZ ad z6 _ _) dX2_take_56 (fun z7 _ _ h hP hS => ?_)
  refine lv_aload_n hx hb dX2_take_57 rfl (lv_at hl 1 rfl) ?_
  refine b_getr C hP iX2_take_X2 2 (wH_2 cI cJ cZ ad z7) rfl 6 (by decide) fX2_take_i30 rfl rfl dX2_take_58 ?_
  refine lv_iload hx hb dX2_take_61 (lv_at hl 0 rfl) ?_
  refine lv_iload hx hb dX2_take_63 (lv_at hl 7 rfl) ?_
  refine b_iast C hP hS h 18 (wH_18 cI cJ cZ ad z7) 0 rfl (wH_s18 cI cJ cZ ad z7 _ _) dX2_take_65 (fun z8 _ _ h hP hS => ?_)
  refine lv_aload_n hx hb dX2_take_66 rfl (lv_at hl 1 rfl) ?_
  refine b_getr C hP iX2_take_X2 2 (wH_2 cI cJ cZ ad z8) rfl 8 (by decide) fX2_take_i36 rfl rfl dX2_take_67 ?_
  refine lv_iload hx hb dX2_take_70 (lv_at hl 0 rfl) ?_
  refine lv_iconst (v := 1) hx hb dX2_take_72 (by decide) ?_
  refine b_iast C hP hS h 20 (wH_20 cI cJ cZ ad z8) 0 rfl (wH_s20 cI cJ cZ ad z8 _ _) dX2_take_73 (fun z9 _ _ h hP hS => ?_)
  refine lv_aload_n hx hb dX2_take_74 rfl (lv_at hl 1 rfl) ?_
  refine lv_dup hx hb dX2_take_75 rfl ?_
  refine b_geti C hP h iX2_take_X2 2 (wH_2 cI cJ cZ ad z9) rfl 11 (by decide) fX2_take_i45 rfl rfl dX2_take_76 (fun v10 h => ?_)
  refine lv_iconst (v := 1) hx hb dX2_take_79 (by decide) ?_
  refine lv_iadd hx hb dX2_take_80 ?_
  refine b_puti C hP hS h iX2_take_X2 tyX2 tyX2_ok nmX2 2 (wH_2 cI cJ cZ ad z9) rfl 11 (by decide) fX2_take_i45 rfl rfl rfl (Nat.le_of_ble_eq_true rfl) (wH_si2 cI cJ cZ ad z9 _) dX2_take_81 (fun z11 _ _ h hP hS => ?_)
  refine lv_aload_n hx hb dX2_take_84 rfl (lv_at hl 1 rfl) ?_
  refine lv_dup hx hb dX2_take_85 rfl ?_
  refine b_geti C hP h iX2_take_X2 2 (wH_2 cI cJ cZ ad z11) rfl 12 (by decide) fX2_take_i49 rfl rfl dX2_take_86 (fun v12 h => ?_)
  refine lv_iconst (v := 1) hx hb dX2_take_89 (by decide) ?_
  refine lv_iadd hx hb dX2_take_90 ?_
  refine b_puti C hP hS h iX2_take_X2 tyX2 tyX2_ok nmX2 2 (wH_2 cI cJ cZ ad z11) rfl 12 (by decide) fX2_take_i49 rfl rfl rfl (Nat.le_of_ble_eq_true rfl) (wH_si3 cI cJ cZ ad z11 _) dX2_take_91 (fun z13 _ _ h hP hS => ?_)
  refine lv_iload hx hb dX2_take_94 (lv_at hl 0 rfl) ?_
  exact hR 96 _ _ _ _ _ (Option.some.inj h).symm dX2_take_96 hP hS
theorem mX2_take (l : Launch) (D : va_G) (cI cJ cZ : ClassId) (ad : Nat → Nat) (a1 : Int32) (a2 : Int32) (a3 : Int32) (a4 : Int32) (a5 : Int32) (a6 : Int32) (a7 : Int32) (z0 : SH) : ∀ (q : (Int32 × SH)) (sz : Nat), fX2_take a1 a2 a3 a4 a5 a6 a7 z0 = some q → Met l yX2_take wsX2_take rmX2_take (cP D vwCl (tyl cI cJ cZ) (wH cI cJ cZ ad z0) sz [.ref (ad 2), .int a1, .int a2, .int a3, .int a4, .int a5, .int a6, .int a7]) (cQi D vwCl (wH cI cJ cZ ad) z0 sz q) 0 0 (va_A (wH cI cJ cZ ad z0) sz) := by
  intro q sz h
  refine ofW_i (cc := cX2_take) (maxL := 9) (by decide) rfl (wH_same cI cJ cZ ad) (Nat.le_of_ble_eq_true rfl) (fun p e s m below meth c ls hsz C hR hP hl => ?_)
  exact wX2_take C hR a1 a2 a3 a4 a5 a6 a7 z0 h hP va_S.rf hl
abbrev rmX4_hold : Room := { frames := 1, cells := 0, slots := 0, locals := 21 }
theorem fX4_hold_i10 : Cond.fieldLink RX4 10 (TX4 0).1 (TX4 0).2.1 (TX4 0).2.2.1 ∈ wsX4_hold := by decide +kernel
theorem fX4_hold_i169 : Cond.fieldLink RX4 169 (TX2 4).1 (TX2 4).2.1 (TX2 4).2.2.1 ∈ wsX4_hold := by decide +kernel
theorem fX4_hold_i19 : Cond.fieldLink RX4 19 (TX4 1).1 (TX4 1).2.1 (TX4 1).2.2.1 ∈ wsX4_hold := by decide +kernel
theorem fX4_hold_i198 : Cond.fieldLink RX4 198 (TX2 0).1 (TX2 0).2.1 (TX2 0).2.2.1 ∈ wsX4_hold := by decide +kernel
theorem fX4_hold_i211 : Cond.fieldLink RX4 211 (TX2 1).1 (TX2 1).2.1 (TX2 1).2.2.1 ∈ wsX4_hold := by decide +kernel
theorem fX4_hold_i214 : Cond.fieldLink RX4 214 (TX2 2).1 (TX2 2).2.1 (TX2 2).2.2.1 ∈ wsX4_hold := by decide +kernel
theorem fX4_hold_i217 : Cond.fieldLink RX4 217 (TX1 1).1 (TX1 1).2.1 (TX1 1).2.2.1 ∈ wsX4_hold := by decide +kernel
theorem fX4_hold_i222 : Cond.fieldLink RX4 222 (TX1 3).1 (TX1 3).2.1 (TX1 3).2.2.1 ∈ wsX4_hold := by decide +kernel
theorem iX4_hold_X1 : ∀ x ∈ wsX10, x ∈ wsX4_hold := by decide +kernel
theorem iX4_hold_X2 : ∀ x ∈ wsX20, x ∈ wsX4_hold := by decide +kernel
theorem iX4_hold_X4 : ∀ x ∈ wsX40, x ∈ wsX4_hold := by decide +kernel
set_option maxRecDepth 100000 in
set_option maxHeartbeats 4000000 in
theorem wX4_hold_75 {p : Program} {l : Launch} {e : Env} {R : Room} {s : State} {m : MethodId} {args : Array Value} {below : List Frame} {meth : Method} {c : Code} {Q : State → Prop} {D : va_G} {cI cJ cZ : ClassId} {ad : Nat → Nat} {A : Nat → Prop} (C : Cx p s m args c cX4_hold 4 wsX4_hold RX4 D vwCl (tyl cI cJ cZ) (wH cI cJ cZ ad) A R 1 21) {r : (Unit × SH)} (hR : Rv p l e R s m args below meth c cX4_hold D vwCl (wH cI cJ cZ ad) A Q r) (z0 : SH) {H : Heap} {locs : List Loc} {ls : Array Slot} (h : fX4_hold_75 z0 = some r) (hP : va_P D vwCl (wH cI cJ cZ ad z0) H) (hS : va_S A s.heap H locs) (hl : lv_has ls 4 []) : W p l e R s m args below meth c H locs 0 0 Q (F0 m 75 ls []) := by
  unfold fX4_hold_75 at h
  have hx := C.1.1
  have hb := C.1.2.1
  exact hR 75 _ _ _ _ (Option.some.inj h).symm dX4_hold_75 hP hS
set_option maxRecDepth 100000 in
set_option maxHeartbeats 4000000 in
theorem wX4_hold {p : Program} {l : Launch} {e : Env} {R : Room} {s : State} {m : MethodId} {args : Array Value} {below : List Frame} {meth : Method} {c : Code} {Q : State → Prop} {D : va_G} {cI cJ cZ : ClassId} {ad : Nat → Nat} {A : Nat → Prop} (C : Cx p s m args c cX4_hold 4 wsX4_hold RX4 D vwCl (tyl cI cJ cZ) (wH cI cJ cZ ad) A R 1 21) {r : (Unit × SH)} (hR : Rv p l e R s m args below meth c cX4_hold D vwCl (wH cI cJ cZ ad) A Q r) (a1 : Int32) (a2 : Int32) (z0 : SH) {H : Heap} {locs : List Loc} {ls : Array Slot} (h : fX4_hold a1 a2 z0 = some r) (hP : va_P D vwCl (wH cI cJ cZ ad z0) H) (hS : va_S A s.heap H locs) (hl : lv_has ls 4 [(0, .ref (ad 0)), (1, .int a1), (2, .int a2)]) : W p l e R s m args below meth c H locs 0 0 Q (F0 m 0 ls []) := by
  unfold fX4_hold at h
  have hx := C.1.1
  have hb := C.1.2.1
  refine lv_aload_n hx hb dX4_hold_0 rfl (lv_at hl 0 rfl) ?_
  refine b_getr C hP iX4_hold_X4 0 (wH_0 cI cJ cZ ad z0) rfl 1 (by decide) fX4_hold_i19 rfl rfl dX4_hold_1 ?_
  refine b_getr C hP iX4_hold_X2 2 (wH_2 cI cJ cZ ad z0) rfl 0 (by decide) fX4_hold_i198 rfl rfl dX4_hold_4 ?_
  refine lv_iload_n hx hb dX4_hold_7 rfl (lv_at hl 1 rfl) ?_
  refine b_iald C hP h 12 (wH_12 cI cJ cZ ad z0) 0 rfl dX4_hold_8 (fun v1 h => ?_)
  refine lv_istore_n (lv' := [(3, .int v1), (0, .ref (ad 0)), (1, .int a1), (2, .int a2)]) hx hb dX4_hold_9 rfl hl (by decide) rfl (fun ls hl => ?_)
  refine lv_aload_n hx hb dX4_hold_10 rfl (lv_at hl 1 rfl) ?_
  refine b_getr C hP iX4_hold_X4 0 (wH_0 cI cJ cZ ad z0) rfl 1 (by decide) fX4_hold_i19 rfl rfl dX4_hold_11 ?_
  refine b_getr C hP iX4_hold_X2 2 (wH_2 cI cJ cZ ad z0) rfl 2 (by decide) fX4_hold_i214 rfl rfl dX4_hold_14 ?_
  refine lv_iload_n hx hb dX4_hold_17 rfl (lv_at hl 2 rfl) ?_
  refine b_iald C hP h 14 (wH_14 cI cJ cZ ad z0) 0 rfl dX4_hold_18 (fun v2 h => ?_)
  refine lv_if_ne (tgt := 50) hx hb dX4_hold_19 (by decide) (fun c1 => ?_) (fun c1 => ?_)
  · replace h := (ite_h h).2 c1
    refine lv_aload_n hx hb dX4_hold_50 rfl (lv_at hl 1 rfl) ?_
    refine b_getr C hP iX4_hold_X4 0 (wH_0 cI cJ cZ ad z0) rfl 0 (by decide) fX4_hold_i10 rfl rfl dX4_hold_51 ?_
    refine b_getr C hP iX4_hold_X1 1 (wH_1 cI cJ cZ ad z0) rfl 3 (by decide) fX4_hold_i222 rfl rfl dX4_hold_54 ?_
    refine lv_iload_n hx hb dX4_hold_57 rfl (lv_at hl 0 rfl) ?_
    refine lv_aload_n hx hb dX4_hold_58 rfl (lv_at hl 1 rfl) ?_
    refine b_getr C hP iX4_hold_X4 0 (wH_0 cI cJ cZ ad z0) rfl 1 (by decide) fX4_hold_i19 rfl rfl dX4_hold_59 ?_
    refine b_getr C hP iX4_hold_X2 2 (wH_2 cI cJ cZ ad z0) rfl 1 (by decide) fX4_hold_i211 rfl rfl dX4_hold_62 ?_
    refine lv_iload_n hx hb dX4_hold_65 rfl (lv_at hl 2 rfl) ?_
    refine b_iald C hP h 13 (wH_13 cI cJ cZ ad z0) 0 rfl dX4_hold_66 (fun v3 h => ?_)
    refine b_callSi (As := [.int v1, .int v3]) (rest := [.ref (ad 8)]) C hP hS h (mX1_placeOf l D cI cJ cZ ad v1 v3 z0) (va_cwS 2 C.1.2.2.2.2 gX4_hold_X1_placeOf rfl rfl rfl (by decide +kernel) ⟨Nat.le_trans (Nat.le_of_ble_eq_true rfl) C.2.2.2.2.1, Nat.le_trans (Nat.le_of_ble_eq_true rfl) C.2.2.2.2.2⟩) rfl hl.1 rfl (Nat.le_of_ble_eq_true rfl) dX4_hold_67 (fun v5 z4 _ _ h hP hS => ?_)
    refine lv_dup2_11 hx hb dX4_hold_70 rfl rfl ?_
    refine b_iald C hP h 8 (wH_8 cI cJ cZ ad z4) 0 rfl dX4_hold_71 (fun v6 h => ?_)
    refine lv_iload_n hx hb dX4_hold_72 rfl (lv_at hl 3 rfl) ?_
    refine lv_iadd hx hb dX4_hold_73 ?_
    refine b_iast C hP hS h 8 (wH_8 cI cJ cZ ad z4) 0 rfl (wH_s8 cI cJ cZ ad z4 _ _) dX4_hold_74 (fun z7 _ _ h hP hS => ?_)
    exact wX4_hold_75 C hR z7 h hP hS (lv_sub hl [] rfl)
  · replace h := (ite_h h).1 c1
    refine lv_aload_n hx hb dX4_hold_22 rfl (lv_at hl 1 rfl) ?_
    refine b_getr C hP iX4_hold_X4 0 (wH_0 cI cJ cZ ad z0) rfl 0 (by decide) fX4_hold_i10 rfl rfl dX4_hold_23 ?_
    refine b_getr C hP iX4_hold_X1 1 (wH_1 cI cJ cZ ad z0) rfl 1 (by decide) fX4_hold_i217 rfl rfl dX4_hold_26 ?_
    refine lv_iload_n hx hb dX4_hold_29 rfl (lv_at hl 0 rfl) ?_
    refine lv_dup2_11 hx hb dX4_hold_30 rfl rfl ?_
    refine b_lald C hP h 6 (wH_6 cI cJ cZ ad z0) 1 rfl dX4_hold_31 (fun v8 h => ?_)
    refine lv_aload_n hx hb dX4_hold_32 rfl (lv_at hl 1 rfl) ?_
    refine b_getr C hP iX4_hold_X4 0 (wH_0 cI cJ cZ ad z0) rfl 1 (by decide) fX4_hold_i19 rfl rfl dX4_hold_33 ?_
    refine b_getr C hP iX4_hold_X2 2 (wH_2 cI cJ cZ ad z0) rfl 4 (by decide) fX4_hold_i169 rfl rfl dX4_hold_36 ?_
    refine lv_iload_n hx hb dX4_hold_39 rfl (lv_at hl 2 rfl) ?_
    refine b_iald C hP h 16 (wH_16 cI cJ cZ ad z0) 0 rfl dX4_hold_40 (fun v9 h => ?_)
    refine lv_i2l hx hb dX4_hold_41 rfl ?_
    refine lv_iload_n hx hb dX4_hold_42 rfl (lv_at hl 3 rfl) ?_
    refine lv_i2l hx hb dX4_hold_43 rfl ?_
    refine lv_lmul hx hb dX4_hold_44 ?_
    refine lv_ladd hx hb dX4_hold_45 ?_
    refine b_last C hP hS h 6 (wH_6 cI cJ cZ ad z0) 1 rfl (wH_s6 cI cJ cZ ad z0 _ _) dX4_hold_46 (fun z10 _ _ h hP hS => ?_)
    refine lv_goto (tgt := 75) hx hb dX4_hold_47 (by decide) ?_
    exact wX4_hold_75 C hR z10 h hP hS (lv_sub hl [] rfl)
theorem mX4_hold (l : Launch) (D : va_G) (cI cJ cZ : ClassId) (ad : Nat → Nat) (a1 : Int32) (a2 : Int32) (z0 : SH) : ∀ (q : (Unit × SH)) (sz : Nat), fX4_hold a1 a2 z0 = some q → Met l yX4_hold wsX4_hold rmX4_hold (cP D vwCl (tyl cI cJ cZ) (wH cI cJ cZ ad z0) sz [.ref (ad 0), .int a1, .int a2]) (cQv D vwCl (wH cI cJ cZ ad) z0 sz q) 0 0 (va_A (wH cI cJ cZ ad z0) sz) := by
  intro q sz h
  refine ofW_v (cc := cX4_hold) (maxL := 4) (by decide) rfl (wH_same cI cJ cZ ad) (Nat.le_of_ble_eq_true rfl) (fun p e s m below meth c ls hsz C hR hP hl => ?_)
  exact wX4_hold C hR a1 a2 z0 h hP va_S.rf hl
abbrev rmX4_close : Room := { frames := 2, cells := 0, slots := 0, locals := 44 }
theorem fX4_close_i126 : Cond.fieldLink RX4 126 (TX2 6).1 (TX2 6).2.1 (TX2 6).2.2.1 ∈ wsX4_close := by decide +kernel
theorem fX4_close_i139 : Cond.fieldLink RX4 139 (TX2 7).1 (TX2 7).2.1 (TX2 7).2.2.1 ∈ wsX4_close := by decide +kernel
theorem fX4_close_i19 : Cond.fieldLink RX4 19 (TX4 1).1 (TX4 1).2.1 (TX4 1).2.2.1 ∈ wsX4_close := by decide +kernel
theorem fX4_close_i201 : Cond.fieldLink RX4 201 (TX2 8).1 (TX2 8).2.1 (TX2 8).2.2.1 ∈ wsX4_close := by decide +kernel
theorem fX4_close_i97 : Cond.fieldLink RX4 97 (TX2 12).1 (TX2 12).2.1 (TX2 12).2.2.1 ∈ wsX4_close := by decide +kernel
theorem iX4_close_X2 : ∀ x ∈ wsX20, x ∈ wsX4_close := by decide +kernel
theorem iX4_close_X4 : ∀ x ∈ wsX40, x ∈ wsX4_close := by decide +kernel
set_option maxRecDepth 100000 in
set_option maxHeartbeats 4000000 in
theorem wX4_close {p : Program} {l : Launch} {e : Env} {R : Room} {s : State} {m : MethodId} {args : Array Value} {below : List Frame} {meth : Method} {c : Code} {Q : State → Prop} {D : va_G} {cI cJ cZ : ClassId} {ad : Nat → Nat} {A : Nat → Prop} (C : Cx p s m args c cX4_close 3 wsX4_close RX4 D vwCl (tyl cI cJ cZ) (wH cI cJ cZ ad) A R 2 44) {r : (Unit × SH)} (hR : Rv p l e R s m args below meth c cX4_close D vwCl (wH cI cJ cZ ad) A Q r) (a1 : Int32) (a2 : Int32) (z0 : SH) {H : Heap} {locs : List Loc} {ls : Array Slot} (h : fX4_close a1 a2 z0 = some r) (hP : va_P D vwCl (wH cI cJ cZ ad z0) H) (hS : va_S A s.heap H locs) (hl : lv_has ls 3 [(0, .ref (ad 0)), (1, .int a1), (2, .int a2)]) : W p l e R s m args below meth c H locs 0 0 Q (F0 m 0 ls []) := by
  unfold fX4_close at h
  have hx := C.1.1
  have hb := C.1.2.1
  refine lv_aload_n hx hb dX4_close_0 rfl (lv_at hl 0 rfl) ?_
  refine lv_iload_n hx hb dX4_close_1 rfl (lv_at hl 1 rfl) ?_
  refine lv_aload_n hx hb dX4_close_2 rfl (lv_at hl 0 rfl) ?_
  refine b_getr C hP iX4_close_X4 0 (wH_0 cI cJ cZ ad z0) rfl 1 (by decide) fX4_close_i19 rfl rfl dX4_close_3 ?_
  refine b_getr C hP iX4_close_X2 2 (wH_2 cI cJ cZ ad z0) rfl 6 (by decide) fX4_close_i126 rfl rfl dX4_close_6 ?_
  refine lv_iload_n hx hb dX4_close_9 rfl (lv_at hl 1 rfl) ?_
  refine b_iald C hP h 18 (wH_18 cI cJ cZ ad z0) 0 rfl dX4_close_10 (fun v1 h => ?_)
  refine lv_ineg hx hb dX4_close_11 ?_
  refine b_callVv (As := [.int a1, .int (-v1)]) (rest := []) C hP hS h (mX4_hold l D cI cJ cZ ad a1 (-v1) z0) (cwV 2 C.1.2.2.2.2 gX4_close_X4_hold rfl rfl rfl (by decide +kernel) ⟨Nat.le_trans (Nat.le_of_ble_eq_true rfl) C.2.2.2.2.1, Nat.le_trans (Nat.le_of_ble_eq_true rfl) C.2.2.2.2.2⟩) (va_recv C.2.1 hP (ci := 4) (q0 := 0) rfl (wH_0 cI cJ cZ ad z0)) rfl hl.1 rfl (Nat.le_of_ble_eq_true rfl) dX4_close_12 (fun _ z2 _ _ h hP hS => ?_)
  refine lv_aload_n hx hb dX4_close_15 rfl (lv_at hl 0 rfl) ?_
  refine b_getr C hP iX4_close_X4 0 (wH_0 cI cJ cZ ad z2) rfl 1 (by decide) fX4_close_i19 rfl rfl dX4_close_16 ?_
  refine b_getr C hP iX4_close_X2 2 (wH_2 cI cJ cZ ad z2) rfl 6 (by decide) fX4_close_i126 rfl rfl dX4_close_19 ?_
  refine lv_iload_n hx hb dX4_close_22 rfl (lv_at hl 1 rfl) ?_
  refine lv_iconst (v := 0) hx hb dX4_close_23 (by decide) ?_
  refine b_iast C hP hS h 18 (wH_18 cI cJ cZ ad z2) 0 rfl (wH_s18 cI cJ cZ ad z2 _ _) dX4_close_24 (fun z3 _ _ h hP hS => ?_)
  refine lv_aload_n hx hb dX4_close_25 rfl (lv_at hl 0 rfl) ?_
  refine b_getr C hP iX4_close_X4 0 (wH_0 cI cJ cZ ad z3) rfl 1 (by decide) fX4_close_i19 rfl rfl dX4_close_26 ?_
  refine b_getr C hP iX4_close_X2 2 (wH_2 cI cJ cZ ad z3) rfl 7 (by decide) fX4_close_i139 rfl rfl dX4_close_29 ?_
  refine lv_iload_n hx hb dX4_close_32 rfl (lv_at hl 1 rfl) ?_
  refine lv_iconst (v := 0) hx hb dX4_close_33 (by decide) ?_
  refine b_iast C hP hS h 19 (wH_19 cI cJ cZ ad z3) 0 rfl (wH_s19 cI cJ cZ ad z3 _ _) dX4_close_34 (fun z4 _ _ h hP hS => ?_)
  refine lv_aload_n hx hb dX4_close_35 rfl (lv_at hl 0 rfl) ?_
  refine b_getr C hP iX4_close_X4 0 (wH_0 cI cJ cZ ad z4) rfl 1 (by decide) fX4_close_i19 rfl rfl dX4_close_36 ?_
  refine b_getr C hP iX4_close_X2 2 (wH_2 cI cJ cZ ad z4) rfl 8 (by decide) fX4_close_i201 rfl rfl dX4_close_39 ?_
  refine lv_iload_n hx hb dX4_close_42 rfl (lv_at hl 1 rfl) ?_
  refine lv_iload_n hx hb dX4_close_43 rfl (lv_at hl 2 rfl) ?_
  refine b_iast C hP hS h 20 (wH_20 cI cJ cZ ad z4) 0 rfl (wH_s20 cI cJ cZ ad z4 _ _) dX4_close_44 (fun z5 _ _ h hP hS => ?_)
  refine lv_aload_n hx hb dX4_close_45 rfl (lv_at hl 0 rfl) ?_
  refine b_getr C hP iX4_close_X4 0 (wH_0 cI cJ cZ ad z5) rfl 1 (by decide) fX4_close_i19 rfl rfl dX4_close_46 ?_
  refine lv_dup hx hb dX4_close_49 rfl ?_
  refine b_geti C hP h iX4_close_X2 2 (wH_2 cI cJ cZ ad z5) rfl 12 (by decide) fX4_close_i97 rfl rfl dX4_close_50 (fun v6 h => ?_)
  refine lv_iconst (v := 1) hx hb dX4_close_53 (by decide) ?_
  refine lv_isub hx hb dX4_close_54 ?_
  refine b_puti C hP hS h iX4_close_X2 tyX2 tyX2_ok nmX2 2 (wH_2 cI cJ cZ ad z5) rfl 12 (by decide) fX4_close_i97 rfl rfl rfl (Nat.le_of_ble_eq_true rfl) (wH_si3 cI cJ cZ ad z5 _) dX4_close_55 (fun z7 _ _ h hP hS => ?_)
  exact hR 58 _ _ _ _ (Option.some.inj h).symm dX4_close_58 hP hS
theorem mX4_close (l : Launch) (D : va_G) (cI cJ cZ : ClassId) (ad : Nat → Nat) (a1 : Int32) (a2 : Int32) (z0 : SH) : ∀ (q : (Unit × SH)) (sz : Nat), fX4_close a1 a2 z0 = some q → Met l yX4_close wsX4_close rmX4_close (cP D vwCl (tyl cI cJ cZ) (wH cI cJ cZ ad z0) sz [.ref (ad 0), .int a1, .int a2]) (cQv D vwCl (wH cI cJ cZ ad) z0 sz q) 0 0 (va_A (wH cI cJ cZ ad z0) sz) := by
  intro q sz h
  refine ofW_v (cc := cX4_close) (maxL := 3) (by decide) rfl (wH_same cI cJ cZ ad) (Nat.le_of_ble_eq_true rfl) (fun p e s m below meth c ls hsz C hR hP hl => ?_)
  exact wX4_close C hR a1 a2 z0 h hP va_S.rf hl
abbrev rmX0_bookOf : Room := { frames := 0, cells := 0, slots := 0, locals := 0 }
set_option maxRecDepth 100000 in
set_option maxHeartbeats 4000000 in
theorem wX0_bookOf {p : Program} {l : Launch} {e : Env} {R : Room} {s : State} {m : MethodId} {args : Array Value} {below : List Frame} {meth : Method} {c : Code} {Q : State → Prop} {D : va_G} {cI cJ cZ : ClassId} {ad : Nat → Nat} {A : Nat → Prop} (C : Cx p s m args c cX0_bookOf 2 wsX0_bookOf RX0 D vwCl (tyl cI cJ cZ) (wH cI cJ cZ ad) A R 0 0) {r : (Int32 × SH)} (hR : Ri p l e R s m args below meth c cX0_bookOf D vwCl (wH cI cJ cZ ad) A Q r) (a1 : Int32) (a2 : Int32) (z0 : SH) {H : Heap} {locs : List Loc} {ls : Array Slot} (h : fX0_bookOf a1 a2 z0 = some r) (hP : va_P D vwCl (wH cI cJ cZ ad z0) H) (hS : va_S A s.heap H locs) (hl : lv_has ls 2 [(0, .int a1), (1, .int a2)]) : W p l e R s m args below meth c H locs 0 0 Q (F0 m 0 ls []) := by
  unfold fX0_bookOf at h
  have hx := C.1.1
  have hb := C.1.2.1
  refine lv_iload_n hx hb dX0_bookOf_0 rfl (lv_at hl 0 rfl) ?_
  refine lv_iconst (v := 2) hx hb dX0_bookOf_1 (by decide) ?_
  refine lv_imul hx hb dX0_bookOf_2 ?_
  refine lv_iload_n hx hb dX0_bookOf_3 rfl (lv_at hl 1 rfl) ?_
  refine lv_iadd hx hb dX0_bookOf_4 ?_
  exact hR 5 _ _ _ _ _ (Option.some.inj h).symm dX0_bookOf_5 hP hS
theorem mX0_bookOf (l : Launch) (D : va_G) (cI cJ cZ : ClassId) (ad : Nat → Nat) (a1 : Int32) (a2 : Int32) (z0 : SH) : ∀ (q : (Int32 × SH)) (sz : Nat), fX0_bookOf a1 a2 z0 = some q → Met l yX0_bookOf wsX0_bookOf rmX0_bookOf (cP D vwCl (tyl cI cJ cZ) (wH cI cJ cZ ad z0) sz [.int a1, .int a2]) (cQi D vwCl (wH cI cJ cZ ad) z0 sz q) 0 0 (va_A (wH cI cJ cZ ad z0) sz) := by
  intro q sz h
  refine ofW_i (cc := cX0_bookOf) (maxL := 2) (by decide) rfl (wH_same cI cJ cZ ad) (Nat.le_of_ble_eq_true rfl) (fun p e s m below meth c ls hsz C hR hP hl => ?_)
  exact wX0_bookOf C hR a1 a2 z0 h hP va_S.rf hl
abbrev rmX0_facing : Room := { frames := 1, cells := 0, slots := 0, locals := 21 }
theorem fX0_facing_i18 : Cond.fieldLink RX0 18 (TX0 0).1 (TX0 0).2.1 (TX0 0).2.2.1 ∈ wsX0_facing := by decide +kernel
theorem fX0_facing_i22 : Cond.fieldLink RX0 22 (TX2 1).1 (TX2 1).2.1 (TX2 1).2.2.1 ∈ wsX0_facing := by decide +kernel
theorem fX0_facing_i27 : Cond.fieldLink RX0 27 (TX2 2).1 (TX2 2).2.1 (TX2 2).2.2.1 ∈ wsX0_facing := by decide +kernel
theorem iX0_facing_X0 : ∀ x ∈ wsX00, x ∈ wsX0_facing := by decide +kernel
theorem iX0_facing_X2 : ∀ x ∈ wsX20, x ∈ wsX0_facing := by decide +kernel
set_option maxRecDepth 100000 in
set_option maxHeartbeats 4000000 in
theorem wX0_facing {p : Program} {l : Launch} {e : Env} {R : Room} {s : State} {m : MethodId} {args : Array Value} {below : List Frame} {meth : Method} {c : Code} {Q : State → Prop} {D : va_G} {cI cJ cZ : ClassId} {ad : Nat → Nat} {A : Nat → Prop} (C : Cx p s m args c cX0_facing 2 wsX0_facing RX0 D vwCl (tyl cI cJ cZ) (wH cI cJ cZ ad) A R 1 21) {r : (Int32 × SH)} (hR : Ri p l e R s m args below meth c cX0_facing D vwCl (wH cI cJ cZ ad) A Q r) (a1 : Int32) (z0 : SH) {H : Heap} {locs : List Loc} {ls : Array Slot} (h : fX0_facing a1 z0 = some r) (hP : va_P D vwCl (wH cI cJ cZ ad z0) H) (hS : va_S A s.heap H locs) (hl : lv_has ls 2 [(0, .ref (ad 3)), (1, .int a1)]) : W p l e R s m args below meth c H locs 0 0 Q (F0 m 0 ls []) := by
  unfold fX0_facing at h
  have hx := C.1.1
  have hb := C.1.2.1
  refine lv_aload_n hx hb dX0_facing_0 rfl (lv_at hl 0 rfl) ?_
  refine b_getr C hP iX0_facing_X0 3 (wH_3 cI cJ cZ ad z0) rfl 0 (by decide) fX0_facing_i18 rfl rfl dX0_facing_1 ?_
  refine b_getr C hP iX0_facing_X2 2 (wH_2 cI cJ cZ ad z0) rfl 1 (by decide) fX0_facing_i22 rfl rfl dX0_facing_4 ?_
  refine lv_iload_n hx hb dX0_facing_7 rfl (lv_at hl 1 rfl) ?_
  refine b_iald C hP h 13 (wH_13 cI cJ cZ ad z0) 0 rfl dX0_facing_8 (fun v1 h => ?_)
  refine lv_iconst (v := 1) hx hb dX0_facing_9 (by decide) ?_
  refine lv_aload_n hx hb dX0_facing_10 rfl (lv_at hl 0 rfl) ?_
  refine b_getr C hP iX0_facing_X0 3 (wH_3 cI cJ cZ ad z0) rfl 0 (by decide) fX0_facing_i18 rfl rfl dX0_facing_11 ?_
  refine b_getr C hP iX0_facing_X2 2 (wH_2 cI cJ cZ ad z0) rfl 2 (by decide) fX0_facing_i27 rfl rfl dX0_facing_14 ?_
  refine lv_iload_n hx hb dX0_facing_17 rfl (lv_at hl 1 rfl) ?_
  refine b_iald C hP h 14 (wH_14 cI cJ cZ ad z0) 0 rfl dX0_facing_18 (fun v2 h => ?_)
  refine lv_isub hx hb dX0_facing_19 ?_
  refine b_callSi (As := [.int v1, .int (1 - v2)]) (rest := []) C hP hS h (mX0_bookOf l D cI cJ cZ ad v1 (1 - v2) z0) (va_cwS 2 C.1.2.2.2.2 gX0_facing_X0_bookOf rfl rfl rfl (by decide +kernel) ⟨Nat.le_trans (Nat.le_of_ble_eq_true rfl) C.2.2.2.2.1, Nat.le_trans (Nat.le_of_ble_eq_true rfl) C.2.2.2.2.2⟩) rfl hl.1 rfl (Nat.le_of_ble_eq_true rfl) dX0_facing_20 (fun v4 z3 _ _ h hP hS => ?_)
  exact hR 23 _ _ _ _ _ (Option.some.inj h).symm dX0_facing_23 hP hS
theorem mX0_facing (l : Launch) (D : va_G) (cI cJ cZ : ClassId) (ad : Nat → Nat) (a1 : Int32) (z0 : SH) : ∀ (q : (Int32 × SH)) (sz : Nat), fX0_facing a1 z0 = some q → Met l yX0_facing wsX0_facing rmX0_facing (cP D vwCl (tyl cI cJ cZ) (wH cI cJ cZ ad z0) sz [.ref (ad 3), .int a1]) (cQi D vwCl (wH cI cJ cZ ad) z0 sz q) 0 0 (va_A (wH cI cJ cZ ad z0) sz) := by
  intro q sz h
  refine ofW_i (cc := cX0_facing) (maxL := 2) (by decide) rfl (wH_same cI cJ cZ ad) (Nat.le_of_ble_eq_true rfl) (fun p e s m below meth c ls hsz C hR hP hl => ?_)
  exact wX0_facing C hR a1 z0 h hP va_S.rf hl
abbrev rmX0_orderAt : Room := { frames := 0, cells := 0, slots := 0, locals := 0 }
theorem fX0_orderAt_i15 : Cond.fieldLink RX0 15 (TX0 2).1 (TX0 2).2.1 (TX0 2).2.2.1 ∈ wsX0_orderAt := by decide +kernel
theorem fX0_orderAt_i9 : Cond.fieldLink RX0 9 (TX0 1).1 (TX0 1).2.1 (TX0 1).2.2.1 ∈ wsX0_orderAt := by decide +kernel
theorem iX0_orderAt_X0 : ∀ x ∈ wsX00, x ∈ wsX0_orderAt := by decide +kernel
set_option maxRecDepth 100000 in
set_option maxHeartbeats 4000000 in
theorem wX0_orderAt_14 {p : Program} {l : Launch} {e : Env} {R : Room} {s : State} {m : MethodId} {args : Array Value} {below : List Frame} {meth : Method} {c : Code} {Q : State → Prop} {D : va_G} {cI cJ cZ : ClassId} {ad : Nat → Nat} {A : Nat → Prop} (C : Cx p s m args c cX0_orderAt 3 wsX0_orderAt RX0 D vwCl (tyl cI cJ cZ) (wH cI cJ cZ ad) A R 0 0) {r : (Int32 × SH)} (hR : Ri p l e R s m args below meth c cX0_orderAt D vwCl (wH cI cJ cZ ad) A Q r) (z0 : SH) {H : Heap} {locs : List Loc} {ls : Array Slot} (h : fX0_orderAt_14 z0 = some r) (hP : va_P D vwCl (wH cI cJ cZ ad z0) H) (hS : va_S A s.heap H locs) (hl : lv_has ls 3 []) : W p l e R s m args below meth c H locs 0 0 Q (F0 m 14 ls []) := by
  unfold fX0_orderAt_14 at h
  have hx := C.1.1
  have hb := C.1.2.1
  refine lv_iconst (v := -1) hx hb dX0_orderAt_14 (by decide) ?_
  exact hR 15 _ _ _ _ _ (Option.some.inj h).symm dX0_orderAt_15 hP hS
set_option maxRecDepth 100000 in
set_option maxHeartbeats 4000000 in
theorem wX0_orderAt {p : Program} {l : Launch} {e : Env} {R : Room} {s : State} {m : MethodId} {args : Array Value} {below : List Frame} {meth : Method} {c : Code} {Q : State → Prop} {D : va_G} {cI cJ cZ : ClassId} {ad : Nat → Nat} {A : Nat → Prop} (C : Cx p s m args c cX0_orderAt 3 wsX0_orderAt RX0 D vwCl (tyl cI cJ cZ) (wH cI cJ cZ ad) A R 0 0) {r : (Int32 × SH)} (hR : Ri p l e R s m args below meth c cX0_orderAt D vwCl (wH cI cJ cZ ad) A Q r) (a1 : Int32) (a2 : Int32) (z0 : SH) {H : Heap} {locs : List Loc} {ls : Array Slot} (h : fX0_orderAt a1 a2 z0 = some r) (hP : va_P D vwCl (wH cI cJ cZ ad z0) H) (hS : va_S A s.heap H locs) (hl : lv_has ls 3 [(0, .ref (ad 3)), (1, .int a1), (2, .int a2)]) : W p l e R s m args below meth c H locs 0 0 Q (F0 m 0 ls []) := by
  unfold fX0_orderAt at h
  have hx := C.1.1
  have hb := C.1.2.1
  refine lv_iload_n hx hb dX0_orderAt_0 rfl (lv_at hl 2 rfl) ?_
  refine lv_if_lt (tgt := 14) hx hb dX0_orderAt_1 (by decide) (fun c1 => ?_) (fun c1 => ?_)
  · replace h := (ite_h h).1 c1
    exact wX0_orderAt_14 C hR z0 h hP hS (lv_sub hl [] rfl)
  · replace h := (ite_h h).2 c1
    refine lv_iload_n hx hb dX0_orderAt_4 rfl (lv_at hl 2 rfl) ?_
    refine lv_aload_n hx hb dX0_orderAt_5 rfl (lv_at hl 0 rfl) ?_
    refine b_getr C hP iX0_orderAt_X0 3 (wH_3 cI cJ cZ ad z0) rfl 2 (by decide) fX0_orderAt_i15 rfl rfl dX0_orderAt_6 ?_
    refine lv_iload_n hx hb dX0_orderAt_9 rfl (lv_at hl 1 rfl) ?_
    refine b_iald C hP h 24 (wH_24 cI cJ cZ ad z0) 0 rfl dX0_orderAt_10 (fun v1 h => ?_)
    refine lv_icmp_lt (tgt := 16) hx hb dX0_orderAt_11 (by decide) (fun c1 => ?_) (fun c1 => ?_)
    · replace h := (ite_h h).1 c1
      refine lv_aload_n hx hb dX0_orderAt_16 rfl (lv_at hl 0 rfl) ?_
      refine b_getr C hP iX0_orderAt_X0 3 (wH_3 cI cJ cZ ad z0) rfl 1 (by decide) fX0_orderAt_i9 rfl rfl dX0_orderAt_17 ?_
      refine lv_iload_n hx hb dX0_orderAt_20 rfl (lv_at hl 1 rfl) ?_
      refine lv_bipush (v := 100) hx hb dX0_orderAt_21 (by decide) ?_
      refine lv_imul hx hb dX0_orderAt_23 ?_
      refine lv_aload_n hx hb dX0_orderAt_24 rfl (lv_at hl 0 rfl) ?_
      refine b_getr C hP iX0_orderAt_X0 3 (wH_3 cI cJ cZ ad z0) rfl 2 (by decide) fX0_orderAt_i15 rfl rfl dX0_orderAt_25 ?_
      refine lv_iload_n hx hb dX0_orderAt_28 rfl (lv_at hl 1 rfl) ?_
      refine b_iald C hP h 24 (wH_24 cI cJ cZ ad z0) 0 rfl dX0_orderAt_29 (fun v2 h => ?_)
      refine lv_iadd hx hb dX0_orderAt_30 ?_
      refine lv_iconst (v := 1) hx hb dX0_orderAt_31 (by decide) ?_
      refine lv_isub hx hb dX0_orderAt_32 ?_
      refine lv_iload_n hx hb dX0_orderAt_33 rfl (lv_at hl 2 rfl) ?_
      refine lv_isub hx hb dX0_orderAt_34 ?_
      refine b_iald C hP h 23 (wH_23 cI cJ cZ ad z0) 0 rfl dX0_orderAt_35 (fun v3 h => ?_)
      exact hR 36 _ _ _ _ _ (Option.some.inj h).symm dX0_orderAt_36 hP hS
    · replace h := (ite_h h).2 c1
      exact wX0_orderAt_14 C hR z0 h hP hS (lv_sub hl [] rfl)
theorem mX0_orderAt (l : Launch) (D : va_G) (cI cJ cZ : ClassId) (ad : Nat → Nat) (a1 : Int32) (a2 : Int32) (z0 : SH) : ∀ (q : (Int32 × SH)) (sz : Nat), fX0_orderAt a1 a2 z0 = some q → Met l yX0_orderAt wsX0_orderAt rmX0_orderAt (cP D vwCl (tyl cI cJ cZ) (wH cI cJ cZ ad z0) sz [.ref (ad 3), .int a1, .int a2]) (cQi D vwCl (wH cI cJ cZ ad) z0 sz q) 0 0 (va_A (wH cI cJ cZ ad z0) sz) := by
  intro q sz h
  refine ofW_i (cc := cX0_orderAt) (maxL := 3) (by decide) rfl (wH_same cI cJ cZ ad) (Nat.le_of_ble_eq_true rfl) (fun p e s m below meth c ls hsz C hR hP hl => ?_)
  exact wX0_orderAt C hR a1 a2 z0 h hP va_S.rf hl
abbrev rmX2_pricesAllow : Room := { frames := 0, cells := 0, slots := 0, locals := 0 }
theorem fX2_pricesAllow_i18 : Cond.fieldLink RX2 18 (TX2 2).1 (TX2 2).2.1 (TX2 2).2.2.1 ∈ wsX2_pricesAllow := by decide +kernel
theorem fX2_pricesAllow_i24 : Cond.fieldLink RX2 24 (TX2 4).1 (TX2 4).2.1 (TX2 4).2.2.1 ∈ wsX2_pricesAllow := by decide +kernel
theorem iX2_pricesAllow_X2 : ∀ x ∈ wsX20, x ∈ wsX2_pricesAllow := by decide +kernel
set_option maxRecDepth 100000 in
set_option maxHeartbeats 4000000 in
theorem wX2_pricesAllow_52 {p : Program} {l : Launch} {e : Env} {R : Room} {s : State} {m : MethodId} {args : Array Value} {below : List Frame} {meth : Method} {c : Code} {Q : State → Prop} {D : va_G} {cI cJ cZ : ClassId} {ad : Nat → Nat} {A : Nat → Prop} (C : Cx p s m args c cX2_pricesAllow 3 wsX2_pricesAllow RX2 D vwCl (tyl cI cJ cZ) (wH cI cJ cZ ad) A R 0 0) {r : (Int32 × SH)} (hR : Rz p l e R s m args below meth c cX2_pricesAllow D vwCl (wH cI cJ cZ ad) A Q r) (t0 : Int32) (z0 : SH) {H : Heap} {locs : List Loc} {ls : Array Slot} (h : fX2_pricesAllow_52 t0 z0 = some r) (hP : va_P D vwCl (wH cI cJ cZ ad z0) H) (hS : va_S A s.heap H locs) (hl : lv_has ls 3 []) : W p l e R s m args below meth c H locs 0 0 Q (F0 m 52 ls [.int t0]) := by
  unfold fX2_pricesAllow_52 at h
  have hx := C.1.1
  have hb := C.1.2.1
  exact hR 52 _ _ _ _ _ h dX2_pricesAllow_52 hP hS
set_option maxRecDepth 100000 in
set_option maxHeartbeats 4000000 in
theorem wX2_pricesAllow {p : Program} {l : Launch} {e : Env} {R : Room} {s : State} {m : MethodId} {args : Array Value} {below : List Frame} {meth : Method} {c : Code} {Q : State → Prop} {D : va_G} {cI cJ cZ : ClassId} {ad : Nat → Nat} {A : Nat → Prop} (C : Cx p s m args c cX2_pricesAllow 3 wsX2_pricesAllow RX2 D vwCl (tyl cI cJ cZ) (wH cI cJ cZ ad) A R 0 0) {r : (Int32 × SH)} (hR : Rz p l e R s m args below meth c cX2_pricesAllow D vwCl (wH cI cJ cZ ad) A Q r) (a1 : Int32) (a2 : Int32) (z0 : SH) {H : Heap} {locs : List Loc} {ls : Array Slot} (h : fX2_pricesAllow a1 a2 z0 = some r) (hP : va_P D vwCl (wH cI cJ cZ ad z0) H) (hS : va_S A s.heap H locs) (hl : lv_has ls 3 [(0, .ref (ad 2)), (1, .int a1), (2, .int a2)]) : W p l e R s m args below meth c H locs 0 0 Q (F0 m 0 ls []) := by
  unfold fX2_pricesAllow at h
  have hx := C.1.1
  have hb := C.1.2.1
  refine lv_aload_n hx hb dX2_pricesAllow_0 rfl (lv_at hl 0 rfl) ?_
  refine b_getr C hP iX2_pricesAllow_X2 2 (wH_2 cI cJ cZ ad z0) rfl 2 (by decide) fX2_pricesAllow_i18 rfl rfl dX2_pricesAllow_1 ?_
  refine lv_iload_n hx hb dX2_pricesAllow_4 rfl (lv_at hl 1 rfl) ?_
  refine b_iald C hP h 14 (wH_14 cI cJ cZ ad z0) 0 rfl dX2_pricesAllow_5 (fun v1 h => ?_)
  refine lv_if_ne (tgt := 32) hx hb dX2_pricesAllow_6 (by decide) (fun c1 => ?_) (fun c1 => ?_)
  · replace h := (ite_h h).2 c1
    refine lv_aload_n hx hb dX2_pricesAllow_32 rfl (lv_at hl 0 rfl) ?_
    refine b_getr C hP iX2_pricesAllow_X2 2 (wH_2 cI cJ cZ ad z0) rfl 4 (by decide) fX2_pricesAllow_i24 rfl rfl dX2_pricesAllow_33 ?_
    refine lv_iload_n hx hb dX2_pricesAllow_36 rfl (lv_at hl 2 rfl) ?_
    refine b_iald C hP h 16 (wH_16 cI cJ cZ ad z0) 0 rfl dX2_pricesAllow_37 (fun v2 h => ?_)
    refine lv_aload_n hx hb dX2_pricesAllow_38 rfl (lv_at hl 0 rfl) ?_
    refine b_getr C hP iX2_pricesAllow_X2 2 (wH_2 cI cJ cZ ad z0) rfl 4 (by decide) fX2_pricesAllow_i24 rfl rfl dX2_pricesAllow_39 ?_
    refine lv_iload_n hx hb dX2_pricesAllow_42 rfl (lv_at hl 1 rfl) ?_
    refine b_iald C hP h 16 (wH_16 cI cJ cZ ad z0) 0 rfl dX2_pricesAllow_43 (fun v3 h => ?_)
    refine lv_icmp_lt (tgt := 51) hx hb dX2_pricesAllow_44 (by decide) (fun c1 => ?_) (fun c1 => ?_)
    · replace h := (ite_h h).1 c1
      refine lv_iconst (v := 0) hx hb dX2_pricesAllow_51 (by decide) ?_
      exact wX2_pricesAllow_52 C hR 0 z0 h hP hS (lv_sub hl [] rfl)
    · replace h := (ite_h h).2 c1
      refine lv_iconst (v := 1) hx hb dX2_pricesAllow_47 (by decide) ?_
      refine lv_goto (tgt := 52) hx hb dX2_pricesAllow_48 (by decide) ?_
      exact wX2_pricesAllow_52 C hR 1 z0 h hP hS (lv_sub hl [] rfl)
  · replace h := (ite_h h).1 c1
    refine lv_aload_n hx hb dX2_pricesAllow_9 rfl (lv_at hl 0 rfl) ?_
    refine b_getr C hP iX2_pricesAllow_X2 2 (wH_2 cI cJ cZ ad z0) rfl 4 (by decide) fX2_pricesAllow_i24 rfl rfl dX2_pricesAllow_10 ?_
    refine lv_iload_n hx hb dX2_pricesAllow_13 rfl (lv_at hl 2 rfl) ?_
    refine b_iald C hP h 16 (wH_16 cI cJ cZ ad z0) 0 rfl dX2_pricesAllow_14 (fun v4 h => ?_)
    refine lv_aload_n hx hb dX2_pricesAllow_15 rfl (lv_at hl 0 rfl) ?_
    refine b_getr C hP iX2_pricesAllow_X2 2 (wH_2 cI cJ cZ ad z0) rfl 4 (by decide) fX2_pricesAllow_i24 rfl rfl dX2_pricesAllow_16 ?_
    refine lv_iload_n hx hb dX2_pricesAllow_19 rfl (lv_at hl 1 rfl) ?_
    refine b_iald C hP h 16 (wH_16 cI cJ cZ ad z0) 0 rfl dX2_pricesAllow_20 (fun v5 h => ?_)
    refine lv_icmp_gt (tgt := 28) hx hb dX2_pricesAllow_21 (by decide) (fun c1 => ?_) (fun c1 => ?_)
    · replace h := (ite_h h).1 c1
      refine lv_iconst (v := 0) hx hb dX2_pricesAllow_28 (by decide) ?_
      refine lv_goto (tgt := 52) hx hb dX2_pricesAllow_29 (by decide) ?_
      exact wX2_pricesAllow_52 C hR 0 z0 h hP hS (lv_sub hl [] rfl)
    · replace h := (ite_h h).2 c1
      refine lv_iconst (v := 1) hx hb dX2_pricesAllow_24 (by decide) ?_
      refine lv_goto (tgt := 52) hx hb dX2_pricesAllow_25 (by decide) ?_
      exact wX2_pricesAllow_52 C hR 1 z0 h hP hS (lv_sub hl [] rfl)
theorem mX2_pricesAllow (l : Launch) (D : va_G) (cI cJ cZ : ClassId) (ad : Nat → Nat) (a1 : Int32) (a2 : Int32) (z0 : SH) : ∀ (q : (Int32 × SH)) (sz : Nat), fX2_pricesAllow a1 a2 z0 = some q → Met l yX2_pricesAllow wsX2_pricesAllow rmX2_pricesAllow (cP D vwCl (tyl cI cJ cZ) (wH cI cJ cZ ad z0) sz [.ref (ad 2), .int a1, .int a2]) (cQi D vwCl (wH cI cJ cZ ad) z0 sz q) 0 0 (va_A (wH cI cJ cZ ad z0) sz) := by
  intro q sz h
  refine ofW_z (cc := cX2_pricesAllow) (maxL := 3) (by decide) rfl (wH_same cI cJ cZ ad) (Nat.le_of_ble_eq_true rfl) (fun p e s m below meth c ls hsz C hR hP hl => ?_)
  exact wX2_pricesAllow C hR a1 a2 z0 h hP va_S.rf hl
abbrev rmX4_meetsOther : Room := { frames := 2, cells := 0, slots := 0, locals := 42 }
theorem fX4_meetsOther_i19 : Cond.fieldLink RX4 19 (TX4 1).1 (TX4 1).2.1 (TX4 1).2.2.1 ∈ wsX4_meetsOther := by decide +kernel
theorem fX4_meetsOther_i28 : Cond.fieldLink RX4 28 (TX4 2).1 (TX4 2).2.1 (TX4 2).2.2.1 ∈ wsX4_meetsOther := by decide +kernel
theorem iX4_meetsOther_X4 : ∀ x ∈ wsX40, x ∈ wsX4_meetsOther := by decide +kernel
set_option maxRecDepth 100000 in
set_option maxHeartbeats 4000000 in
theorem wX4_meetsOther_39 {p : Program} {l : Launch} {e : Env} {R : Room} {s : State} {m : MethodId} {args : Array Value} {below : List Frame} {meth : Method} {c : Code} {Q : State → Prop} {D : va_G} {cI cJ cZ : ClassId} {ad : Nat → Nat} {A : Nat → Prop} (C : Cx p s m args c cX4_meetsOther 3 wsX4_meetsOther RX4 D vwCl (tyl cI cJ cZ) (wH cI cJ cZ ad) A R 2 42) {r : (Int32 × SH)} (hR : Rz p l e R s m args below meth c cX4_meetsOther D vwCl (wH cI cJ cZ ad) A Q r) (t0 : Int32) (z0 : SH) {H : Heap} {locs : List Loc} {ls : Array Slot} (h : fX4_meetsOther_39 t0 z0 = some r) (hP : va_P D vwCl (wH cI cJ cZ ad z0) H) (hS : va_S A s.heap H locs) (hl : lv_has ls 3 []) : W p l e R s m args below meth c H locs 0 0 Q (F0 m 39 ls [.int t0]) := by
  unfold fX4_meetsOther_39 at h
  have hx := C.1.1
  have hb := C.1.2.1
  exact hR 39 _ _ _ _ _ h dX4_meetsOther_39 hP hS
set_option maxRecDepth 100000 in
set_option maxHeartbeats 4000000 in
theorem wX4_meetsOther_38 {p : Program} {l : Launch} {e : Env} {R : Room} {s : State} {m : MethodId} {args : Array Value} {below : List Frame} {meth : Method} {c : Code} {Q : State → Prop} {D : va_G} {cI cJ cZ : ClassId} {ad : Nat → Nat} {A : Nat → Prop} (C : Cx p s m args c cX4_meetsOther 3 wsX4_meetsOther RX4 D vwCl (tyl cI cJ cZ) (wH cI cJ cZ ad) A R 2 42) {r : (Int32 × SH)} (hR : Rz p l e R s m args below meth c cX4_meetsOther D vwCl (wH cI cJ cZ ad) A Q r) (z0 : SH) {H : Heap} {locs : List Loc} {ls : Array Slot} (h : fX4_meetsOther_38 z0 = some r) (hP : va_P D vwCl (wH cI cJ cZ ad z0) H) (hS : va_S A s.heap H locs) (hl : lv_has ls 3 []) : W p l e R s m args below meth c H locs 0 0 Q (F0 m 38 ls []) := by
  unfold fX4_meetsOther_38 at h
  have hx := C.1.1
  have hb := C.1.2.1
  refine lv_iconst (v := 0) hx hb dX4_meetsOther_38 (by decide) ?_
  exact wX4_meetsOther_39 C hR 0 z0 h hP hS (lv_sub hl [] rfl)
set_option maxRecDepth 100000 in
set_option maxHeartbeats 4000000 in
theorem wX4_meetsOther {p : Program} {l : Launch} {e : Env} {R : Room} {s : State} {m : MethodId} {args : Array Value} {below : List Frame} {meth : Method} {c : Code} {Q : State → Prop} {D : va_G} {cI cJ cZ : ClassId} {ad : Nat → Nat} {A : Nat → Prop} (C : Cx p s m args c cX4_meetsOther 3 wsX4_meetsOther RX4 D vwCl (tyl cI cJ cZ) (wH cI cJ cZ ad) A R 2 42) {r : (Int32 × SH)} (hR : Rz p l e R s m args below meth c cX4_meetsOther D vwCl (wH cI cJ cZ ad) A Q r) (a1 : Int32) (z0 : SH) {H : Heap} {locs : List Loc} {ls : Array Slot} (h : fX4_meetsOther a1 z0 = some r) (hP : va_P D vwCl (wH cI cJ cZ ad z0) H) (hS : va_S A s.heap H locs) (hl : lv_has ls 3 [(0, .ref (ad 0)), (1, .int a1)]) : W p l e R s m args below meth c H locs 0 0 Q (F0 m 0 ls []) := by
  unfold fX4_meetsOther at h
  have hx := C.1.1
  have hb := C.1.2.1
  refine lv_aload_n hx hb dX4_meetsOther_0 rfl (lv_at hl 0 rfl) ?_
  refine b_getr C hP iX4_meetsOther_X4 0 (wH_0 cI cJ cZ ad z0) rfl 2 (by decide) fX4_meetsOther_i28 rfl rfl dX4_meetsOther_1 ?_
  refine lv_aload_n hx hb dX4_meetsOther_4 rfl (lv_at hl 0 rfl) ?_
  refine b_getr C hP iX4_meetsOther_X4 0 (wH_0 cI cJ cZ ad z0) rfl 2 (by decide) fX4_meetsOther_i28 rfl rfl dX4_meetsOther_5 ?_
  refine lv_iload_n hx hb dX4_meetsOther_8 rfl (lv_at hl 1 rfl) ?_
  refine b_callVi (As := [.int a1]) (rest := [.ref (ad 3)]) C hP hS h (mX0_facing l D cI cJ cZ ad a1 z0) (cwV 1 C.1.2.2.2.2 gX4_meetsOther_X0_facing rfl rfl rfl (by decide +kernel) ⟨Nat.le_trans (Nat.le_of_ble_eq_true rfl) C.2.2.2.2.1, Nat.le_trans (Nat.le_of_ble_eq_true rfl) C.2.2.2.2.2⟩) (va_recv C.2.1 hP (ci := 0) (q0 := 3) rfl (wH_3 cI cJ cZ ad z0)) rfl hl.1 rfl (Nat.le_of_ble_eq_true rfl) dX4_meetsOther_9 (fun v2 z1 _ _ h hP hS => ?_)
  refine lv_iconst (v := 0) hx hb dX4_meetsOther_12 (by decide) ?_
  refine b_callVi (As := [.int v2, .int 0]) (rest := []) C hP hS h (mX0_orderAt l D cI cJ cZ ad v2 0 z1) (cwV 2 C.1.2.2.2.2 gX4_meetsOther_X0_orderAt rfl rfl rfl (by decide +kernel) ⟨Nat.le_trans (Nat.le_of_ble_eq_true rfl) C.2.2.2.2.1, Nat.le_trans (Nat.le_of_ble_eq_true rfl) C.2.2.2.2.2⟩) (va_recv C.2.1 hP (ci := 0) (q0 := 3) rfl (wH_3 cI cJ cZ ad z1)) rfl hl.1 rfl (Nat.le_of_ble_eq_true rfl) dX4_meetsOther_13 (fun v4 z3 _ _ h hP hS => ?_)
  refine lv_istore_n (lv' := [(2, .int v4), (0, .ref (ad 0)), (1, .int a1)]) hx hb dX4_meetsOther_16 rfl hl (by decide) rfl (fun ls hl => ?_)
  refine lv_iload_n hx hb dX4_meetsOther_17 rfl (lv_at hl 0 rfl) ?_
  refine lv_iconst (v := -1) hx hb dX4_meetsOther_18 (by decide) ?_
  refine lv_icmp_eq (tgt := 38) hx hb dX4_meetsOther_19 (by decide) (fun c1 => ?_) (fun c1 => ?_)
  · replace h := (ite_h h).1 c1
    exact wX4_meetsOther_38 C hR z3 h hP hS (lv_sub hl [] rfl)
  · replace h := (ite_h h).2 c1
    refine lv_aload_n hx hb dX4_meetsOther_22 rfl (lv_at hl 1 rfl) ?_
    refine b_getr C hP iX4_meetsOther_X4 0 (wH_0 cI cJ cZ ad z3) rfl 1 (by decide) fX4_meetsOther_i19 rfl rfl dX4_meetsOther_23 ?_
    refine lv_iload_n hx hb dX4_meetsOther_26 rfl (lv_at hl 2 rfl) ?_
    refine lv_iload_n hx hb dX4_meetsOther_27 rfl (lv_at hl 0 rfl) ?_
    refine b_callVi (As := [.int a1, .int v4]) (rest := []) C hP hS h (mX2_pricesAllow l D cI cJ cZ ad a1 v4 z3) (cwV 2 C.1.2.2.2.2 gX4_meetsOther_X2_pricesAllow rfl rfl rfl (by decide +kernel) ⟨Nat.le_trans (Nat.le_of_ble_eq_true rfl) C.2.2.2.2.1, Nat.le_trans (Nat.le_of_ble_eq_true rfl) C.2.2.2.2.2⟩) (va_recv C.2.1 hP (ci := 2) (q0 := 2) rfl (wH_2 cI cJ cZ ad z3)) rfl hl.1 rfl (Nat.le_of_ble_eq_true rfl) dX4_meetsOther_28 (fun v6 z5 _ _ h hP hS => ?_)
    refine lv_if_eq (tgt := 38) hx hb dX4_meetsOther_31 (by decide) (fun c1 => ?_) (fun c1 => ?_)
    · replace h := (ite_h h).1 c1
      exact wX4_meetsOther_38 C hR z5 h hP hS (lv_sub hl [] rfl)
    · replace h := (ite_h h).2 c1
      refine lv_iconst (v := 1) hx hb dX4_meetsOther_34 (by decide) ?_
      refine lv_goto (tgt := 39) hx hb dX4_meetsOther_35 (by decide) ?_
      exact wX4_meetsOther_39 C hR 1 z5 h hP hS (lv_sub hl [] rfl)
theorem mX4_meetsOther (l : Launch) (D : va_G) (cI cJ cZ : ClassId) (ad : Nat → Nat) (a1 : Int32) (z0 : SH) : ∀ (q : (Int32 × SH)) (sz : Nat), fX4_meetsOther a1 z0 = some q → Met l yX4_meetsOther wsX4_meetsOther rmX4_meetsOther (cP D vwCl (tyl cI cJ cZ) (wH cI cJ cZ ad z0) sz [.ref (ad 0), .int a1]) (cQi D vwCl (wH cI cJ cZ ad) z0 sz q) 0 0 (va_A (wH cI cJ cZ ad z0) sz) := by
  intro q sz h
  refine ofW_z (cc := cX4_meetsOther) (maxL := 3) (by decide) rfl (wH_same cI cJ cZ ad) (Nat.le_of_ble_eq_true rfl) (fun p e s m below meth c ls hsz C hR hP hl => ?_)
  exact wX4_meetsOther C hR a1 z0 h hP va_S.rf hl
abbrev rmX0_putLast : Room := { frames := 1, cells := 0, slots := 0, locals := 21 }
theorem fX0_putLast_i15 : Cond.fieldLink RX0 15 (TX0 2).1 (TX0 2).2.1 (TX0 2).2.2.1 ∈ wsX0_putLast := by decide +kernel
theorem fX0_putLast_i18 : Cond.fieldLink RX0 18 (TX0 0).1 (TX0 0).2.1 (TX0 0).2.2.1 ∈ wsX0_putLast := by decide +kernel
theorem fX0_putLast_i22 : Cond.fieldLink RX0 22 (TX2 1).1 (TX2 1).2.1 (TX2 1).2.2.1 ∈ wsX0_putLast := by decide +kernel
theorem fX0_putLast_i27 : Cond.fieldLink RX0 27 (TX2 2).1 (TX2 2).2.1 (TX2 2).2.2.1 ∈ wsX0_putLast := by decide +kernel
theorem fX0_putLast_i34 : Cond.fieldLink RX0 34 (TX2 4).1 (TX2 4).2.1 (TX2 4).2.2.1 ∈ wsX0_putLast := by decide +kernel
theorem fX0_putLast_i9 : Cond.fieldLink RX0 9 (TX0 1).1 (TX0 1).2.1 (TX0 1).2.2.1 ∈ wsX0_putLast := by decide +kernel
theorem iX0_putLast_X0 : ∀ x ∈ wsX00, x ∈ wsX0_putLast := by decide +kernel
theorem iX0_putLast_X2 : ∀ x ∈ wsX20, x ∈ wsX0_putLast := by decide +kernel
set_option maxRecDepth 100000 in
set_option maxHeartbeats 4000000 in
theorem wX0_putLast_135 {p : Program} {l : Launch} {e : Env} {R : Room} {s : State} {m : MethodId} {args : Array Value} {below : List Frame} {meth : Method} {c : Code} {Q : State → Prop} {D : va_G} {cI cJ cZ : ClassId} {ad : Nat → Nat} {A : Nat → Prop} (C : Cx p s m args c cX0_putLast 7 wsX0_putLast RX0 D vwCl (tyl cI cJ cZ) (wH cI cJ cZ ad) A R 1 21) {r : (Unit × SH)} (hR : Rv p l e R s m args below meth c cX0_putLast D vwCl (wH cI cJ cZ ad) A Q r) (N : Nat) (x1 : Int32) (x2 : Int32) (x6 : Int32) (z0 : SH) {H : Heap} {locs : List Loc} {ls : Array Slot} (h : fX0_putLast_135 N x1 x2 x6 z0 = some r) (hP : va_P D vwCl (wH cI cJ cZ ad z0) H) (hS : va_S A s.heap H locs) (hl : lv_has ls 7 [(0, .ref (ad 3)), (1, .int x1), (2, .int x2), (6, .int x6)]) : W p l e R s m args below meth c H locs 0 0 Q (F0 m 135 ls []) := by
  unfold fX0_putLast_135 at h
  have hx := C.1.1
  have hb := C.1.2.1
  refine lv_aload_n hx hb dX0_putLast_135 rfl (lv_at hl 0 rfl) ?_
  refine b_getr C hP iX0_putLast_X0 3 (wH_3 cI cJ cZ ad z0) rfl 1 (by decide) fX0_putLast_i9 rfl rfl dX0_putLast_136 ?_
  refine lv_iload hx hb dX0_putLast_139 (lv_at hl 3 rfl) ?_
  refine lv_iload_n hx hb dX0_putLast_141 rfl (lv_at hl 1 rfl) ?_
  refine b_iast C hP hS h 23 (wH_23 cI cJ cZ ad z0) 0 rfl (wH_s23 cI cJ cZ ad z0 _ _) dX0_putLast_142 (fun z1 _ _ h hP hS => ?_)
  refine lv_aload_n hx hb dX0_putLast_143 rfl (lv_at hl 0 rfl) ?_
  refine b_getr C hP iX0_putLast_X0 3 (wH_3 cI cJ cZ ad z1) rfl 2 (by decide) fX0_putLast_i15 rfl rfl dX0_putLast_144 ?_
  refine lv_iload_n hx hb dX0_putLast_147 rfl (lv_at hl 2 rfl) ?_
  refine lv_dup2_11 hx hb dX0_putLast_148 rfl rfl ?_
  refine b_iald C hP h 24 (wH_24 cI cJ cZ ad z1) 0 rfl dX0_putLast_149 (fun v2 h => ?_)
  refine lv_iconst (v := 1) hx hb dX0_putLast_150 (by decide) ?_
  refine lv_iadd hx hb dX0_putLast_151 ?_
  refine b_iast C hP hS h 24 (wH_24 cI cJ cZ ad z1) 0 rfl (wH_s24 cI cJ cZ ad z1 _ _) dX0_putLast_152 (fun z3 _ _ h hP hS => ?_)
  exact hR 153 _ _ _ _ (Option.some.inj h).symm dX0_putLast_153 hP hS
set_option maxRecDepth 100000 in
set_option maxHeartbeats 4000000 in
theorem wX0_putLast_82 {p : Program} {l : Launch} {e : Env} {R : Room} {s : State} {m : MethodId} {args : Array Value} {below : List Frame} {meth : Method} {c : Code} {Q : State → Prop} {D : va_G} {cI cJ cZ : ClassId} {ad : Nat → Nat} {A : Nat → Prop} (C : Cx p s m args c cX0_putLast 7 wsX0_putLast RX0 D vwCl (tyl cI cJ cZ) (wH cI cJ cZ ad) A R 1 21) {r : (Unit × SH)} (hR : Rv p l e R s m args below meth c cX0_putLast D vwCl (wH cI cJ cZ ad) A Q r) (N : Nat) (k82 : Int32 → Int32 → Int32 → Int32 → Int32 → Int32 → SH → Option (Unit × SH)) (K82 : ∀ (x1 : Int32) (x2 : Int32) (x3 : Int32) (x4 : Int32) (x5 : Int32) (x6 : Int32) (z : SH) (H : Heap) (locs : List Loc) (ls : Array Slot), k82 x1 x2 x3 x4 x5 x6 z = some r → va_P D vwCl (wH cI cJ cZ ad z) H → va_S A s.heap H locs → lv_has ls 7 [(0, .ref (ad 3)), (1, .int x1), (2, .int x2), (3, .int x3), (4, .int x4), (5, .int x5), (6, .int x6)] → W p l e R s m args below meth c H locs 0 0 Q (F0 m 82 ls [])) (x1 : Int32) (x2 : Int32) (x3 : Int32) (x4 : Int32) (x5 : Int32) (x6 : Int32) (z0 : SH) {H : Heap} {locs : List Loc} {ls : Array Slot} (h : fX0_putLast_82 N k82 x1 x2 x3 x4 x5 x6 z0 = some r) (hP : va_P D vwCl (wH cI cJ cZ ad z0) H) (hS : va_S A s.heap H locs) (hl : lv_has ls 7 [(0, .ref (ad 3)), (1, .int x1), (2, .int x2), (3, .int x3), (4, .int x4), (5, .int x5), (6, .int x6)]) : W p l e R s m args below meth c H locs 0 0 Q (F0 m 82 ls []) := by
  unfold fX0_putLast_82 at h
  have hx := C.1.1
  have hb := C.1.2.1
  refine lv_iload hx hb dX0_putLast_82 (lv_at hl 6 rfl) ?_
  refine lv_iload hx hb dX0_putLast_84 (lv_at hl 5 rfl) ?_
  refine lv_icmp_le (tgt := 135) hx hb dX0_putLast_86 (by decide) (fun c1 => ?_) (fun c1 => ?_)
  · replace h := (ite_h h).1 c1
    exact wX0_putLast_135 C hR N x1 x2 x6 z0 h hP hS (lv_sub hl [0, 1, 2, 6] rfl)
  · replace h := (ite_h h).2 c1
    refine lv_iload_n hx hb dX0_putLast_89 rfl (lv_at hl 3 rfl) ?_
    refine lv_aload_n hx hb dX0_putLast_90 rfl (lv_at hl 0 rfl) ?_
    refine b_getr C hP iX0_putLast_X0 3 (wH_3 cI cJ cZ ad z0) rfl 0 (by decide) fX0_putLast_i18 rfl rfl dX0_putLast_91 ?_
    refine b_getr C hP iX0_putLast_X2 2 (wH_2 cI cJ cZ ad z0) rfl 4 (by decide) fX0_putLast_i34 rfl rfl dX0_putLast_94 ?_
    refine lv_aload_n hx hb dX0_putLast_97 rfl (lv_at hl 0 rfl) ?_
    refine b_getr C hP iX0_putLast_X0 3 (wH_3 cI cJ cZ ad z0) rfl 1 (by decide) fX0_putLast_i9 rfl rfl dX0_putLast_98 ?_
    refine lv_iload hx hb dX0_putLast_101 (lv_at hl 6 rfl) ?_
    refine lv_iconst (v := 1) hx hb dX0_putLast_103 (by decide) ?_
    refine lv_isub hx hb dX0_putLast_104 ?_
    refine b_iald C hP h 23 (wH_23 cI cJ cZ ad z0) 0 rfl dX0_putLast_105 (fun v1 h => ?_)
    refine b_iald C hP h 16 (wH_16 cI cJ cZ ad z0) 0 rfl dX0_putLast_106 (fun v2 h => ?_)
    refine lv_imul hx hb dX0_putLast_107 ?_
    refine lv_iload hx hb dX0_putLast_108 (lv_at hl 4 rfl) ?_
    refine lv_icmp_lt (tgt := 135) hx hb dX0_putLast_110 (by decide) (fun c1 => ?_) (fun c1 => ?_)
    · replace h := (ite_h h).1 c1
      exact wX0_putLast_135 C hR N x1 x2 x6 z0 h hP hS (lv_sub hl [0, 1, 2, 6] rfl)
    · replace h := (ite_h h).2 c1
      refine lv_aload_n hx hb dX0_putLast_113 rfl (lv_at hl 0 rfl) ?_
      refine b_getr C hP iX0_putLast_X0 3 (wH_3 cI cJ cZ ad z0) rfl 1 (by decide) fX0_putLast_i9 rfl rfl dX0_putLast_114 ?_
      refine lv_iload hx hb dX0_putLast_117 (lv_at hl 6 rfl) ?_
      refine lv_aload_n hx hb dX0_putLast_119 rfl (lv_at hl 0 rfl) ?_
      refine b_getr C hP iX0_putLast_X0 3 (wH_3 cI cJ cZ ad z0) rfl 1 (by decide) fX0_putLast_i9 rfl rfl dX0_putLast_120 ?_
      refine lv_iload hx hb dX0_putLast_123 (lv_at hl 6 rfl) ?_
      refine lv_iconst (v := 1) hx hb dX0_putLast_125 (by decide) ?_
      refine lv_isub hx hb dX0_putLast_126 ?_
      refine b_iald C hP h 23 (wH_23 cI cJ cZ ad z0) 0 rfl dX0_putLast_127 (fun v3 h => ?_)
      refine b_iast C hP hS h 23 (wH_23 cI cJ cZ ad z0) 0 rfl (wH_s23 cI cJ cZ ad z0 _ _) dX0_putLast_128 (fun z4 _ _ h hP hS => ?_)
      refine lv_iinc (v := x6 + (-1)) (lv' := [(6, .int (x6 + (-1))), (0, .ref (ad 3)), (1, .int x1), (2, .int x2), (3, .int x3), (4, .int x4), (5, .int x5)]) hx hb dX0_putLast_129 hl (k := 6) rfl rfl (by decide) rfl (fun ls hl => ?_)
      refine lv_goto (tgt := 82) hx hb dX0_putLast_132 (by decide) ?_
      exact K82 x1 x2 x3 x4 x5 (x6 + (-1)) z4 _ _ _ h hP hS (lv_sub hl [1, 2, 3, 4, 5, 6, 0] rfl)
theorem wX0_putLast_82_L {p : Program} {l : Launch} {e : Env} {R : Room} {s : State} {m : MethodId} {args : Array Value} {below : List Frame} {meth : Method} {c : Code} {Q : State → Prop} {D : va_G} {cI cJ cZ : ClassId} {ad : Nat → Nat} {A : Nat → Prop} (C : Cx p s m args c cX0_putLast 7 wsX0_putLast RX0 D vwCl (tyl cI cJ cZ) (wH cI cJ cZ ad) A R 1 21) {r : (Unit × SH)} (hR : Rv p l e R s m args below meth c cX0_putLast D vwCl (wH cI cJ cZ ad) A Q r) (N : Nat) : ∀ (n : Nat), ∀ (x1 : Int32) (x2 : Int32) (x3 : Int32) (x4 : Int32) (x5 : Int32) (x6 : Int32) (z : SH) (H : Heap) (locs : List Loc) (ls : Array Slot), fX0_putLast_82_L N n x1 x2 x3 x4 x5 x6 z = some r → va_P D vwCl (wH cI cJ cZ ad z) H → va_S A s.heap H locs → lv_has ls 7 [(0, .ref (ad 3)), (1, .int x1), (2, .int x2), (3, .int x3), (4, .int x4), (5, .int x5), (6, .int x6)] → W p l e R s m args below meth c H locs 0 0 Q (F0 m 82 ls []) := by
  intro n
  induction n with
  | zero => intro x1 x2 x3 x4 x5 x6 z H locs ls h; exact nomatch (show (none : Option (Unit × SH)) = some r from h)
  | succ n ih => intro x1 x2 x3 x4 x5 x6 z H locs ls h hP hS hl; exact wX0_putLast_82 C hR N (fX0_putLast_82_L N n) ih x1 x2 x3 x4 x5 x6 z (show fX0_putLast_82 N (fX0_putLast_82_L N n) x1 x2 x3 x4 x5 x6 z = some r from h) hP hS hl
set_option maxRecDepth 100000 in
set_option maxHeartbeats 4000000 in
theorem wX0_putLast_51 {p : Program} {l : Launch} {e : Env} {R : Room} {s : State} {m : MethodId} {args : Array Value} {below : List Frame} {meth : Method} {c : Code} {Q : State → Prop} {D : va_G} {cI cJ cZ : ClassId} {ad : Nat → Nat} {A : Nat → Prop} (C : Cx p s m args c cX0_putLast 7 wsX0_putLast RX0 D vwCl (tyl cI cJ cZ) (wH cI cJ cZ ad) A R 1 21) {r : (Unit × SH)} (hR : Rv p l e R s m args below meth c cX0_putLast D vwCl (wH cI cJ cZ ad) A Q r) (N : Nat) (x1 : Int32) (x2 : Int32) (t0 : Int32) (z0 : SH) {H : Heap} {locs : List Loc} {ls : Array Slot} (h : fX0_putLast_51 N x1 x2 t0 z0 = some r) (hP : va_P D vwCl (wH cI cJ cZ ad z0) H) (hS : va_S A s.heap H locs) (hl : lv_has ls 7 [(0, .ref (ad 3)), (1, .int x1), (2, .int x2)]) : W p l e R s m args below meth c H locs 0 0 Q (F0 m 51 ls [.int t0]) := by
  unfold fX0_putLast_51 at h
  have hx := C.1.1
  have hb := C.1.2.1
  refine lv_istore_n (lv' := [(3, .int t0), (0, .ref (ad 3)), (1, .int x1), (2, .int x2)]) hx hb dX0_putLast_51 rfl hl (by decide) rfl (fun ls hl => ?_)
  refine lv_iload_n hx hb dX0_putLast_52 rfl (lv_at hl 0 rfl) ?_
  refine lv_aload_n hx hb dX0_putLast_53 rfl (lv_at hl 1 rfl) ?_
  refine b_getr C hP iX0_putLast_X0 3 (wH_3 cI cJ cZ ad z0) rfl 0 (by decide) fX0_putLast_i18 rfl rfl dX0_putLast_54 ?_
  refine b_getr C hP iX0_putLast_X2 2 (wH_2 cI cJ cZ ad z0) rfl 4 (by decide) fX0_putLast_i34 rfl rfl dX0_putLast_57 ?_
  refine lv_iload_n hx hb dX0_putLast_60 rfl (lv_at hl 2 rfl) ?_
  refine b_iald C hP h 16 (wH_16 cI cJ cZ ad z0) 0 rfl dX0_putLast_61 (fun v1 h => ?_)
  refine lv_imul hx hb dX0_putLast_62 ?_
  refine lv_istore (lv' := [(4, .int (t0 * v1)), (3, .int t0), (0, .ref (ad 3)), (1, .int x1), (2, .int x2)]) hx hb dX0_putLast_63 hl (by decide) rfl (fun ls hl => ?_)
  refine lv_iload_n hx hb dX0_putLast_65 rfl (lv_at hl 4 rfl) ?_
  refine lv_bipush (v := 100) hx hb dX0_putLast_66 (by decide) ?_
  refine lv_imul hx hb dX0_putLast_68 ?_
  refine lv_istore (lv' := [(5, .int (x2 * 100)), (4, .int (t0 * v1)), (3, .int t0), (0, .ref (ad 3)), (1, .int x1), (2, .int x2)]) hx hb dX0_putLast_69 hl (by decide) rfl (fun ls hl => ?_)
  refine lv_iload hx hb dX0_putLast_71 (lv_at hl 0 rfl) ?_
  refine lv_aload_n hx hb dX0_putLast_73 rfl (lv_at hl 3 rfl) ?_
  refine b_getr C hP iX0_putLast_X0 3 (wH_3 cI cJ cZ ad z0) rfl 2 (by decide) fX0_putLast_i15 rfl rfl dX0_putLast_74 ?_
  refine lv_iload_n hx hb dX0_putLast_77 rfl (lv_at hl 5 rfl) ?_
  refine b_iald C hP h 24 (wH_24 cI cJ cZ ad z0) 0 rfl dX0_putLast_78 (fun v2 h => ?_)
  refine lv_iadd hx hb dX0_putLast_79 ?_
  refine lv_istore (lv' := [(6, .int ((x2 * 100) + v2)), (5, .int (x2 * 100)), (4, .int (t0 * v1)), (3, .int t0), (0, .ref (ad 3)), (1, .int x1), (2, .int x2)]) hx hb dX0_putLast_80 hl (by decide) rfl (fun ls hl => ?_)
  exact wX0_putLast_82_L C hR N N x1 x2 t0 (t0 * v1) (x2 * 100) ((x2 * 100) + v2) z0 _ _ _ h hP hS (lv_sub hl [4, 5, 6, 3, 2, 1, 0] rfl)
set_option maxRecDepth 100000 in
set_option maxHeartbeats 4000000 in
theorem wX0_putLast {p : Program} {l : Launch} {e : Env} {R : Room} {s : State} {m : MethodId} {args : Array Value} {below : List Frame} {meth : Method} {c : Code} {Q : State → Prop} {D : va_G} {cI cJ cZ : ClassId} {ad : Nat → Nat} {A : Nat → Prop} (C : Cx p s m args c cX0_putLast 7 wsX0_putLast RX0 D vwCl (tyl cI cJ cZ) (wH cI cJ cZ ad) A R 1 21) {r : (Unit × SH)} (hR : Rv p l e R s m args below meth c cX0_putLast D vwCl (wH cI cJ cZ ad) A Q r) (N : Nat) (a1 : Int32) (z0 : SH) {H : Heap} {locs : List Loc} {ls : Array Slot} (h : fX0_putLast N a1 z0 = some r) (hP : va_P D vwCl (wH cI cJ cZ ad z0) H) (hS : va_S A s.heap H locs) (hl : lv_has ls 7 [(0, .ref (ad 3)), (1, .int a1)]) : W p l e R s m args below meth c H locs 0 0 Q (F0 m 0 ls []) := by
  unfold fX0_putLast at h
  have hx := C.1.1
  have hb := C.1.2.1
  refine lv_aload_n hx hb dX0_putLast_0 rfl (lv_at hl 0 rfl) ?_
  refine b_getr C hP iX0_putLast_X0 3 (wH_3 cI cJ cZ ad z0) rfl 0 (by decide) fX0_putLast_i18 rfl rfl dX0_putLast_1 ?_
  refine b_getr C hP iX0_putLast_X2 2 (wH_2 cI cJ cZ ad z0) rfl 1 (by decide) fX0_putLast_i22 rfl rfl dX0_putLast_4 ?_
  refine lv_iload_n hx hb dX0_putLast_7 rfl (lv_at hl 1 rfl) ?_
  refine b_iald C hP h 13 (wH_13 cI cJ cZ ad z0) 0 rfl dX0_putLast_8 (fun v1 h => ?_)
  refine lv_aload_n hx hb dX0_putLast_9 rfl (lv_at hl 0 rfl) ?_
  refine b_getr C hP iX0_putLast_X0 3 (wH_3 cI cJ cZ ad z0) rfl 0 (by decide) fX0_putLast_i18 rfl rfl dX0_putLast_10 ?_
  refine b_getr C hP iX0_putLast_X2 2 (wH_2 cI cJ cZ ad z0) rfl 2 (by decide) fX0_putLast_i27 rfl rfl dX0_putLast_13 ?_
  refine lv_iload_n hx hb dX0_putLast_16 rfl (lv_at hl 1 rfl) ?_
  refine b_iald C hP h 14 (wH_14 cI cJ cZ ad z0) 0 rfl dX0_putLast_17 (fun v2 h => ?_)
  refine b_callSi (As := [.int v1, .int v2]) (rest := []) C hP hS h (mX0_bookOf l D cI cJ cZ ad v1 v2 z0) (va_cwS 2 C.1.2.2.2.2 gX0_putLast_X0_bookOf rfl rfl rfl (by decide +kernel) ⟨Nat.le_trans (Nat.le_of_ble_eq_true rfl) C.2.2.2.2.1, Nat.le_trans (Nat.le_of_ble_eq_true rfl) C.2.2.2.2.2⟩) rfl hl.1 rfl (Nat.le_of_ble_eq_true rfl) dX0_putLast_18 (fun v4 z3 _ _ h hP hS => ?_)
  refine lv_istore_n (lv' := [(2, .int v4), (0, .ref (ad 3)), (1, .int a1)]) hx hb dX0_putLast_21 rfl hl (by decide) rfl (fun ls hl => ?_)
  refine lv_aload_n hx hb dX0_putLast_22 rfl (lv_at hl 1 rfl) ?_
  refine b_getr C hP iX0_putLast_X0 3 (wH_3 cI cJ cZ ad z3) rfl 2 (by decide) fX0_putLast_i15 rfl rfl dX0_putLast_23 ?_
  refine lv_iload_n hx hb dX0_putLast_26 rfl (lv_at hl 0 rfl) ?_
  refine b_iald C hP h 24 (wH_24 cI cJ cZ ad z3) 0 rfl dX0_putLast_27 (fun v5 h => ?_)
  refine lv_bipush (v := 100) hx hb dX0_putLast_28 (by decide) ?_
  refine lv_icmp_lt (tgt := 34) hx hb dX0_putLast_30 (by decide) (fun c1 => ?_) (fun c1 => ?_)
  · replace h := (ite_h h).1 c1
    refine lv_aload_n hx hb dX0_putLast_34 rfl (lv_at hl 1 rfl) ?_
    refine b_getr C hP iX0_putLast_X0 3 (wH_3 cI cJ cZ ad z3) rfl 0 (by decide) fX0_putLast_i18 rfl rfl dX0_putLast_35 ?_
    refine b_getr C hP iX0_putLast_X2 2 (wH_2 cI cJ cZ ad z3) rfl 2 (by decide) fX0_putLast_i27 rfl rfl dX0_putLast_38 ?_
    refine lv_iload_n hx hb dX0_putLast_41 rfl (lv_at hl 2 rfl) ?_
    refine b_iald C hP h 14 (wH_14 cI cJ cZ ad z3) 0 rfl dX0_putLast_42 (fun v6 h => ?_)
    refine lv_if_ne (tgt := 50) hx hb dX0_putLast_43 (by decide) (fun c1 => ?_) (fun c1 => ?_)
    · replace h := (ite_h h).2 c1
      refine lv_iconst (v := -1) hx hb dX0_putLast_50 (by decide) ?_
      exact wX0_putLast_51 C hR N a1 v4 ((-1)) z3 h hP hS (lv_sub hl [1, 2, 0] rfl)
    · replace h := (ite_h h).1 c1
      refine lv_iconst (v := 1) hx hb dX0_putLast_46 (by decide) ?_
      refine lv_goto (tgt := 51) hx hb dX0_putLast_47 (by decide) ?_
      exact wX0_putLast_51 C hR N a1 v4 1 z3 h hP hS (lv_sub hl [1, 2, 0] rfl)
  · replace h := (ite_h h).2 c1
    exact hR 33 _ _ _ _ (Option.some.inj h).symm dX0_putLast_33 hP hS
theorem mX0_putLast (l : Launch) (D : va_G) (cI cJ cZ : ClassId) (ad : Nat → Nat) (N : Nat) (a1 : Int32) (z0 : SH) : ∀ (q : (Unit × SH)) (sz : Nat), fX0_putLast N a1 z0 = some q → Met l yX0_putLast wsX0_putLast rmX0_putLast (cP D vwCl (tyl cI cJ cZ) (wH cI cJ cZ ad z0) sz [.ref (ad 3), .int a1]) (cQv D vwCl (wH cI cJ cZ ad) z0 sz q) 0 0 (va_A (wH cI cJ cZ ad z0) sz) := by
  intro q sz h
  refine ofW_v (cc := cX0_putLast) (maxL := 7) (by decide) rfl (wH_same cI cJ cZ ad) (Nat.le_of_ble_eq_true rfl) (fun p e s m below meth c ls hsz C hR hP hl => ?_)
  exact wX0_putLast C hR N a1 z0 h hP va_S.rf hl
abbrev rmX4_rest : Room := { frames := 2, cells := 0, slots := 0, locals := 47 }
theorem fX4_rest_i126 : Cond.fieldLink RX4 126 (TX2 6).1 (TX2 6).2.1 (TX2 6).2.2.1 ∈ wsX4_rest := by decide +kernel
theorem fX4_rest_i139 : Cond.fieldLink RX4 139 (TX2 7).1 (TX2 7).2.1 (TX2 7).2.2.1 ∈ wsX4_rest := by decide +kernel
theorem fX4_rest_i19 : Cond.fieldLink RX4 19 (TX4 1).1 (TX4 1).2.1 (TX4 1).2.2.1 ∈ wsX4_rest := by decide +kernel
theorem fX4_rest_i201 : Cond.fieldLink RX4 201 (TX2 8).1 (TX2 8).2.1 (TX2 8).2.2.1 ∈ wsX4_rest := by decide +kernel
theorem fX4_rest_i28 : Cond.fieldLink RX4 28 (TX4 2).1 (TX4 2).2.1 (TX4 2).2.2.1 ∈ wsX4_rest := by decide +kernel
theorem fX4_rest_i291 : Cond.fieldLink RX4 291 (TX2 3).1 (TX2 3).2.1 (TX2 3).2.2.1 ∈ wsX4_rest := by decide +kernel
theorem fX4_rest_i341 : Cond.fieldLink RX4 341 (TX2 5).1 (TX2 5).2.1 (TX2 5).2.2.1 ∈ wsX4_rest := by decide +kernel
theorem iX4_rest_X2 : ∀ x ∈ wsX20, x ∈ wsX4_rest := by decide +kernel
theorem iX4_rest_X4 : ∀ x ∈ wsX40, x ∈ wsX4_rest := by decide +kernel
theorem lX4_rest_142 : Cond.methodLink RX4 142 Lib.Math.min.name ∈ wsX4_rest := by decide +kernel
theorem lcX4_rest_min : Cond.code Lib.Math.min.name Lib.Math.min.code 2 (some .int) ∈ wsX4_rest := by decide +kernel
theorem liX4_rest : Cond.initialized "java/lang/Math" ∈ wsX4_rest := by decide +kernel
theorem lsX4_rest_min : Cond.static Lib.Math.min.name ∈ wsX4_rest := by decide +kernel
set_option maxRecDepth 100000 in
set_option maxHeartbeats 4000000 in
theorem wX4_rest_48 {p : Program} {l : Launch} {e : Env} {R : Room} {s : State} {m : MethodId} {args : Array Value} {below : List Frame} {meth : Method} {c : Code} {Q : State → Prop} {D : va_G} {cI cJ cZ : ClassId} {ad : Nat → Nat} {A : Nat → Prop} (C : Cx p s m args c cX4_rest 3 wsX4_rest RX4 D vwCl (tyl cI cJ cZ) (wH cI cJ cZ ad) A R 2 47) {r : (Unit × SH)} (hR : Rv p l e R s m args below meth c cX4_rest D vwCl (wH cI cJ cZ ad) A Q r) (N : Nat) (x1 : Int32) (t0 : Int32) (t1 : Int32) (z0 : SH) {H : Heap} {locs : List Loc} {ls : Array Slot} (h : fX4_rest_48 N x1 t0 t1 z0 = some r) (hP : va_P D vwCl (wH cI cJ cZ ad z0) H) (hS : va_S A s.heap H locs) (hl : lv_has ls 3 [(0, .ref (ad 0)), (1, .int x1)]) : W p l e R s m args below meth c H locs 0 0 Q (F0 m 48 ls [.int t0, .int t1, .ref (ad 19)]) := by
  unfold fX4_rest_48 at h
  have hx := C.1.1
  have hb := C.1.2.1
  refine b_iast C hP hS h 19 (wH_19 cI cJ cZ ad z0) 0 rfl (wH_s19 cI cJ cZ ad z0 _ _) dX4_rest_48 (fun z1 _ _ h hP hS => ?_)
  refine lv_aload_n hx hb dX4_rest_49 rfl (lv_at hl 0 rfl) ?_
  refine b_getr C hP iX4_rest_X4 0 (wH_0 cI cJ cZ ad z1) rfl 1 (by decide) fX4_rest_i19 rfl rfl dX4_rest_50 ?_
  refine b_getr C hP iX4_rest_X2 2 (wH_2 cI cJ cZ ad z1) rfl 8 (by decide) fX4_rest_i201 rfl rfl dX4_rest_53 ?_
  refine lv_iload_n hx hb dX4_rest_56 rfl (lv_at hl 1 rfl) ?_
  refine lv_iconst (v := 0) hx hb dX4_rest_57 (by decide) ?_
  refine b_iast C hP hS h 20 (wH_20 cI cJ cZ ad z1) 0 rfl (wH_s20 cI cJ cZ ad z1 _ _) dX4_rest_58 (fun z2 _ _ h hP hS => ?_)
  refine lv_aload_n hx hb dX4_rest_59 rfl (lv_at hl 0 rfl) ?_
  refine b_getr C hP iX4_rest_X4 0 (wH_0 cI cJ cZ ad z2) rfl 2 (by decide) fX4_rest_i28 rfl rfl dX4_rest_60 ?_
  refine lv_iload_n hx hb dX4_rest_63 rfl (lv_at hl 1 rfl) ?_
  refine b_callVv (As := [.int x1]) (rest := []) C hP hS h (mX0_putLast l D cI cJ cZ ad N x1 z2) (cwV 1 C.1.2.2.2.2 gX4_rest_X0_putLast rfl rfl rfl (by decide +kernel) ⟨Nat.le_trans (Nat.le_of_ble_eq_true rfl) C.2.2.2.2.1, Nat.le_trans (Nat.le_of_ble_eq_true rfl) C.2.2.2.2.2⟩) (va_recv C.2.1 hP (ci := 0) (q0 := 3) rfl (wH_3 cI cJ cZ ad z2)) rfl hl.1 rfl (Nat.le_of_ble_eq_true rfl) dX4_rest_64 (fun _ z3 _ _ h hP hS => ?_)
  exact hR 67 _ _ _ _ (Option.some.inj h).symm dX4_rest_67 hP hS
set_option maxRecDepth 100000 in
set_option maxHeartbeats 4000000 in
theorem wX4_rest {p : Program} {l : Launch} {e : Env} {R : Room} {s : State} {m : MethodId} {args : Array Value} {below : List Frame} {meth : Method} {c : Code} {Q : State → Prop} {D : va_G} {cI cJ cZ : ClassId} {ad : Nat → Nat} {A : Nat → Prop} (C : Cx p s m args c cX4_rest 3 wsX4_rest RX4 D vwCl (tyl cI cJ cZ) (wH cI cJ cZ ad) A R 2 47) {r : (Unit × SH)} (hR : Rv p l e R s m args below meth c cX4_rest D vwCl (wH cI cJ cZ ad) A Q r) (N : Nat) (a1 : Int32) (z0 : SH) {H : Heap} {locs : List Loc} {ls : Array Slot} (h : fX4_rest N a1 z0 = some r) (hP : va_P D vwCl (wH cI cJ cZ ad z0) H) (hS : va_S A s.heap H locs) (hl : lv_has ls 3 [(0, .ref (ad 0)), (1, .int a1)]) : W p l e R s m args below meth c H locs 0 0 Q (F0 m 0 ls []) := by
  unfold fX4_rest at h
  have hx := C.1.1
  have hb := C.1.2.1
  refine lv_aload_n hx hb dX4_rest_0 rfl (lv_at hl 0 rfl) ?_
  refine b_getr C hP iX4_rest_X4 0 (wH_0 cI cJ cZ ad z0) rfl 1 (by decide) fX4_rest_i19 rfl rfl dX4_rest_1 ?_
  refine b_getr C hP iX4_rest_X2 2 (wH_2 cI cJ cZ ad z0) rfl 6 (by decide) fX4_rest_i126 rfl rfl dX4_rest_4 ?_
  refine lv_iload_n hx hb dX4_rest_7 rfl (lv_at hl 1 rfl) ?_
  refine b_iald C hP h 18 (wH_18 cI cJ cZ ad z0) 0 rfl dX4_rest_8 (fun v1 h => ?_)
  refine lv_istore_n (lv' := [(2, .int v1), (0, .ref (ad 0)), (1, .int a1)]) hx hb dX4_rest_9 rfl hl (by decide) rfl (fun ls hl => ?_)
  refine lv_aload_n hx hb dX4_rest_10 rfl (lv_at hl 1 rfl) ?_
  refine b_getr C hP iX4_rest_X4 0 (wH_0 cI cJ cZ ad z0) rfl 1 (by decide) fX4_rest_i19 rfl rfl dX4_rest_11 ?_
  refine b_getr C hP iX4_rest_X2 2 (wH_2 cI cJ cZ ad z0) rfl 7 (by decide) fX4_rest_i139 rfl rfl dX4_rest_14 ?_
  refine lv_iload_n hx hb dX4_rest_17 rfl (lv_at hl 2 rfl) ?_
  refine lv_aload_n hx hb dX4_rest_18 rfl (lv_at hl 1 rfl) ?_
  refine b_getr C hP iX4_rest_X4 0 (wH_0 cI cJ cZ ad z0) rfl 1 (by decide) fX4_rest_i19 rfl rfl dX4_rest_19 ?_
  refine b_getr C hP iX4_rest_X2 2 (wH_2 cI cJ cZ ad z0) rfl 3 (by decide) fX4_rest_i291 rfl rfl dX4_rest_22 ?_
  refine lv_iload_n hx hb dX4_rest_25 rfl (lv_at hl 2 rfl) ?_
  refine b_iald C hP h 15 (wH_15 cI cJ cZ ad z0) 0 rfl dX4_rest_26 (fun v2 h => ?_)
  refine lv_iconst (v := 4) hx hb dX4_rest_27 (by decide) ?_
  refine lv_icmp_ne (tgt := 47) hx hb dX4_rest_28 (by decide) (fun c1 => ?_) (fun c1 => ?_)
  · replace h := (ite_h h).2 c1
    refine lv_iload_n hx hb dX4_rest_47 rfl (lv_at hl 0 rfl) ?_
    exact wX4_rest_48 C hR N a1 v1 a1 z0 h hP hS (lv_sub hl [1, 2] rfl)
  · replace h := (ite_h h).1 c1
    refine lv_aload_n hx hb dX4_rest_31 rfl (lv_at hl 1 rfl) ?_
    refine b_getr C hP iX4_rest_X4 0 (wH_0 cI cJ cZ ad z0) rfl 1 (by decide) fX4_rest_i19 rfl rfl dX4_rest_32 ?_
    refine b_getr C hP iX4_rest_X2 2 (wH_2 cI cJ cZ ad z0) rfl 5 (by decide) fX4_rest_i341 rfl rfl dX4_rest_35 ?_
    refine lv_iload_n hx hb dX4_rest_38 rfl (lv_at hl 2 rfl) ?_
    refine b_iald C hP h 17 (wH_17 cI cJ cZ ad z0) 0 rfl dX4_rest_39 (fun v3 h => ?_)
    refine lv_iload_n hx hb dX4_rest_40 rfl (lv_at hl 0 rfl) ?_
    refine va_mmin hx hb (C.1.2.2.1.trans hl.1.symm) C.1.2.2.2.1 (C.1.2.2.2.2 _ lX4_rest_142) (C.1.2.2.2.2 _ lsX4_rest_min) (C.1.2.2.2.2 _ liX4_rest) (C.1.2.2.2.2 _ lcX4_rest_min) (Nat.le_trans (Nat.le_of_ble_eq_true rfl) C.2.2.2.2.1) (Nat.le_trans (Nat.le_of_ble_eq_true rfl) C.2.2.2.2.2) (Nat.zero_le _) (Nat.zero_le _) dX4_rest_41 ?_
    refine lv_goto (tgt := 48) hx hb dX4_rest_44 (by decide) ?_
    exact wX4_rest_48 C hR N a1 (if v1 < v3 then v1 else v3) a1 z0 h hP hS (lv_sub hl [1, 2] rfl)
theorem mX4_rest (l : Launch) (D : va_G) (cI cJ cZ : ClassId) (ad : Nat → Nat) (N : Nat) (a1 : Int32) (z0 : SH) : ∀ (q : (Unit × SH)) (sz : Nat), fX4_rest N a1 z0 = some q → Met l yX4_rest wsX4_rest rmX4_rest (cP D vwCl (tyl cI cJ cZ) (wH cI cJ cZ ad z0) sz [.ref (ad 0), .int a1]) (cQv D vwCl (wH cI cJ cZ ad) z0 sz q) 0 0 (va_A (wH cI cJ cZ ad z0) sz) := by
  intro q sz h
  refine ofW_v (cc := cX4_rest) (maxL := 3) (by decide) rfl (wH_same cI cJ cZ ad) (Nat.le_of_ble_eq_true rfl) (fun p e s m below meth c ls hsz C hR hP hl => ?_)
  exact wX4_rest C hR N a1 z0 h hP va_S.rf hl
abbrev rmX1_handOver : Room := { frames := 1, cells := 0, slots := 0, locals := 21 }
theorem fX1_handOver_i18 : Cond.fieldLink RX1 18 (TX1 2).1 (TX1 2).2.1 (TX1 2).2.2.1 ∈ wsX1_handOver := by decide +kernel
theorem fX1_handOver_i25 : Cond.fieldLink RX1 25 (TX1 4).1 (TX1 4).2.1 (TX1 4).2.2.1 ∈ wsX1_handOver := by decide +kernel
theorem fX1_handOver_i28 : Cond.fieldLink RX1 28 (TX1 5).1 (TX1 5).2.1 (TX1 5).2.2.1 ∈ wsX1_handOver := by decide +kernel
theorem fX1_handOver_i9 : Cond.fieldLink RX1 9 (TX1 0).1 (TX1 0).2.1 (TX1 0).2.2.1 ∈ wsX1_handOver := by decide +kernel
theorem iX1_handOver_X1 : ∀ x ∈ wsX10, x ∈ wsX1_handOver := by decide +kernel
set_option maxRecDepth 100000 in
set_option maxHeartbeats 4000000 in
theorem wX1_handOver {p : Program} {l : Launch} {e : Env} {R : Room} {s : State} {m : MethodId} {args : Array Value} {below : List Frame} {meth : Method} {c : Code} {Q : State → Prop} {D : va_G} {cI cJ cZ : ClassId} {ad : Nat → Nat} {A : Nat → Prop} (C : Cx p s m args c cX1_handOver 10 wsX1_handOver RX1 D vwCl (tyl cI cJ cZ) (wH cI cJ cZ ad) A R 1 21) {r : (Unit × SH)} (hR : Rv p l e R s m args below meth c cX1_handOver D vwCl (wH cI cJ cZ ad) A Q r) (a1 : Int32) (a2 : Int32) (a3 : Int32) (a4 : Int32) (a5 : Int32) (z0 : SH) {H : Heap} {locs : List Loc} {ls : Array Slot} (h : fX1_handOver a1 a2 a3 a4 a5 z0 = some r) (hP : va_P D vwCl (wH cI cJ cZ ad z0) H) (hS : va_S A s.heap H locs) (hl : lv_has ls 10 [(0, .ref (ad 1)), (1, .int a1), (2, .int a2), (3, .int a3), (4, .int a4), (5, .int a5)]) : W p l e R s m args below meth c H locs 0 0 Q (F0 m 0 ls []) := by
  unfold fX1_handOver at h
  have hx := C.1.1
  have hb := C.1.2.1
  refine lv_iload hx hb dX1_handOver_0 (lv_at hl 4 rfl) ?_
  refine lv_i2l hx hb dX1_handOver_2 rfl ?_
  refine lv_iload hx hb dX1_handOver_3 (lv_at hl 5 rfl) ?_
  refine lv_i2l hx hb dX1_handOver_5 rfl ?_
  refine lv_lmul hx hb dX1_handOver_6 ?_
  refine lv_lstore (lv' := [(6, .long ((a4.toInt64) * (a5.toInt64))), (0, .ref (ad 1)), (1, .int a1), (2, .int a2), (3, .int a3), (4, .int a4), (5, .int a5)]) hx hb dX1_handOver_7 hl (by decide) rfl (fun ls hl => ?_)
  refine lv_aload_n hx hb dX1_handOver_9 rfl (lv_at hl 1 rfl) ?_
  refine b_getr C hP iX1_handOver_X1 1 (wH_1 cI cJ cZ ad z0) rfl 0 (by decide) fX1_handOver_i9 rfl rfl dX1_handOver_10 ?_
  refine lv_iload_n hx hb dX1_handOver_13 rfl (lv_at hl 2 rfl) ?_
  refine lv_dup2_11 hx hb dX1_handOver_14 rfl rfl ?_
  refine b_lald C hP h 5 (wH_5 cI cJ cZ ad z0) 1 rfl dX1_handOver_15 (fun v1 h => ?_)
  refine lv_lload hx hb dX1_handOver_16 (lv_at hl 0 rfl) ?_
  refine lv_lsub hx hb dX1_handOver_18 ?_
  refine b_last C hP hS h 5 (wH_5 cI cJ cZ ad z0) 1 rfl (wH_s5 cI cJ cZ ad z0 _ _) dX1_handOver_19 (fun z2 _ _ h hP hS => ?_)
  refine lv_aload_n hx hb dX1_handOver_20 rfl (lv_at hl 1 rfl) ?_
  refine b_getr C hP iX1_handOver_X1 1 (wH_1 cI cJ cZ ad z2) rfl 0 (by decide) fX1_handOver_i9 rfl rfl dX1_handOver_21 ?_
  refine lv_iload_n hx hb dX1_handOver_24 rfl (lv_at hl 3 rfl) ?_
  refine lv_dup2_11 hx hb dX1_handOver_25 rfl rfl ?_
  refine b_lald C hP h 5 (wH_5 cI cJ cZ ad z2) 1 rfl dX1_handOver_26 (fun v3 h => ?_)
  refine lv_lload hx hb dX1_handOver_27 (lv_at hl 0 rfl) ?_
  refine lv_ladd hx hb dX1_handOver_29 ?_
  refine b_last C hP hS h 5 (wH_5 cI cJ cZ ad z2) 1 rfl (wH_s5 cI cJ cZ ad z2 _ _) dX1_handOver_30 (fun z4 _ _ h hP hS => ?_)
  refine lv_iload_n hx hb dX1_handOver_31 rfl (lv_at hl 2 rfl) ?_
  refine lv_iload_n hx hb dX1_handOver_32 rfl (lv_at hl 4 rfl) ?_
  refine b_callSi (As := [.int a1, .int a3]) (rest := []) C hP hS h (mX1_placeOf l D cI cJ cZ ad a1 a3 z4) (va_cwS 2 C.1.2.2.2.2 gX1_handOver_X1_placeOf rfl rfl rfl (by decide +kernel) ⟨Nat.le_trans (Nat.le_of_ble_eq_true rfl) C.2.2.2.2.1, Nat.le_trans (Nat.le_of_ble_eq_true rfl) C.2.2.2.2.2⟩) rfl hl.1 rfl (Nat.le_of_ble_eq_true rfl) dX1_handOver_33 (fun v6 z5 _ _ h hP hS => ?_)
  refine lv_istore (lv' := [(8, .int v6), (6, .long ((a4.toInt64) * (a5.toInt64))), (0, .ref (ad 1)), (1, .int a1), (2, .int a2), (3, .int a3), (4, .int a4), (5, .int a5)]) hx hb dX1_handOver_36 hl (by decide) rfl (fun ls hl => ?_)
  refine lv_iload_n hx hb dX1_handOver_38 rfl (lv_at hl 4 rfl) ?_
  refine lv_iload_n hx hb dX1_handOver_39 rfl (lv_at hl 5 rfl) ?_
  refine b_callSi (As := [.int a2, .int a3]) (rest := []) C hP hS h (mX1_placeOf l D cI cJ cZ ad a2 a3 z5) (va_cwS 2 C.1.2.2.2.2 gX1_handOver_X1_placeOf rfl rfl rfl (by decide +kernel) ⟨Nat.le_trans (Nat.le_of_ble_eq_true rfl) C.2.2.2.2.1, Nat.le_trans (Nat.le_of_ble_eq_true rfl) C.2.2.2.2.2⟩) rfl hl.1 rfl (Nat.le_of_ble_eq_true rfl) dX1_handOver_40 (fun v8 z7 _ _ h hP hS => ?_)
  refine lv_istore (lv' := [(9, .int v8), (8, .int v6), (6, .long ((a4.toInt64) * (a5.toInt64))), (0, .ref (ad 1)), (1, .int a1), (2, .int a2), (3, .int a3), (4, .int a4), (5, .int a5)]) hx hb dX1_handOver_43 hl (by decide) rfl (fun ls hl => ?_)
  refine lv_aload_n hx hb dX1_handOver_45 rfl (lv_at hl 3 rfl) ?_
  refine b_getr C hP iX1_handOver_X1 1 (wH_1 cI cJ cZ ad z7) rfl 2 (by decide) fX1_handOver_i18 rfl rfl dX1_handOver_46 ?_
  refine lv_iload hx hb dX1_handOver_49 (lv_at hl 1 rfl) ?_
  refine lv_dup2_11 hx hb dX1_handOver_51 rfl rfl ?_
  refine b_iald C hP h 7 (wH_7 cI cJ cZ ad z7) 0 rfl dX1_handOver_52 (fun v9 h => ?_)
  refine lv_iload hx hb dX1_handOver_53 (lv_at hl 8 rfl) ?_
  refine lv_iadd hx hb dX1_handOver_55 ?_
  refine b_iast C hP hS h 7 (wH_7 cI cJ cZ ad z7) 0 rfl (wH_s7 cI cJ cZ ad z7 _ _) dX1_handOver_56 (fun z10 _ _ h hP hS => ?_)
  refine lv_aload_n hx hb dX1_handOver_57 rfl (lv_at hl 3 rfl) ?_
  refine b_getr C hP iX1_handOver_X1 1 (wH_1 cI cJ cZ ad z10) rfl 4 (by decide) fX1_handOver_i25 rfl rfl dX1_handOver_58 ?_
  refine lv_iload hx hb dX1_handOver_61 (lv_at hl 1 rfl) ?_
  refine lv_dup2_11 hx hb dX1_handOver_63 rfl rfl ?_
  refine b_iald C hP h 9 (wH_9 cI cJ cZ ad z10) 0 rfl dX1_handOver_64 (fun v11 h => ?_)
  refine lv_iload hx hb dX1_handOver_65 (lv_at hl 8 rfl) ?_
  refine lv_iadd hx hb dX1_handOver_67 ?_
  refine b_iast C hP hS h 9 (wH_9 cI cJ cZ ad z10) 0 rfl (wH_s9 cI cJ cZ ad z10 _ _) dX1_handOver_68 (fun z12 _ _ h hP hS => ?_)
  refine lv_aload_n hx hb dX1_handOver_69 rfl (lv_at hl 3 rfl) ?_
  refine b_getr C hP iX1_handOver_X1 1 (wH_1 cI cJ cZ ad z12) rfl 2 (by decide) fX1_handOver_i18 rfl rfl dX1_handOver_70 ?_
  refine lv_iload hx hb dX1_handOver_73 (lv_at hl 0 rfl) ?_
  refine lv_dup2_11 hx hb dX1_handOver_75 rfl rfl ?_
  refine b_iald C hP h 7 (wH_7 cI cJ cZ ad z12) 0 rfl dX1_handOver_76 (fun v13 h => ?_)
  refine lv_iload hx hb dX1_handOver_77 (lv_at hl 8 rfl) ?_
  refine lv_isub hx hb dX1_handOver_79 ?_
  refine b_iast C hP hS h 7 (wH_7 cI cJ cZ ad z12) 0 rfl (wH_s7 cI cJ cZ ad z12 _ _) dX1_handOver_80 (fun z14 _ _ h hP hS => ?_)
  refine lv_aload_n hx hb dX1_handOver_81 rfl (lv_at hl 3 rfl) ?_
  refine b_getr C hP iX1_handOver_X1 1 (wH_1 cI cJ cZ ad z14) rfl 5 (by decide) fX1_handOver_i28 rfl rfl dX1_handOver_82 ?_
  refine lv_iload hx hb dX1_handOver_85 (lv_at hl 0 rfl) ?_
  refine lv_dup2_11 hx hb dX1_handOver_87 rfl rfl ?_
  refine b_iald C hP h 10 (wH_10 cI cJ cZ ad z14) 0 rfl dX1_handOver_88 (fun v15 h => ?_)
  refine lv_iload hx hb dX1_handOver_89 (lv_at hl 8 rfl) ?_
  refine lv_iadd hx hb dX1_handOver_91 ?_
  refine b_iast C hP hS h 10 (wH_10 cI cJ cZ ad z14) 0 rfl (wH_s10 cI cJ cZ ad z14 _ _) dX1_handOver_92 (fun z16 _ _ h hP hS => ?_)
  exact hR 93 _ _ _ _ (Option.some.inj h).symm dX1_handOver_93 hP hS
theorem mX1_handOver (l : Launch) (D : va_G) (cI cJ cZ : ClassId) (ad : Nat → Nat) (a1 : Int32) (a2 : Int32) (a3 : Int32) (a4 : Int32) (a5 : Int32) (z0 : SH) : ∀ (q : (Unit × SH)) (sz : Nat), fX1_handOver a1 a2 a3 a4 a5 z0 = some q → Met l yX1_handOver wsX1_handOver rmX1_handOver (cP D vwCl (tyl cI cJ cZ) (wH cI cJ cZ ad z0) sz [.ref (ad 1), .int a1, .int a2, .int a3, .int a4, .int a5]) (cQv D vwCl (wH cI cJ cZ ad) z0 sz q) 0 0 (va_A (wH cI cJ cZ ad z0) sz) := by
  intro q sz h
  refine ofW_v (cc := cX1_handOver) (maxL := 10) (by decide) rfl (wH_same cI cJ cZ ad) (Nat.le_of_ble_eq_true rfl) (fun p e s m below meth c ls hsz C hR hP hl => ?_)
  exact wX1_handOver C hR a1 a2 a3 a4 a5 z0 h hP va_S.rf hl
abbrev rmX2_fill : Room := { frames := 0, cells := 0, slots := 0, locals := 0 }
theorem fX2_fill_i30 : Cond.fieldLink RX2 30 (TX2 6).1 (TX2 6).2.1 (TX2 6).2.2.1 ∈ wsX2_fill := by decide +kernel
theorem fX2_fill_i42 : Cond.fieldLink RX2 42 (TX2 10).1 (TX2 10).2.1 (TX2 10).2.2.1 ∈ wsX2_fill := by decide +kernel
theorem iX2_fill_X2 : ∀ x ∈ wsX20, x ∈ wsX2_fill := by decide +kernel
set_option maxRecDepth 100000 in
set_option maxHeartbeats 4000000 in
theorem wX2_fill {p : Program} {l : Launch} {e : Env} {R : Room} {s : State} {m : MethodId} {args : Array Value} {below : List Frame} {meth : Method} {c : Code} {Q : State → Prop} {D : va_G} {cI cJ cZ : ClassId} {ad : Nat → Nat} {A : Nat → Prop} (C : Cx p s m args c cX2_fill 3 wsX2_fill RX2 D vwCl (tyl cI cJ cZ) (wH cI cJ cZ ad) A R 0 0) {r : (Unit × SH)} (hR : Rv p l e R s m args below meth c cX2_fill D vwCl (wH cI cJ cZ ad) A Q r) (a1 : Int32) (a2 : Int32) (z0 : SH) {H : Heap} {locs : List Loc} {ls : Array Slot} (h : fX2_fill a1 a2 z0 = some r) (hP : va_P D vwCl (wH cI cJ cZ ad z0) H) (hS : va_S A s.heap H locs) (hl : lv_has ls 3 [(0, .ref (ad 2)), (1, .int a1), (2, .int a2)]) : W p l e R s m args below meth c H locs 0 0 Q (F0 m 0 ls []) := by
  unfold fX2_fill at h
  have hx := C.1.1
  have hb := C.1.2.1
  refine lv_aload_n hx hb dX2_fill_0 rfl (lv_at hl 0 rfl) ?_
  refine b_getr C hP iX2_fill_X2 2 (wH_2 cI cJ cZ ad z0) rfl 6 (by decide) fX2_fill_i30 rfl rfl dX2_fill_1 ?_
  refine lv_iload_n hx hb dX2_fill_4 rfl (lv_at hl 1 rfl) ?_
  refine lv_dup2_11 hx hb dX2_fill_5 rfl rfl ?_
  refine b_iald C hP h 18 (wH_18 cI cJ cZ ad z0) 0 rfl dX2_fill_6 (fun v1 h => ?_)
  refine lv_iload_n hx hb dX2_fill_7 rfl (lv_at hl 2 rfl) ?_
  refine lv_isub hx hb dX2_fill_8 ?_
  refine b_iast C hP hS h 18 (wH_18 cI cJ cZ ad z0) 0 rfl (wH_s18 cI cJ cZ ad z0 _ _) dX2_fill_9 (fun z2 _ _ h hP hS => ?_)
  refine lv_aload_n hx hb dX2_fill_10 rfl (lv_at hl 0 rfl) ?_
  refine b_getr C hP iX2_fill_X2 2 (wH_2 cI cJ cZ ad z2) rfl 10 (by decide) fX2_fill_i42 rfl rfl dX2_fill_11 ?_
  refine lv_iload_n hx hb dX2_fill_14 rfl (lv_at hl 1 rfl) ?_
  refine lv_dup2_11 hx hb dX2_fill_15 rfl rfl ?_
  refine b_iald C hP h 22 (wH_22 cI cJ cZ ad z2) 0 rfl dX2_fill_16 (fun v3 h => ?_)
  refine lv_iload_n hx hb dX2_fill_17 rfl (lv_at hl 2 rfl) ?_
  refine lv_iadd hx hb dX2_fill_18 ?_
  refine b_iast C hP hS h 22 (wH_22 cI cJ cZ ad z2) 0 rfl (wH_s22 cI cJ cZ ad z2 _ _) dX2_fill_19 (fun z4 _ _ h hP hS => ?_)
  exact hR 20 _ _ _ _ (Option.some.inj h).symm dX2_fill_20 hP hS
theorem mX2_fill (l : Launch) (D : va_G) (cI cJ cZ : ClassId) (ad : Nat → Nat) (a1 : Int32) (a2 : Int32) (z0 : SH) : ∀ (q : (Unit × SH)) (sz : Nat), fX2_fill a1 a2 z0 = some q → Met l yX2_fill wsX2_fill rmX2_fill (cP D vwCl (tyl cI cJ cZ) (wH cI cJ cZ ad z0) sz [.ref (ad 2), .int a1, .int a2]) (cQv D vwCl (wH cI cJ cZ ad) z0 sz q) 0 0 (va_A (wH cI cJ cZ ad z0) sz) := by
  intro q sz h
  refine ofW_v (cc := cX2_fill) (maxL := 3) (by decide) rfl (wH_same cI cJ cZ ad) (Nat.le_of_ble_eq_true rfl) (fun p e s m below meth c ls hsz C hR hP hl => ?_)
  exact wX2_fill C hR a1 a2 z0 h hP va_S.rf hl
abbrev rmX3_note : Room := { frames := 1, cells := 0, slots := 0, locals := 21 }
theorem fX3_note_i15 : Cond.fieldLink RX3 15 (TX3 1).1 (TX3 1).2.1 (TX3 1).2.2.1 ∈ wsX3_note := by decide +kernel
theorem fX3_note_i18 : Cond.fieldLink RX3 18 (TX3 2).1 (TX3 2).2.1 (TX3 2).2.2.1 ∈ wsX3_note := by decide +kernel
theorem fX3_note_i21 : Cond.fieldLink RX3 21 (TX3 3).1 (TX3 3).2.1 (TX3 3).2.2.1 ∈ wsX3_note := by decide +kernel
theorem fX3_note_i24 : Cond.fieldLink RX3 24 (TX3 4).1 (TX3 4).2.1 (TX3 4).2.2.1 ∈ wsX3_note := by decide +kernel
theorem fX3_note_i27 : Cond.fieldLink RX3 27 (TX3 5).1 (TX3 5).2.1 (TX3 5).2.2.1 ∈ wsX3_note := by decide +kernel
theorem fX3_note_i30 : Cond.fieldLink RX3 30 (TX3 6).1 (TX3 6).2.1 (TX3 6).2.2.1 ∈ wsX3_note := by decide +kernel
theorem fX3_note_i33 : Cond.fieldLink RX3 33 (TX3 7).1 (TX3 7).2.1 (TX3 7).2.2.1 ∈ wsX3_note := by decide +kernel
theorem fX3_note_i36 : Cond.fieldLink RX3 36 (TX3 8).1 (TX3 8).2.1 (TX3 8).2.2.1 ∈ wsX3_note := by decide +kernel
theorem fX3_note_i9 : Cond.fieldLink RX3 9 (TX3 0).1 (TX3 0).2.1 (TX3 0).2.2.1 ∈ wsX3_note := by decide +kernel
theorem iX3_note_X3 : ∀ x ∈ wsX30, x ∈ wsX3_note := by decide +kernel
theorem lX3_note_40 : Cond.methodLink RX3 40 Lib.Math.min.name ∈ wsX3_note := by decide +kernel
theorem lX3_note_46 : Cond.methodLink RX3 46 Lib.Math.max.name ∈ wsX3_note := by decide +kernel
theorem lcX3_note_max : Cond.code Lib.Math.max.name Lib.Math.max.code 2 (some .int) ∈ wsX3_note := by decide +kernel
theorem lcX3_note_min : Cond.code Lib.Math.min.name Lib.Math.min.code 2 (some .int) ∈ wsX3_note := by decide +kernel
theorem liX3_note : Cond.initialized "java/lang/Math" ∈ wsX3_note := by decide +kernel
theorem lsX3_note_max : Cond.static Lib.Math.max.name ∈ wsX3_note := by decide +kernel
theorem lsX3_note_min : Cond.static Lib.Math.min.name ∈ wsX3_note := by decide +kernel
set_option maxRecDepth 100000 in
set_option maxHeartbeats 4000000 in
theorem wX3_note_92 {p : Program} {l : Launch} {e : Env} {R : Room} {s : State} {m : MethodId} {args : Array Value} {below : List Frame} {meth : Method} {c : Code} {Q : State → Prop} {D : va_G} {cI cJ cZ : ClassId} {ad : Nat → Nat} {A : Nat → Prop} (C : Cx p s m args c cX3_note 6 wsX3_note RX3 D vwCl (tyl cI cJ cZ) (wH cI cJ cZ ad) A R 1 21) {r : (Unit × SH)} (hR : Rv p l e R s m args below meth c cX3_note D vwCl (wH cI cJ cZ ad) A Q r) (x1 : Int32) (x4 : Int32) (x5 : Int32) (t0 : Int32) (t1 : Int32) (z0 : SH) {H : Heap} {locs : List Loc} {ls : Array Slot} (h : fX3_note_92 x1 x4 x5 t0 t1 z0 = some r) (hP : va_P D vwCl (wH cI cJ cZ ad z0) H) (hS : va_S A s.heap H locs) (hl : lv_has ls 6 [(0, .ref (ad 4)), (1, .int x1), (4, .int x4), (5, .int x5)]) : W p l e R s m args below meth c H locs 0 0 Q (F0 m 92 ls [.int t0, .int t1, .ref (ad 31)]) := by
  unfold fX3_note_92 at h
  have hx := C.1.1
  have hb := C.1.2.1
  refine b_iast C hP hS h 31 (wH_31 cI cJ cZ ad z0) 0 rfl (wH_s31 cI cJ cZ ad z0 _ _) dX3_note_92 (fun z1 _ _ h hP hS => ?_)
  refine lv_aload_n hx hb dX3_note_93 rfl (lv_at hl 0 rfl) ?_
  refine b_getr C hP iX3_note_X3 4 (wH_4 cI cJ cZ ad z1) rfl 5 (by decide) fX3_note_i27 rfl rfl dX3_note_94 ?_
  refine lv_iload_n hx hb dX3_note_97 rfl (lv_at hl 1 rfl) ?_
  refine lv_aload_n hx hb dX3_note_98 rfl (lv_at hl 0 rfl) ?_
  refine b_getr C hP iX3_note_X3 4 (wH_4 cI cJ cZ ad z1) rfl 5 (by decide) fX3_note_i27 rfl rfl dX3_note_99 ?_
  refine lv_iload_n hx hb dX3_note_102 rfl (lv_at hl 1 rfl) ?_
  refine b_iald C hP h 30 (wH_30 cI cJ cZ ad z1) 0 rfl dX3_note_103 (fun v2 h => ?_)
  refine lv_iload hx hb dX3_note_104 (lv_at hl 2 rfl) ?_
  refine va_mmax hx hb (C.1.2.2.1.trans hl.1.symm) C.1.2.2.2.1 (C.1.2.2.2.2 _ lX3_note_46) (C.1.2.2.2.2 _ lsX3_note_max) (C.1.2.2.2.2 _ liX3_note) (C.1.2.2.2.2 _ lcX3_note_max) (Nat.le_trans (Nat.le_of_ble_eq_true rfl) C.2.2.2.2.1) (Nat.le_trans (Nat.le_of_ble_eq_true rfl) C.2.2.2.2.2) (Nat.zero_le _) (Nat.zero_le _) dX3_note_106 ?_
  refine b_iast C hP hS h 30 (wH_30 cI cJ cZ ad z1) 0 rfl (wH_s30 cI cJ cZ ad z1 _ _) dX3_note_109 (fun z3 _ _ h hP hS => ?_)
  refine lv_aload_n hx hb dX3_note_110 rfl (lv_at hl 0 rfl) ?_
  refine b_getr C hP iX3_note_X3 4 (wH_4 cI cJ cZ ad z3) rfl 4 (by decide) fX3_note_i24 rfl rfl dX3_note_111 ?_
  refine lv_iload_n hx hb dX3_note_114 rfl (lv_at hl 1 rfl) ?_
  refine lv_iload hx hb dX3_note_115 (lv_at hl 2 rfl) ?_
  refine b_iast C hP hS h 29 (wH_29 cI cJ cZ ad z3) 0 rfl (wH_s29 cI cJ cZ ad z3 _ _) dX3_note_117 (fun z4 _ _ h hP hS => ?_)
  refine lv_aload_n hx hb dX3_note_118 rfl (lv_at hl 0 rfl) ?_
  refine b_getr C hP iX3_note_X3 4 (wH_4 cI cJ cZ ad z4) rfl 7 (by decide) fX3_note_i33 rfl rfl dX3_note_119 ?_
  refine lv_iload_n hx hb dX3_note_122 rfl (lv_at hl 1 rfl) ?_
  refine lv_dup2_11 hx hb dX3_note_123 rfl rfl ?_
  refine b_iald C hP h 32 (wH_32 cI cJ cZ ad z4) 0 rfl dX3_note_124 (fun v5 h => ?_)
  refine lv_iload hx hb dX3_note_125 (lv_at hl 3 rfl) ?_
  refine lv_iadd hx hb dX3_note_127 ?_
  refine b_iast C hP hS h 32 (wH_32 cI cJ cZ ad z4) 0 rfl (wH_s32 cI cJ cZ ad z4 _ _) dX3_note_128 (fun z6 _ _ h hP hS => ?_)
  exact hR 129 _ _ _ _ (Option.some.inj h).symm dX3_note_129 hP hS
set_option maxRecDepth 100000 in
set_option maxHeartbeats 4000000 in
theorem wX3_note_52 {p : Program} {l : Launch} {e : Env} {R : Room} {s : State} {m : MethodId} {args : Array Value} {below : List Frame} {meth : Method} {c : Code} {Q : State → Prop} {D : va_G} {cI cJ cZ : ClassId} {ad : Nat → Nat} {A : Nat → Prop} (C : Cx p s m args c cX3_note 6 wsX3_note RX3 D vwCl (tyl cI cJ cZ) (wH cI cJ cZ ad) A R 1 21) {r : (Unit × SH)} (hR : Rv p l e R s m args below meth c cX3_note D vwCl (wH cI cJ cZ ad) A Q r) (x1 : Int32) (x4 : Int32) (x5 : Int32) (z0 : SH) {H : Heap} {locs : List Loc} {ls : Array Slot} (h : fX3_note_52 x1 x4 x5 z0 = some r) (hP : va_P D vwCl (wH cI cJ cZ ad z0) H) (hS : va_S A s.heap H locs) (hl : lv_has ls 6 [(0, .ref (ad 4)), (1, .int x1), (4, .int x4), (5, .int x5)]) : W p l e R s m args below meth c H locs 0 0 Q (F0 m 52 ls []) := by
  unfold fX3_note_52 at h
  have hx := C.1.1
  have hb := C.1.2.1
  refine lv_aload_n hx hb dX3_note_52 rfl (lv_at hl 0 rfl) ?_
  refine lv_dup hx hb dX3_note_53 rfl ?_
  refine b_geti C hP h iX3_note_X3 4 (wH_4 cI cJ cZ ad z0) rfl 8 (by decide) fX3_note_i36 rfl rfl dX3_note_54 (fun v1 h => ?_)
  refine lv_iconst (v := 1) hx hb dX3_note_57 (by decide) ?_
  refine lv_iadd hx hb dX3_note_58 ?_
  refine b_puti C hP hS h iX3_note_X3 tyX3 tyX3_ok nmX3 4 (wH_4 cI cJ cZ ad z0) rfl 8 (by decide) fX3_note_i36 rfl rfl rfl (Nat.le_of_ble_eq_true rfl) (wH_si4 cI cJ cZ ad z0 _) dX3_note_59 (fun z2 _ _ h hP hS => ?_)
  refine lv_aload_n hx hb dX3_note_62 rfl (lv_at hl 0 rfl) ?_
  refine b_getr C hP iX3_note_X3 4 (wH_4 cI cJ cZ ad z2) rfl 6 (by decide) fX3_note_i30 rfl rfl dX3_note_63 ?_
  refine lv_iload_n hx hb dX3_note_66 rfl (lv_at hl 1 rfl) ?_
  refine lv_aload_n hx hb dX3_note_67 rfl (lv_at hl 0 rfl) ?_
  refine b_getr C hP iX3_note_X3 4 (wH_4 cI cJ cZ ad z2) rfl 4 (by decide) fX3_note_i24 rfl rfl dX3_note_68 ?_
  refine lv_iload_n hx hb dX3_note_71 rfl (lv_at hl 1 rfl) ?_
  refine b_iald C hP h 29 (wH_29 cI cJ cZ ad z2) 0 rfl dX3_note_72 (fun v3 h => ?_)
  refine lv_if_ne (tgt := 81) hx hb dX3_note_73 (by decide) (fun c1 => ?_) (fun c1 => ?_)
  · replace h := (ite_h h).2 c1
    refine lv_aload_n hx hb dX3_note_81 rfl (lv_at hl 0 rfl) ?_
    refine b_getr C hP iX3_note_X3 4 (wH_4 cI cJ cZ ad z2) rfl 6 (by decide) fX3_note_i30 rfl rfl dX3_note_82 ?_
    refine lv_iload_n hx hb dX3_note_85 rfl (lv_at hl 1 rfl) ?_
    refine b_iald C hP h 31 (wH_31 cI cJ cZ ad z2) 0 rfl dX3_note_86 (fun v4 h => ?_)
    refine lv_iload hx hb dX3_note_87 (lv_at hl 2 rfl) ?_
    refine va_mmin hx hb (C.1.2.2.1.trans hl.1.symm) C.1.2.2.2.1 (C.1.2.2.2.2 _ lX3_note_40) (C.1.2.2.2.2 _ lsX3_note_min) (C.1.2.2.2.2 _ liX3_note) (C.1.2.2.2.2 _ lcX3_note_min) (Nat.le_trans (Nat.le_of_ble_eq_true rfl) C.2.2.2.2.1) (Nat.le_trans (Nat.le_of_ble_eq_true rfl) C.2.2.2.2.2) (Nat.zero_le _) (Nat.zero_le _) dX3_note_89 ?_
    exact wX3_note_92 C hR x1 x4 x5 (if x4 < v4 then x4 else v4) x1 z2 h hP hS (lv_sub hl [0, 1, 2, 3] rfl)
  · replace h := (ite_h h).1 c1
    refine lv_iload hx hb dX3_note_76 (lv_at hl 2 rfl) ?_
    refine lv_goto (tgt := 92) hx hb dX3_note_78 (by decide) ?_
    exact wX3_note_92 C hR x1 x4 x5 x4 x1 z2 h hP hS (lv_sub hl [0, 1, 2, 3] rfl)
set_option maxRecDepth 100000 in
set_option maxHeartbeats 4000000 in
theorem wX3_note {p : Program} {l : Launch} {e : Env} {R : Room} {s : State} {m : MethodId} {args : Array Value} {below : List Frame} {meth : Method} {c : Code} {Q : State → Prop} {D : va_G} {cI cJ cZ : ClassId} {ad : Nat → Nat} {A : Nat → Prop} (C : Cx p s m args c cX3_note 6 wsX3_note RX3 D vwCl (tyl cI cJ cZ) (wH cI cJ cZ ad) A R 1 21) {r : (Unit × SH)} (hR : Rv p l e R s m args below meth c cX3_note D vwCl (wH cI cJ cZ ad) A Q r) (a1 : Int32) (a2 : Int32) (a3 : Int32) (a4 : Int32) (a5 : Int32) (z0 : SH) {H : Heap} {locs : List Loc} {ls : Array Slot} (h : fX3_note a1 a2 a3 a4 a5 z0 = some r) (hP : va_P D vwCl (wH cI cJ cZ ad z0) H) (hS : va_S A s.heap H locs) (hl : lv_has ls 6 [(0, .ref (ad 4)), (1, .int a1), (2, .int a2), (3, .int a3), (4, .int a4), (5, .int a5)]) : W p l e R s m args below meth c H locs 0 0 Q (F0 m 0 ls []) := by
  unfold fX3_note at h
  have hx := C.1.1
  have hb := C.1.2.1
  refine lv_aload_n hx hb dX3_note_0 rfl (lv_at hl 0 rfl) ?_
  refine b_geti C hP h iX3_note_X3 4 (wH_4 cI cJ cZ ad z0) rfl 8 (by decide) fX3_note_i36 rfl rfl dX3_note_1 (fun v1 h => ?_)
  refine lv_sipush (v := 300) hx hb dX3_note_4 (by decide) ?_
  refine lv_icmp_ge (tgt := 52) hx hb dX3_note_7 (by decide) (fun c1 => ?_) (fun c1 => ?_)
  · replace h := (ite_h h).1 c1
    exact wX3_note_52 C hR a1 a4 a5 z0 h hP hS (lv_sub hl [0, 1, 4, 5] rfl)
  · replace h := (ite_h h).2 c1
    refine lv_aload_n hx hb dX3_note_10 rfl (lv_at hl 0 rfl) ?_
    refine b_getr C hP iX3_note_X3 4 (wH_4 cI cJ cZ ad z0) rfl 0 (by decide) fX3_note_i9 rfl rfl dX3_note_11 ?_
    refine lv_aload_n hx hb dX3_note_14 rfl (lv_at hl 0 rfl) ?_
    refine b_geti C hP h iX3_note_X3 4 (wH_4 cI cJ cZ ad z0) rfl 8 (by decide) fX3_note_i36 rfl rfl dX3_note_15 (fun v2 h => ?_)
    refine lv_iload_n hx hb dX3_note_18 rfl (lv_at hl 2 rfl) ?_
    refine b_iast C hP hS h 25 (wH_25 cI cJ cZ ad z0) 0 rfl (wH_s25 cI cJ cZ ad z0 _ _) dX3_note_19 (fun z3 _ _ h hP hS => ?_)
    refine lv_aload_n hx hb dX3_note_20 rfl (lv_at hl 0 rfl) ?_
    refine b_getr C hP iX3_note_X3 4 (wH_4 cI cJ cZ ad z3) rfl 1 (by decide) fX3_note_i15 rfl rfl dX3_note_21 ?_
    refine lv_aload_n hx hb dX3_note_24 rfl (lv_at hl 0 rfl) ?_
    refine b_geti C hP h iX3_note_X3 4 (wH_4 cI cJ cZ ad z3) rfl 8 (by decide) fX3_note_i36 rfl rfl dX3_note_25 (fun v4 h => ?_)
    refine lv_iload_n hx hb dX3_note_28 rfl (lv_at hl 3 rfl) ?_
    refine b_iast C hP hS h 26 (wH_26 cI cJ cZ ad z3) 0 rfl (wH_s26 cI cJ cZ ad z3 _ _) dX3_note_29 (fun z5 _ _ h hP hS => ?_)
    refine lv_aload_n hx hb dX3_note_30 rfl (lv_at hl 0 rfl) ?_
    refine b_getr C hP iX3_note_X3 4 (wH_4 cI cJ cZ ad z5) rfl 2 (by decide) fX3_note_i18 rfl rfl dX3_note_31 ?_
    refine lv_aload_n hx hb dX3_note_34 rfl (lv_at hl 0 rfl) ?_
    refine b_geti C hP h iX3_note_X3 4 (wH_4 cI cJ cZ ad z5) rfl 8 (by decide) fX3_note_i36 rfl rfl dX3_note_35 (fun v6 h => ?_)
    refine lv_iload hx hb dX3_note_38 (lv_at hl 4 rfl) ?_
    refine b_iast C hP hS h 27 (wH_27 cI cJ cZ ad z5) 0 rfl (wH_s27 cI cJ cZ ad z5 _ _) dX3_note_40 (fun z7 _ _ h hP hS => ?_)
    refine lv_aload_n hx hb dX3_note_41 rfl (lv_at hl 0 rfl) ?_
    refine b_getr C hP iX3_note_X3 4 (wH_4 cI cJ cZ ad z7) rfl 3 (by decide) fX3_note_i21 rfl rfl dX3_note_42 ?_
    refine lv_aload_n hx hb dX3_note_45 rfl (lv_at hl 0 rfl) ?_
    refine b_geti C hP h iX3_note_X3 4 (wH_4 cI cJ cZ ad z7) rfl 8 (by decide) fX3_note_i36 rfl rfl dX3_note_46 (fun v8 h => ?_)
    refine lv_iload hx hb dX3_note_49 (lv_at hl 5 rfl) ?_
    refine b_iast C hP hS h 28 (wH_28 cI cJ cZ ad z7) 0 rfl (wH_s28 cI cJ cZ ad z7 _ _) dX3_note_51 (fun z9 _ _ h hP hS => ?_)
    exact wX3_note_52 C hR a1 a4 a5 z9 h hP hS (lv_sub hl [0, 1, 4, 5] rfl)
theorem mX3_note (l : Launch) (D : va_G) (cI cJ cZ : ClassId) (ad : Nat → Nat) (a1 : Int32) (a2 : Int32) (a3 : Int32) (a4 : Int32) (a5 : Int32) (z0 : SH) : ∀ (q : (Unit × SH)) (sz : Nat), fX3_note a1 a2 a3 a4 a5 z0 = some q → Met l yX3_note wsX3_note rmX3_note (cP D vwCl (tyl cI cJ cZ) (wH cI cJ cZ ad z0) sz [.ref (ad 4), .int a1, .int a2, .int a3, .int a4, .int a5]) (cQv D vwCl (wH cI cJ cZ ad) z0 sz q) 0 0 (va_A (wH cI cJ cZ ad z0) sz) := by
  intro q sz h
  refine ofW_v (cc := cX3_note) (maxL := 6) (by decide) rfl (wH_same cI cJ cZ ad) (Nat.le_of_ble_eq_true rfl) (fun p e s m below meth c ls hsz C hR hP hl => ?_)
  exact wX3_note C hR a1 a2 a3 a4 a5 z0 h hP va_S.rf hl
abbrev rmX4_makeTrade : Room := { frames := 2, cells := 0, slots := 0, locals := 50 }
theorem fX4_makeTrade_i10 : Cond.fieldLink RX4 10 (TX4 0).1 (TX4 0).2.1 (TX4 0).2.2.1 ∈ wsX4_makeTrade := by decide +kernel
theorem fX4_makeTrade_i169 : Cond.fieldLink RX4 169 (TX2 4).1 (TX2 4).2.1 (TX2 4).2.2.1 ∈ wsX4_makeTrade := by decide +kernel
theorem fX4_makeTrade_i19 : Cond.fieldLink RX4 19 (TX4 1).1 (TX4 1).2.1 (TX4 1).2.2.1 ∈ wsX4_makeTrade := by decide +kernel
theorem fX4_makeTrade_i198 : Cond.fieldLink RX4 198 (TX2 0).1 (TX2 0).2.1 (TX2 0).2.2.1 ∈ wsX4_makeTrade := by decide +kernel
theorem fX4_makeTrade_i211 : Cond.fieldLink RX4 211 (TX2 1).1 (TX2 1).2.1 (TX2 1).2.2.1 ∈ wsX4_makeTrade := by decide +kernel
theorem fX4_makeTrade_i214 : Cond.fieldLink RX4 214 (TX2 2).1 (TX2 2).2.1 (TX2 2).2.2.1 ∈ wsX4_makeTrade := by decide +kernel
theorem fX4_makeTrade_i35 : Cond.fieldLink RX4 35 (TX4 3).1 (TX4 3).2.1 (TX4 3).2.2.1 ∈ wsX4_makeTrade := by decide +kernel
theorem iX4_makeTrade_X2 : ∀ x ∈ wsX20, x ∈ wsX4_makeTrade := by decide +kernel
theorem iX4_makeTrade_X4 : ∀ x ∈ wsX40, x ∈ wsX4_makeTrade := by decide +kernel
set_option maxRecDepth 100000 in
set_option maxHeartbeats 4000000 in
theorem wX4_makeTrade_78 {p : Program} {l : Launch} {e : Env} {R : Room} {s : State} {m : MethodId} {args : Array Value} {below : List Frame} {meth : Method} {c : Code} {Q : State → Prop} {D : va_G} {cI cJ cZ : ClassId} {ad : Nat → Nat} {A : Nat → Prop} (C : Cx p s m args c cX4_makeTrade 9 wsX4_makeTrade RX4 D vwCl (tyl cI cJ cZ) (wH cI cJ cZ ad) A R 2 50) {r : (Unit × SH)} (hR : Rv p l e R s m args below meth c cX4_makeTrade D vwCl (wH cI cJ cZ ad) A Q r) (x1 : Int32) (x2 : Int32) (x3 : Int32) (x4 : Int32) (x5 : Int32) (x7 : Int32) (t0 : Int32) (z0 : SH) {H : Heap} {locs : List Loc} {ls : Array Slot} (h : fX4_makeTrade_78 x1 x2 x3 x4 x5 x7 t0 z0 = some r) (hP : va_P D vwCl (wH cI cJ cZ ad z0) H) (hS : va_S A s.heap H locs) (hl : lv_has ls 9 [(0, .ref (ad 0)), (1, .int x1), (2, .int x2), (3, .int x3), (4, .int x4), (5, .int x5), (7, .int x7)]) : W p l e R s m args below meth c H locs 0 0 Q (F0 m 78 ls [.int t0, .ref (ad 12)]) := by
  unfold fX4_makeTrade_78 at h
  have hx := C.1.1
  have hb := C.1.2.1
  refine b_iald C hP h 12 (wH_12 cI cJ cZ ad z0) 0 rfl dX4_makeTrade_78 (fun v1 h => ?_)
  refine lv_istore (lv' := [(8, .int v1), (0, .ref (ad 0)), (1, .int x1), (2, .int x2), (3, .int x3), (4, .int x4), (5, .int x5), (7, .int x7)]) hx hb dX4_makeTrade_79 hl (by decide) rfl (fun ls hl => ?_)
  refine lv_aload_n hx hb dX4_makeTrade_81 rfl (lv_at hl 1 rfl) ?_
  refine lv_iload_n hx hb dX4_makeTrade_82 rfl (lv_at hl 2 rfl) ?_
  refine lv_iload_n hx hb dX4_makeTrade_83 rfl (lv_at hl 4 rfl) ?_
  refine lv_ineg hx hb dX4_makeTrade_84 ?_
  refine b_callVv (As := [.int x1, .int (-x3)]) (rest := []) C hP hS h (mX4_hold l D cI cJ cZ ad x1 (-x3) z0) (cwV 2 C.1.2.2.2.2 gX4_makeTrade_X4_hold rfl rfl rfl (by decide +kernel) ⟨Nat.le_trans (Nat.le_of_ble_eq_true rfl) C.2.2.2.2.1, Nat.le_trans (Nat.le_of_ble_eq_true rfl) C.2.2.2.2.2⟩) (va_recv C.2.1 hP (ci := 4) (q0 := 0) rfl (wH_0 cI cJ cZ ad z0)) rfl hl.1 rfl (Nat.le_of_ble_eq_true rfl) dX4_makeTrade_85 (fun _ z2 _ _ h hP hS => ?_)
  refine lv_aload_n hx hb dX4_makeTrade_88 rfl (lv_at hl 1 rfl) ?_
  refine lv_iload_n hx hb dX4_makeTrade_89 rfl (lv_at hl 3 rfl) ?_
  refine lv_iload_n hx hb dX4_makeTrade_90 rfl (lv_at hl 4 rfl) ?_
  refine lv_ineg hx hb dX4_makeTrade_91 ?_
  refine b_callVv (As := [.int x2, .int (-x3)]) (rest := []) C hP hS h (mX4_hold l D cI cJ cZ ad x2 (-x3) z2) (cwV 2 C.1.2.2.2.2 gX4_makeTrade_X4_hold rfl rfl rfl (by decide +kernel) ⟨Nat.le_trans (Nat.le_of_ble_eq_true rfl) C.2.2.2.2.1, Nat.le_trans (Nat.le_of_ble_eq_true rfl) C.2.2.2.2.2⟩) (va_recv C.2.1 hP (ci := 4) (q0 := 0) rfl (wH_0 cI cJ cZ ad z2)) rfl hl.1 rfl (Nat.le_of_ble_eq_true rfl) dX4_makeTrade_92 (fun _ z3 _ _ h hP hS => ?_)
  refine lv_aload_n hx hb dX4_makeTrade_95 rfl (lv_at hl 1 rfl) ?_
  refine b_getr C hP iX4_makeTrade_X4 0 (wH_0 cI cJ cZ ad z3) rfl 0 (by decide) fX4_makeTrade_i10 rfl rfl dX4_makeTrade_96 ?_
  refine lv_iload hx hb dX4_makeTrade_99 (lv_at hl 7 rfl) ?_
  refine lv_iload hx hb dX4_makeTrade_101 (lv_at hl 0 rfl) ?_
  refine lv_iload hx hb dX4_makeTrade_103 (lv_at hl 6 rfl) ?_
  refine lv_iload hx hb dX4_makeTrade_105 (lv_at hl 5 rfl) ?_
  refine lv_iload_n hx hb dX4_makeTrade_107 rfl (lv_at hl 4 rfl) ?_
  refine b_callVv (As := [.int x7, .int v1, .int x5, .int x4, .int x3]) (rest := []) C hP hS h (mX1_handOver l D cI cJ cZ ad x7 v1 x5 x4 x3 z3) (cwV 5 C.1.2.2.2.2 gX4_makeTrade_X1_handOver rfl rfl rfl (by decide +kernel) ⟨Nat.le_trans (Nat.le_of_ble_eq_true rfl) C.2.2.2.2.1, Nat.le_trans (Nat.le_of_ble_eq_true rfl) C.2.2.2.2.2⟩) (va_recv C.2.1 hP (ci := 1) (q0 := 1) rfl (wH_1 cI cJ cZ ad z3)) rfl hl.1 rfl (Nat.le_of_ble_eq_true rfl) dX4_makeTrade_108 (fun _ z4 _ _ h hP hS => ?_)
  refine lv_aload_n hx hb dX4_makeTrade_111 rfl (lv_at hl 1 rfl) ?_
  refine b_getr C hP iX4_makeTrade_X4 0 (wH_0 cI cJ cZ ad z4) rfl 1 (by decide) fX4_makeTrade_i19 rfl rfl dX4_makeTrade_112 ?_
  refine lv_iload_n hx hb dX4_makeTrade_115 rfl (lv_at hl 2 rfl) ?_
  refine lv_iload_n hx hb dX4_makeTrade_116 rfl (lv_at hl 4 rfl) ?_
  refine b_callVv (As := [.int x1, .int x3]) (rest := []) C hP hS h (mX2_fill l D cI cJ cZ ad x1 x3 z4) (cwV 2 C.1.2.2.2.2 gX4_makeTrade_X2_fill rfl rfl rfl (by decide +kernel) ⟨Nat.le_trans (Nat.le_of_ble_eq_true rfl) C.2.2.2.2.1, Nat.le_trans (Nat.le_of_ble_eq_true rfl) C.2.2.2.2.2⟩) (va_recv C.2.1 hP (ci := 2) (q0 := 2) rfl (wH_2 cI cJ cZ ad z4)) rfl hl.1 rfl (Nat.le_of_ble_eq_true rfl) dX4_makeTrade_117 (fun _ z5 _ _ h hP hS => ?_)
  refine lv_aload_n hx hb dX4_makeTrade_120 rfl (lv_at hl 1 rfl) ?_
  refine b_getr C hP iX4_makeTrade_X4 0 (wH_0 cI cJ cZ ad z5) rfl 1 (by decide) fX4_makeTrade_i19 rfl rfl dX4_makeTrade_121 ?_
  refine lv_iload_n hx hb dX4_makeTrade_124 rfl (lv_at hl 3 rfl) ?_
  refine lv_iload_n hx hb dX4_makeTrade_125 rfl (lv_at hl 4 rfl) ?_
  refine b_callVv (As := [.int x2, .int x3]) (rest := []) C hP hS h (mX2_fill l D cI cJ cZ ad x2 x3 z5) (cwV 2 C.1.2.2.2.2 gX4_makeTrade_X2_fill rfl rfl rfl (by decide +kernel) ⟨Nat.le_trans (Nat.le_of_ble_eq_true rfl) C.2.2.2.2.1, Nat.le_trans (Nat.le_of_ble_eq_true rfl) C.2.2.2.2.2⟩) (va_recv C.2.1 hP (ci := 2) (q0 := 2) rfl (wH_2 cI cJ cZ ad z5)) rfl hl.1 rfl (Nat.le_of_ble_eq_true rfl) dX4_makeTrade_126 (fun _ z6 _ _ h hP hS => ?_)
  refine lv_aload_n hx hb dX4_makeTrade_129 rfl (lv_at hl 1 rfl) ?_
  refine b_getr C hP iX4_makeTrade_X4 0 (wH_0 cI cJ cZ ad z6) rfl 3 (by decide) fX4_makeTrade_i35 rfl rfl dX4_makeTrade_130 ?_
  refine lv_iload hx hb dX4_makeTrade_133 (lv_at hl 6 rfl) ?_
  refine lv_iload_n hx hb dX4_makeTrade_135 rfl (lv_at hl 2 rfl) ?_
  refine lv_iload_n hx hb dX4_makeTrade_136 rfl (lv_at hl 3 rfl) ?_
  refine lv_iload hx hb dX4_makeTrade_137 (lv_at hl 5 rfl) ?_
  refine lv_iload_n hx hb dX4_makeTrade_139 rfl (lv_at hl 4 rfl) ?_
  refine b_callVv (As := [.int x5, .int x1, .int x2, .int x4, .int x3]) (rest := []) C hP hS h (mX3_note l D cI cJ cZ ad x5 x1 x2 x4 x3 z6) (cwV 5 C.1.2.2.2.2 gX4_makeTrade_X3_note rfl rfl rfl (by decide +kernel) ⟨Nat.le_trans (Nat.le_of_ble_eq_true rfl) C.2.2.2.2.1, Nat.le_trans (Nat.le_of_ble_eq_true rfl) C.2.2.2.2.2⟩) (va_recv C.2.1 hP (ci := 3) (q0 := 4) rfl (wH_4 cI cJ cZ ad z6)) rfl hl.1 rfl (Nat.le_of_ble_eq_true rfl) dX4_makeTrade_140 (fun _ z7 _ _ h hP hS => ?_)
  exact hR 143 _ _ _ _ (Option.some.inj h).symm dX4_makeTrade_143 hP hS
set_option maxRecDepth 100000 in
set_option maxHeartbeats 4000000 in
theorem wX4_makeTrade_58 {p : Program} {l : Launch} {e : Env} {R : Room} {s : State} {m : MethodId} {args : Array Value} {below : List Frame} {meth : Method} {c : Code} {Q : State → Prop} {D : va_G} {cI cJ cZ : ClassId} {ad : Nat → Nat} {A : Nat → Prop} (C : Cx p s m args c cX4_makeTrade 9 wsX4_makeTrade RX4 D vwCl (tyl cI cJ cZ) (wH cI cJ cZ ad) A R 2 50) {r : (Unit × SH)} (hR : Rv p l e R s m args below meth c cX4_makeTrade D vwCl (wH cI cJ cZ ad) A Q r) (x1 : Int32) (x2 : Int32) (x3 : Int32) (x4 : Int32) (x5 : Int32) (x6 : Int32) (t0 : Int32) (z0 : SH) {H : Heap} {locs : List Loc} {ls : Array Slot} (h : fX4_makeTrade_58 x1 x2 x3 x4 x5 x6 t0 z0 = some r) (hP : va_P D vwCl (wH cI cJ cZ ad z0) H) (hS : va_S A s.heap H locs) (hl : lv_has ls 9 [(0, .ref (ad 0)), (1, .int x1), (2, .int x2), (3, .int x3), (4, .int x4), (5, .int x5), (6, .int x6)]) : W p l e R s m args below meth c H locs 0 0 Q (F0 m 58 ls [.int t0, .ref (ad 12)]) := by
  unfold fX4_makeTrade_58 at h
  have hx := C.1.1
  have hb := C.1.2.1
  refine b_iald C hP h 12 (wH_12 cI cJ cZ ad z0) 0 rfl dX4_makeTrade_58 (fun v1 h => ?_)
  refine lv_istore (lv' := [(7, .int v1), (0, .ref (ad 0)), (1, .int x1), (2, .int x2), (3, .int x3), (4, .int x4), (5, .int x5), (6, .int x6)]) hx hb dX4_makeTrade_59 hl (by decide) rfl (fun ls hl => ?_)
  refine lv_aload_n hx hb dX4_makeTrade_61 rfl (lv_at hl 1 rfl) ?_
  refine b_getr C hP iX4_makeTrade_X4 0 (wH_0 cI cJ cZ ad z0) rfl 1 (by decide) fX4_makeTrade_i19 rfl rfl dX4_makeTrade_62 ?_
  refine b_getr C hP iX4_makeTrade_X2 2 (wH_2 cI cJ cZ ad z0) rfl 0 (by decide) fX4_makeTrade_i198 rfl rfl dX4_makeTrade_65 ?_
  refine lv_iload hx hb dX4_makeTrade_68 (lv_at hl 7 rfl) ?_
  refine lv_if_eq (tgt := 77) hx hb dX4_makeTrade_70 (by decide) (fun c1 => ?_) (fun c1 => ?_)
  · replace h := (ite_h h).1 c1
    refine lv_iload_n hx hb dX4_makeTrade_77 rfl (lv_at hl 2 rfl) ?_
    exact wX4_makeTrade_78 C hR x1 x2 x3 x4 x5 v1 x1 z0 h hP hS (lv_sub hl [1, 2, 3, 4, 5, 6, 0] rfl)
  · replace h := (ite_h h).2 c1
    refine lv_iload_n hx hb dX4_makeTrade_73 rfl (lv_at hl 3 rfl) ?_
    refine lv_goto (tgt := 78) hx hb dX4_makeTrade_74 (by decide) ?_
    exact wX4_makeTrade_78 C hR x1 x2 x3 x4 x5 v1 x2 z0 h hP hS (lv_sub hl [1, 2, 3, 4, 5, 6, 0] rfl)
set_option maxRecDepth 100000 in
set_option maxHeartbeats 4000000 in
theorem wX4_makeTrade_39 {p : Program} {l : Launch} {e : Env} {R : Room} {s : State} {m : MethodId} {args : Array Value} {below : List Frame} {meth : Method} {c : Code} {Q : State → Prop} {D : va_G} {cI cJ cZ : ClassId} {ad : Nat → Nat} {A : Nat → Prop} (C : Cx p s m args c cX4_makeTrade 9 wsX4_makeTrade RX4 D vwCl (tyl cI cJ cZ) (wH cI cJ cZ ad) A R 2 50) {r : (Unit × SH)} (hR : Rv p l e R s m args below meth c cX4_makeTrade D vwCl (wH cI cJ cZ ad) A Q r) (x1 : Int32) (x2 : Int32) (x3 : Int32) (x4 : Int32) (x5 : Int32) (t0 : Int32) (z0 : SH) {H : Heap} {locs : List Loc} {ls : Array Slot} (h : fX4_makeTrade_39 x1 x2 x3 x4 x5 t0 z0 = some r) (hP : va_P D vwCl (wH cI cJ cZ ad z0) H) (hS : va_S A s.heap H locs) (hl : lv_has ls 9 [(0, .ref (ad 0)), (1, .int x1), (2, .int x2), (3, .int x3), (4, .int x4), (5, .int x5)]) : W p l e R s m args below meth c H locs 0 0 Q (F0 m 39 ls [.int t0]) := by
  unfold fX4_makeTrade_39 at h
  have hx := C.1.1
  have hb := C.1.2.1
  refine lv_istore (lv' := [(6, .int t0), (0, .ref (ad 0)), (1, .int x1), (2, .int x2), (3, .int x3), (4, .int x4), (5, .int x5)]) hx hb dX4_makeTrade_39 hl (by decide) rfl (fun ls hl => ?_)
  refine lv_aload_n hx hb dX4_makeTrade_41 rfl (lv_at hl 1 rfl) ?_
  refine b_getr C hP iX4_makeTrade_X4 0 (wH_0 cI cJ cZ ad z0) rfl 1 (by decide) fX4_makeTrade_i19 rfl rfl dX4_makeTrade_42 ?_
  refine b_getr C hP iX4_makeTrade_X2 2 (wH_2 cI cJ cZ ad z0) rfl 0 (by decide) fX4_makeTrade_i198 rfl rfl dX4_makeTrade_45 ?_
  refine lv_iload hx hb dX4_makeTrade_48 (lv_at hl 0 rfl) ?_
  refine lv_if_eq (tgt := 57) hx hb dX4_makeTrade_50 (by decide) (fun c1 => ?_) (fun c1 => ?_)
  · replace h := (ite_h h).1 c1
    refine lv_iload_n hx hb dX4_makeTrade_57 rfl (lv_at hl 3 rfl) ?_
    exact wX4_makeTrade_58 C hR x1 x2 x3 x4 x5 t0 x2 z0 h hP hS (lv_sub hl [1, 2, 3, 4, 5, 6, 0] rfl)
  · replace h := (ite_h h).2 c1
    refine lv_iload_n hx hb dX4_makeTrade_53 rfl (lv_at hl 2 rfl) ?_
    refine lv_goto (tgt := 58) hx hb dX4_makeTrade_54 (by decide) ?_
    exact wX4_makeTrade_58 C hR x1 x2 x3 x4 x5 t0 x1 z0 h hP hS (lv_sub hl [1, 2, 3, 4, 5, 6, 0] rfl)
set_option maxRecDepth 100000 in
set_option maxHeartbeats 4000000 in
theorem wX4_makeTrade {p : Program} {l : Launch} {e : Env} {R : Room} {s : State} {m : MethodId} {args : Array Value} {below : List Frame} {meth : Method} {c : Code} {Q : State → Prop} {D : va_G} {cI cJ cZ : ClassId} {ad : Nat → Nat} {A : Nat → Prop} (C : Cx p s m args c cX4_makeTrade 9 wsX4_makeTrade RX4 D vwCl (tyl cI cJ cZ) (wH cI cJ cZ ad) A R 2 50) {r : (Unit × SH)} (hR : Rv p l e R s m args below meth c cX4_makeTrade D vwCl (wH cI cJ cZ ad) A Q r) (a1 : Int32) (a2 : Int32) (a3 : Int32) (z0 : SH) {H : Heap} {locs : List Loc} {ls : Array Slot} (h : fX4_makeTrade a1 a2 a3 z0 = some r) (hP : va_P D vwCl (wH cI cJ cZ ad z0) H) (hS : va_S A s.heap H locs) (hl : lv_has ls 9 [(0, .ref (ad 0)), (1, .int a1), (2, .int a2), (3, .int a3)]) : W p l e R s m args below meth c H locs 0 0 Q (F0 m 0 ls []) := by
  unfold fX4_makeTrade at h
  have hx := C.1.1
  have hb := C.1.2.1
  refine lv_aload_n hx hb dX4_makeTrade_0 rfl (lv_at hl 0 rfl) ?_
  refine b_getr C hP iX4_makeTrade_X4 0 (wH_0 cI cJ cZ ad z0) rfl 1 (by decide) fX4_makeTrade_i19 rfl rfl dX4_makeTrade_1 ?_
  refine b_getr C hP iX4_makeTrade_X2 2 (wH_2 cI cJ cZ ad z0) rfl 4 (by decide) fX4_makeTrade_i169 rfl rfl dX4_makeTrade_4 ?_
  refine lv_iload_n hx hb dX4_makeTrade_7 rfl (lv_at hl 2 rfl) ?_
  refine b_iald C hP h 16 (wH_16 cI cJ cZ ad z0) 0 rfl dX4_makeTrade_8 (fun v1 h => ?_)
  refine lv_istore (lv' := [(4, .int v1), (0, .ref (ad 0)), (1, .int a1), (2, .int a2), (3, .int a3)]) hx hb dX4_makeTrade_9 hl (by decide) rfl (fun ls hl => ?_)
  refine lv_aload_n hx hb dX4_makeTrade_11 rfl (lv_at hl 1 rfl) ?_
  refine b_getr C hP iX4_makeTrade_X4 0 (wH_0 cI cJ cZ ad z0) rfl 1 (by decide) fX4_makeTrade_i19 rfl rfl dX4_makeTrade_12 ?_
  refine b_getr C hP iX4_makeTrade_X2 2 (wH_2 cI cJ cZ ad z0) rfl 1 (by decide) fX4_makeTrade_i211 rfl rfl dX4_makeTrade_15 ?_
  refine lv_iload_n hx hb dX4_makeTrade_18 rfl (lv_at hl 3 rfl) ?_
  refine b_iald C hP h 13 (wH_13 cI cJ cZ ad z0) 0 rfl dX4_makeTrade_19 (fun v2 h => ?_)
  refine lv_istore (lv' := [(5, .int v2), (4, .int v1), (0, .ref (ad 0)), (1, .int a1), (2, .int a2), (3, .int a3)]) hx hb dX4_makeTrade_20 hl (by decide) rfl (fun ls hl => ?_)
  refine lv_aload_n hx hb dX4_makeTrade_22 rfl (lv_at hl 2 rfl) ?_
  refine b_getr C hP iX4_makeTrade_X4 0 (wH_0 cI cJ cZ ad z0) rfl 1 (by decide) fX4_makeTrade_i19 rfl rfl dX4_makeTrade_23 ?_
  refine b_getr C hP iX4_makeTrade_X2 2 (wH_2 cI cJ cZ ad z0) rfl 2 (by decide) fX4_makeTrade_i214 rfl rfl dX4_makeTrade_26 ?_
  refine lv_iload_n hx hb dX4_makeTrade_29 rfl (lv_at hl 3 rfl) ?_
  refine b_iald C hP h 14 (wH_14 cI cJ cZ ad z0) 0 rfl dX4_makeTrade_30 (fun v3 h => ?_)
  refine lv_if_ne (tgt := 38) hx hb dX4_makeTrade_31 (by decide) (fun c1 => ?_) (fun c1 => ?_)
  · replace h := (ite_h h).2 c1
    refine lv_iconst (v := 0) hx hb dX4_makeTrade_38 (by decide) ?_
    exact wX4_makeTrade_39 C hR a1 a2 a3 v1 v2 0 z0 h hP hS (lv_sub hl [2, 3, 4, 5, 1, 0] rfl)
  · replace h := (ite_h h).1 c1
    refine lv_iconst (v := 1) hx hb dX4_makeTrade_34 (by decide) ?_
    refine lv_goto (tgt := 39) hx hb dX4_makeTrade_35 (by decide) ?_
    exact wX4_makeTrade_39 C hR a1 a2 a3 v1 v2 1 z0 h hP hS (lv_sub hl [2, 3, 4, 5, 1, 0] rfl)
theorem mX4_makeTrade (l : Launch) (D : va_G) (cI cJ cZ : ClassId) (ad : Nat → Nat) (a1 : Int32) (a2 : Int32) (a3 : Int32) (z0 : SH) : ∀ (q : (Unit × SH)) (sz : Nat), fX4_makeTrade a1 a2 a3 z0 = some q → Met l yX4_makeTrade wsX4_makeTrade rmX4_makeTrade (cP D vwCl (tyl cI cJ cZ) (wH cI cJ cZ ad z0) sz [.ref (ad 0), .int a1, .int a2, .int a3]) (cQv D vwCl (wH cI cJ cZ ad) z0 sz q) 0 0 (va_A (wH cI cJ cZ ad z0) sz) := by
  intro q sz h
  refine ofW_v (cc := cX4_makeTrade) (maxL := 9) (by decide) rfl (wH_same cI cJ cZ ad) (Nat.le_of_ble_eq_true rfl) (fun p e s m below meth c ls hsz C hR hP hl => ?_)
  exact wX4_makeTrade C hR a1 a2 a3 z0 h hP va_S.rf hl
