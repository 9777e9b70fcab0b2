abbrev rmX4_needAccount : Room := { frames := 6, cells := 0, slots := 0, locals := 82 }
theorem tX4_needAccount_11 : tSite wsX4_needAccount RX4 cX4_needAccount 11 "java/lang/IndexOutOfBoundsException" := ⟨179, 277, 183, "there is no such account", by decide +kernel, by decide +kernel, rfl, by decide +kernel, by decide +kernel, by decide +kernel, by decide +kernel, by decide +kernel, by decide +kernel, dX4_needAccount_11, dX4_needAccount_14, Or.inr ⟨dX4_needAccount_15, dX4_needAccount_18, dX4_needAccount_21⟩⟩
set_option maxRecDepth 100000 in
set_option maxHeartbeats 4000000 in
theorem wX4_needAccount_11 {p : Program} {l : Launch} {e : Env} {R : Room} {s : State} {m : MethodId} {args : Array Value} {below : List Frame} {meth : Method} {c : Code} {Q : State → Prop} {D : va_G} {cI cJ cZ : ClassId} {ad : Nat → Nat} {A : Nat → Prop} {sx : Nat → Nat} (C : Cx p s m args c cX4_needAccount 1 wsX4_needAccount RX4 D vwCl (tyl cI cJ cZ) (wH cI cJ cZ ad) A R 6 82) {r : ((String ⊕ Unit) × SH)} (hR : Xv p l e R s m args below meth c cX4_needAccount D vwCl (wH cI cJ cZ ad) A Q r) (hT : ThK p l e R s m args below meth c cX4_needAccount 1 wsX4_needAccount RX4 D vwCl (tyl cI cJ cZ) (wH cI cJ cZ ad) A Q r sx) (z0 : SH) {H : Heap} {locs : List Loc} {ls : Array Slot} (h : fX4_needAccount_11 z0 = some r) (hP : va_P D vwCl (wH cI cJ cZ ad z0) H) (hS : va_S A s.heap H locs) (hl : lv_has ls 1 []) : W p l e R s m args below meth c H locs 0 0 Q (F0 m 11 ls []) := by
  unfold fX4_needAccount_11 at h
  have hx := C.1.1
  have hb := C.1.2.1
  exact hT.1 11 _ _ _ _ (Option.some.inj h).symm hP hS hl.1 (Or.inl tX4_needAccount_11)
set_option maxRecDepth 100000 in
set_option maxHeartbeats 4000000 in
theorem wX4_needAccount {p : Program} {l : Launch} {e : Env} {R : Room} {s : State} {m : MethodId} {args : Array Value} {below : List Frame} {meth : Method} {c : Code} {Q : State → Prop} {D : va_G} {cI cJ cZ : ClassId} {ad : Nat → Nat} {A : Nat → Prop} {sx : Nat → Nat} (C : Cx p s m args c cX4_needAccount 1 wsX4_needAccount RX4 D vwCl (tyl cI cJ cZ) (wH cI cJ cZ ad) A R 6 82) {r : ((String ⊕ Unit) × SH)} (hR : Xv p l e R s m args below meth c cX4_needAccount D vwCl (wH cI cJ cZ ad) A Q r) (hT : ThK p l e R s m args below meth c cX4_needAccount 1 wsX4_needAccount RX4 D vwCl (tyl cI cJ cZ) (wH cI cJ cZ ad) A Q r sx) (a1 : Int32) (z0 : SH) {H : Heap} {locs : List Loc} {ls : Array Slot} (h : fX4_needAccount a1 z0 = some r) (hP : va_P D vwCl (wH cI cJ cZ ad z0) H) (hS : va_S A s.heap H locs) (hl : lv_has ls 1 [(0, .int a1)]) : W p l e R s m args below meth c H locs 0 0 Q (F0 m 0 ls []) := by
  unfold fX4_needAccount at h
  have hx := C.1.1
  have hb := C.1.2.1
  refine lv_iload_n hx hb dX4_needAccount_0 rfl (lv_at hl 0 rfl) ?_
  refine lv_if_lt (tgt := 11) hx hb dX4_needAccount_1 (by decide) (fun c1 => ?_) (fun c1 => ?_)
  · replace h := (ite_h h).1 c1
    exact wX4_needAccount_11 C hR hT z0 h hP hS (lv_sub hl [] rfl)
  · replace h := (ite_h h).2 c1
    refine lv_iload_n hx hb dX4_needAccount_4 rfl (lv_at hl 0 rfl) ?_
    refine lv_sipush (v := 512) hx hb dX4_needAccount_5 (by decide) ?_
    refine lv_icmp_lt (tgt := 22) hx hb dX4_needAccount_8 (by decide) (fun c1 => ?_) (fun c1 => ?_)
    · replace h := (ite_h h).1 c1
      exact hR 22 _ _ _ _ (Option.some.inj h).symm dX4_needAccount_22 hP hS
    · replace h := (ite_h h).2 c1
      exact wX4_needAccount_11 C hR hT z0 h hP hS (lv_sub hl [] rfl)
theorem mX4_needAccount (l : Launch) (D : va_G) (cI cJ cZ : ClassId) (ad : Nat → Nat) (a1 : Int32) (z0 : SH) : ∀ (q : Unit × SH) (sz : Nat), fX4_needAccount a1 z0 = some (.inr q.1, q.2) → Met l yX4_needAccount wsX4_needAccount rmX4_needAccount (cP D vwCl (tyl cI cJ cZ) (wH cI cJ cZ ad z0) sz [.int a1]) (cQv D vwCl (wH cI cJ cZ ad) z0 sz q) 0 0 (va_A (wH cI cJ cZ ad z0) sz) := by
  intro q sz h
  refine ofW_v (cc := cX4_needAccount) (maxL := 1) (by decide) rfl (wH_same cI cJ cZ ad) (Nat.le_of_ble_eq_true rfl) (fun p e s m below meth c ls hsz C hR hP hl => ?_)
  exact wX4_needAccount (sx := fun _ => 0) C (Xv_of hR) ThK_no a1 z0 h hP va_S.rf hl
theorem nX4_needAccount (l : Launch) (hl0 : l.stackTraces = false) (D : va_G) (cI cJ cZ : ClassId) (ad sx : Nat → Nat) (a1 : Int32) (z0 : SH) : ∀ (E : String) (z1 : SH) (sz : Nat), fX4_needAccount a1 z0 = some (.inl E, z1) → vx_Met l yX4_needAccount wsX4_needAccount (rmX rmX4_needAccount) (cPX (thX sx) D vwCl (tyl cI cJ cZ) (wH cI cJ cZ ad z0) sz [.int a1]) (cQno) (cXX D vwCl (wH cI cJ cZ ad) z0 sz E z1) 1 6 (va_A (wH cI cJ cZ ad z0) sz) := by
  intro E z1 sz h
  refine ofX (α := Unit) (cc := cX4_needAccount) (maxL := 1) (by decide) rfl (wH_same cI cJ cZ ad) (Nat.le_of_ble_eq_true rfl) hl0 ⟨Nat.le_of_ble_eq_true rfl, Nat.le_of_ble_eq_true rfl⟩ (fun p e s m below meth c ls hsz C hT hP hl => ?_)
  exact wX4_needAccount C Xv_no hT a1 z0 h hP va_S.rf hl
abbrev rmX4_needWithin : Room := { frames := 6, cells := 0, slots := 0, locals := 82 }
theorem tX4_needWithin_10 : tSite wsX4_needWithin RX4 cX4_needWithin 10 "java/lang/IllegalArgumentException" := ⟨132, 283, 136, "a number is not as said", by decide +kernel, by decide +kernel, rfl, by decide +kernel, by decide +kernel, by decide +kernel, by decide +kernel, by decide +kernel, by decide +kernel, dX4_needWithin_10, dX4_needWithin_13, Or.inr ⟨dX4_needWithin_14, dX4_needWithin_17, dX4_needWithin_20⟩⟩
set_option maxRecDepth 100000 in
set_option maxHeartbeats 4000000 in
theorem wX4_needWithin_10 {p : Program} {l : Launch} {e : Env} {R : Room} {s : State} {m : MethodId} {args : Array Value} {below : List Frame} {meth : Method} {c : Code} {Q : State → Prop} {D : va_G} {cI cJ cZ : ClassId} {ad : Nat → Nat} {A : Nat → Prop} {sx : Nat → Nat} (C : Cx p s m args c cX4_needWithin 3 wsX4_needWithin RX4 D vwCl (tyl cI cJ cZ) (wH cI cJ cZ ad) A R 6 82) {r : ((String ⊕ Unit) × SH)} (hR : Xv p l e R s m args below meth c cX4_needWithin D vwCl (wH cI cJ cZ ad) A Q r) (hT : ThK p l e R s m args below meth c cX4_needWithin 3 wsX4_needWithin RX4 D vwCl (tyl cI cJ cZ) (wH cI cJ cZ ad) A Q r sx) (z0 : SH) {H : Heap} {locs : List Loc} {ls : Array Slot} (h : fX4_needWithin_10 z0 = some r) (hP : va_P D vwCl (wH cI cJ cZ ad z0) H) (hS : va_S A s.heap H locs) (hl : lv_has ls 3 []) : W p l e R s m args below meth c H locs 0 0 Q (F0 m 10 ls []) := by
  unfold fX4_needWithin_10 at h
  have hx := C.1.1
  have hb := C.1.2.1
  exact hT.1 10 _ _ _ _ (Option.some.inj h).symm hP hS hl.1 (Or.inl tX4_needWithin_10)
set_option maxRecDepth 100000 in
set_option maxHeartbeats 4000000 in
theorem wX4_needWithin {p : Program} {l : Launch} {e : Env} {R : Room} {s : State} {m : MethodId} {args : Array Value} {below : List Frame} {meth : Method} {c : Code} {Q : State → Prop} {D : va_G} {cI cJ cZ : ClassId} {ad : Nat → Nat} {A : Nat → Prop} {sx : Nat → Nat} (C : Cx p s m args c cX4_needWithin 3 wsX4_needWithin RX4 D vwCl (tyl cI cJ cZ) (wH cI cJ cZ ad) A R 6 82) {r : ((String ⊕ Unit) × SH)} (hR : Xv p l e R s m args below meth c cX4_needWithin D vwCl (wH cI cJ cZ ad) A Q r) (hT : ThK p l e R s m args below meth c cX4_needWithin 3 wsX4_needWithin RX4 D vwCl (tyl cI cJ cZ) (wH cI cJ cZ ad) A Q r sx) (a1 : Int32) (a2 : Int32) (a3 : Int32) (z0 : SH) {H : Heap} {locs : List Loc} {ls : Array Slot} (h : fX4_needWithin a1 a2 a3 z0 = some r) (hP : va_P D vwCl (wH cI cJ cZ ad z0) H) (hS : va_S A s.heap H locs) (hl : lv_has ls 3 [(0, .int a1), (1, .int a2), (2, .int a3)]) : W p l e R s m args below meth c H locs 0 0 Q (F0 m 0 ls []) := by
  unfold fX4_needWithin at h
  have hx := C.1.1
  have hb := C.1.2.1
  refine lv_iload_n hx hb dX4_needWithin_0 rfl (lv_at hl 0 rfl) ?_
  refine lv_iload_n hx hb dX4_needWithin_1 rfl (lv_at hl 1 rfl) ?_
  refine lv_icmp_lt (tgt := 10) hx hb dX4_needWithin_2 (by decide) (fun c1 => ?_) (fun c1 => ?_)
  · replace h := (ite_h h).1 c1
    exact wX4_needWithin_10 C hR hT z0 h hP hS (lv_sub hl [] rfl)
  · replace h := (ite_h h).2 c1
    refine lv_iload_n hx hb dX4_needWithin_5 rfl (lv_at hl 0 rfl) ?_
    refine lv_iload_n hx hb dX4_needWithin_6 rfl (lv_at hl 2 rfl) ?_
    refine lv_icmp_le (tgt := 21) hx hb dX4_needWithin_7 (by decide) (fun c1 => ?_) (fun c1 => ?_)
    · replace h := (ite_h h).1 c1
      exact hR 21 _ _ _ _ (Option.some.inj h).symm dX4_needWithin_21 hP hS
    · replace h := (ite_h h).2 c1
      exact wX4_needWithin_10 C hR hT z0 h hP hS (lv_sub hl [] rfl)
theorem mX4_needWithin (l : Launch) (D : va_G) (cI cJ cZ : ClassId) (ad : Nat → Nat) (a1 : Int32) (a2 : Int32) (a3 : Int32) (z0 : SH) : ∀ (q : Unit × SH) (sz : Nat), fX4_needWithin a1 a2 a3 z0 = some (.inr q.1, q.2) → Met l yX4_needWithin wsX4_needWithin rmX4_needWithin (cP D vwCl (tyl cI cJ cZ) (wH cI cJ cZ ad z0) sz [.int a1, .int a2, .int a3]) (cQv D vwCl (wH cI cJ cZ ad) z0 sz q) 0 0 (va_A (wH cI cJ cZ ad z0) sz) := by
  intro q sz h
  refine ofW_v (cc := cX4_needWithin) (maxL := 3) (by decide) rfl (wH_same cI cJ cZ ad) (Nat.le_of_ble_eq_true rfl) (fun p e s m below meth c ls hsz C hR hP hl => ?_)
  exact wX4_needWithin (sx := fun _ => 0) C (Xv_of hR) ThK_no a1 a2 a3 z0 h hP va_S.rf hl
theorem nX4_needWithin (l : Launch) (hl0 : l.stackTraces = false) (D : va_G) (cI cJ cZ : ClassId) (ad sx : Nat → Nat) (a1 : Int32) (a2 : Int32) (a3 : Int32) (z0 : SH) : ∀ (E : String) (z1 : SH) (sz : Nat), fX4_needWithin a1 a2 a3 z0 = some (.inl E, z1) → vx_Met l yX4_needWithin wsX4_needWithin (rmX rmX4_needWithin) (cPX (thX sx) D vwCl (tyl cI cJ cZ) (wH cI cJ cZ ad z0) sz [.int a1, .int a2, .int a3]) (cQno) (cXX D vwCl (wH cI cJ cZ ad) z0 sz E z1) 1 6 (va_A (wH cI cJ cZ ad z0) sz) := by
  intro E z1 sz h
  refine ofX (α := Unit) (cc := cX4_needWithin) (maxL := 3) (by decide) rfl (wH_same cI cJ cZ ad) (Nat.le_of_ble_eq_true rfl) hl0 ⟨Nat.le_of_ble_eq_true rfl, Nat.le_of_ble_eq_true rfl⟩ (fun p e s m below meth c ls hsz C hT hP hl => ?_)
  exact wX4_needWithin C Xv_no hT a1 a2 a3 z0 h hP va_S.rf hl
abbrev rmX4_deposit : Room := { frames := 7, cells := 0, slots := 0, locals := 104 }
theorem fX4_deposit_i10 : Cond.fieldLink RX4 10 (TX4 0).1 (TX4 0).2.1 (TX4 0).2.2.1 ∈ wsX4_deposit := by decide +kernel
theorem fX4_deposit_i52 : Cond.fieldLink RX4 52 (TX1 0).1 (TX1 0).2.1 (TX1 0).2.2.1 ∈ wsX4_deposit := by decide +kernel
theorem iX4_deposit_X1 : ∀ x ∈ wsX10, x ∈ wsX4_deposit := by decide +kernel
theorem iX4_deposit_X4 : ∀ x ∈ wsX40, x ∈ wsX4_deposit := by decide +kernel
theorem kX4_deposit_47 : Cond.constant RX4 47 (1000000000) ∈ wsX4_deposit := by decide +kernel
theorem kX4_deposit_56 : Cond.constantLong RX4 56 (1000000000000000) ∈ wsX4_deposit := by decide +kernel
theorem tX4_deposit_30 : tSite wsX4_deposit RX4 cX4_deposit 30 "java/lang/IllegalStateException" := ⟨58, 60, 62, "the account would have too much cash", by decide +kernel, by decide +kernel, rfl, by decide +kernel, by decide +kernel, by decide +kernel, by decide +kernel, by decide +kernel, by decide +kernel, dX4_deposit_30, dX4_deposit_33, Or.inl ⟨dX4_deposit_34, dX4_deposit_36, dX4_deposit_39⟩⟩
set_option maxRecDepth 100000 in
set_option maxHeartbeats 4000000 in
theorem wX4_deposit {p : Program} {l : Launch} {e : Env} {R : Room} {s : State} {m : MethodId} {args : Array Value} {below : List Frame} {meth : Method} {c : Code} {Q : State → Prop} {D : va_G} {cI cJ cZ : ClassId} {ad : Nat → Nat} {A : Nat → Prop} {sx : Nat → Nat} (C : Cx p s m args c cX4_deposit 3 wsX4_deposit RX4 D vwCl (tyl cI cJ cZ) (wH cI cJ cZ ad) A R 7 104) {r : ((String ⊕ Int64) × SH)} (hR : Xl p l e R s m args below meth c cX4_deposit D vwCl (wH cI cJ cZ ad) A Q r) (hT : ThK p l e R s m args below meth c cX4_deposit 3 wsX4_deposit RX4 D vwCl (tyl cI cJ cZ) (wH cI cJ cZ ad) A Q r sx) (a1 : Int32) (a2 : Int32) (z0 : SH) {H : Heap} {locs : List Loc} {ls : Array Slot} (h : fX4_deposit a1 a2 z0 = some r) (hP : va_P D vwCl (wH cI cJ cZ ad z0) H) (hS : va_S A s.heap H locs) (hl : lv_has ls 3 [(0, .ref (ad 0)), (1, .int a1), (2, .int a2)]) : W p l e R s m args below meth c H locs 0 0 Q (F0 m 0 ls []) := by
  unfold fX4_deposit at h
  have hx := C.1.1
  have hb := C.1.2.1
  refine lv_iload_n hx hb dX4_deposit_0 rfl (lv_at hl 1 rfl) ?_
  refine b_callXSv (As := [.int a1]) (rest := []) C hT hP hS h (mX4_needAccount l D cI cJ cZ ad a1 z0) (fun hl0 => nX4_needAccount l hl0 D cI cJ cZ ad _ a1 z0) (va_cwS 1 C.1.2.2.2.2 gX4_deposit_X4_needAccount rfl rfl rfl (by decide +kernel) ⟨Nat.le_trans (Nat.le_of_ble_eq_true rfl) C.2.2.2.2.1, Nat.le_trans (Nat.le_of_ble_eq_true rfl) C.2.2.2.2.2⟩) (fun _ _ => (va_cwS 1 C.1.2.2.2.2 gX4_deposit_X4_needAccount rfl rfl rfl (by decide +kernel) ⟨Nat.le_trans (Nat.le_of_ble_eq_true rfl) C.2.2.2.2.1, Nat.le_trans (Nat.le_of_ble_eq_true rfl) C.2.2.2.2.2⟩)) rfl hl.1 rfl (Nat.le_of_ble_eq_true rfl) dX4_deposit_1 (fun _ z1 _ _ h hP hS => ?_)
  refine lv_iload_n hx hb dX4_deposit_4 rfl (lv_at hl 2 rfl) ?_
  refine lv_iconst (v := 1) hx hb dX4_deposit_5 (by decide) ?_
  refine lv_ldc hx hb C.1.2.2.2.1 (C.1.2.2.2.2 _ kX4_deposit_47) dX4_deposit_6 ?_
  refine b_callXSv (As := [.int a2, .int 1, .int 1000000000]) (rest := []) C hT hP hS h (mX4_needWithin l D cI cJ cZ ad a2 1 1000000000 z1) (fun hl0 => nX4_needWithin l hl0 D cI cJ cZ ad _ a2 1 1000000000 z1) (va_cwS 3 C.1.2.2.2.2 gX4_deposit_X4_needWithin rfl rfl rfl (by decide +kernel) ⟨Nat.le_trans (Nat.le_of_ble_eq_true rfl) C.2.2.2.2.1, Nat.le_trans (Nat.le_of_ble_eq_true rfl) C.2.2.2.2.2⟩) (fun _ _ => (va_cwS 3 C.1.2.2.2.2 gX4_deposit_X4_needWithin rfl rfl rfl (by decide +kernel) ⟨Nat.le_trans (Nat.le_of_ble_eq_true rfl) C.2.2.2.2.1, Nat.le_trans (Nat.le_of_ble_eq_true rfl) C.2.2.2.2.2⟩)) rfl hl.1 rfl (Nat.le_of_ble_eq_true rfl) dX4_deposit_8 (fun _ z2 _ _ h hP hS => ?_)
  refine lv_aload_n hx hb dX4_deposit_11 rfl (lv_at hl 0 rfl) ?_
  refine b_getr C hP iX4_deposit_X4 0 (wH_0 cI cJ cZ ad z2) rfl 0 (by decide) fX4_deposit_i10 rfl rfl dX4_deposit_12 ?_
  refine b_getr C hP iX4_deposit_X1 1 (wH_1 cI cJ cZ ad z2) rfl 0 (by decide) fX4_deposit_i52 rfl rfl dX4_deposit_15 ?_
  refine lv_iload_n hx hb dX4_deposit_18 rfl (lv_at hl 1 rfl) ?_
  refine b_lald C hP h 5 (wH_5 cI cJ cZ ad z2) 1 rfl dX4_deposit_19 (fun v3 h => ?_)
  refine lv_iload_n hx hb dX4_deposit_20 rfl (lv_at hl 2 rfl) ?_
  refine lv_i2l hx hb dX4_deposit_21 rfl ?_
  refine lv_ladd hx hb dX4_deposit_22 ?_
  refine lv_ldc2 hx hb C.1.2.2.2.1 (C.1.2.2.2.2 _ kX4_deposit_56) dX4_deposit_23 ?_
  refine W.lcmp hx hb dX4_deposit_26 ?_
  refine lv_if_le (tgt := 40) hx hb dX4_deposit_27 (by decide) (fun c1 => ?_) (fun c1 => ?_)
  · replace h := (ite_h h).1 c1
    refine lv_aload_n hx hb dX4_deposit_40 rfl (lv_at hl 0 rfl) ?_
    refine b_getr C hP iX4_deposit_X4 0 (wH_0 cI cJ cZ ad z2) rfl 0 (by decide) fX4_deposit_i10 rfl rfl dX4_deposit_41 ?_
    refine b_getr C hP iX4_deposit_X1 1 (wH_1 cI cJ cZ ad z2) rfl 0 (by decide) fX4_deposit_i52 rfl rfl dX4_deposit_44 ?_
    refine lv_iload_n hx hb dX4_deposit_47 rfl (lv_at hl 1 rfl) ?_
    refine lv_dup2_11 hx hb dX4_deposit_48 rfl rfl ?_
    refine b_lald C hP h 5 (wH_5 cI cJ cZ ad z2) 1 rfl dX4_deposit_49 (fun v4 h => ?_)
    refine lv_iload_n hx hb dX4_deposit_50 rfl (lv_at hl 2 rfl) ?_
    refine lv_i2l hx hb dX4_deposit_51 rfl ?_
    refine lv_ladd hx hb dX4_deposit_52 ?_
    refine b_last C hP hS h 5 (wH_5 cI cJ cZ ad z2) 1 rfl (wH_s5 cI cJ cZ ad z2 _ _) dX4_deposit_53 (fun z5 _ _ h hP hS => ?_)
    refine lv_aload_n hx hb dX4_deposit_54 rfl (lv_at hl 0 rfl) ?_
    refine b_getr C hP iX4_deposit_X4 0 (wH_0 cI cJ cZ ad z5) rfl 0 (by decide) fX4_deposit_i10 rfl rfl dX4_deposit_55 ?_
    refine lv_iload_n hx hb dX4_deposit_58 rfl (lv_at hl 1 rfl) ?_
    refine b_callVv (As := [.int a1]) (rest := []) C hP hS h (mX1_know l D cI cJ cZ ad a1 z5) (cwV 1 C.1.2.2.2.2 gX4_deposit_X1_know rfl rfl rfl (by decide +kernel) ⟨Nat.le_trans (Nat.le_of_ble_eq_true rfl) C.2.2.2.2.1, Nat.le_trans (Nat.le_of_ble_eq_true rfl) C.2.2.2.2.2⟩) (va_recv C.2.1 hP (ci := 1) (q0 := 1) rfl (wH_1 cI cJ cZ ad z5)) rfl hl.1 rfl (Nat.le_of_ble_eq_true rfl) dX4_deposit_59 (fun _ z6 _ _ h hP hS => ?_)
    refine lv_aload_n hx hb dX4_deposit_62 rfl (lv_at hl 0 rfl) ?_
    refine b_getr C hP iX4_deposit_X4 0 (wH_0 cI cJ cZ ad z6) rfl 0 (by decide) fX4_deposit_i10 rfl rfl dX4_deposit_63 ?_
    refine b_getr C hP iX4_deposit_X1 1 (wH_1 cI cJ cZ ad z6) rfl 0 (by decide) fX4_deposit_i52 rfl rfl dX4_deposit_66 ?_
    refine lv_iload_n hx hb dX4_deposit_69 rfl (lv_at hl 1 rfl) ?_
    refine b_lald C hP h 5 (wH_5 cI cJ cZ ad z6) 1 rfl dX4_deposit_70 (fun v7 h => ?_)
    exact hR 71 _ _ _ _ _ (Option.some.inj h).symm dX4_deposit_71 hP hS
  · replace h := (ite_h h).2 c1
    exact hT.1 30 _ _ _ _ (Option.some.inj h).symm hP hS hl.1 (Or.inl tX4_deposit_30)
theorem mX4_deposit (l : Launch) (D : va_G) (cI cJ cZ : ClassId) (ad : Nat → Nat) (a1 : Int32) (a2 : Int32) (z0 : SH) : ∀ (q : Int64 × SH) (sz : Nat), fX4_deposit a1 a2 z0 = some (.inr q.1, q.2) → Met l yX4_deposit wsX4_deposit rmX4_deposit (cP D vwCl (tyl cI cJ cZ) (wH cI cJ cZ ad z0) sz [.ref (ad 0), .int a1, .int a2]) (cQl D vwCl (wH cI cJ cZ ad) z0 sz q) 0 0 (va_A (wH cI cJ cZ ad z0) sz) := by
  intro q sz h
  refine ofW_l (cc := cX4_deposit) (maxL := 3) (by decide) rfl (wH_same cI cJ cZ ad) (Nat.le_of_ble_eq_true rfl) (fun p e s m below meth c ls hsz C hR hP hl => ?_)
  exact wX4_deposit (sx := fun _ => 0) C (Xl_of hR) ThK_no a1 a2 z0 h hP va_S.rf hl
theorem nX4_deposit (l : Launch) (hl0 : l.stackTraces = false) (D : va_G) (cI cJ cZ : ClassId) (ad sx : Nat → Nat) (a1 : Int32) (a2 : Int32) (z0 : SH) : ∀ (E : String) (z1 : SH) (sz : Nat), fX4_deposit a1 a2 z0 = some (.inl E, z1) → vx_Met l yX4_deposit wsX4_deposit (rmX rmX4_deposit) (cPX (thX sx) D vwCl (tyl cI cJ cZ) (wH cI cJ cZ ad z0) sz [.ref (ad 0), .int a1, .int a2]) (cQno) (cXX D vwCl (wH cI cJ cZ ad) z0 sz E z1) 1 6 (va_A (wH cI cJ cZ ad z0) sz) := by
  intro E z1 sz h
  refine ofX (α := Int64) (cc := cX4_deposit) (maxL := 3) (by decide) rfl (wH_same cI cJ cZ ad) (Nat.le_of_ble_eq_true rfl) hl0 ⟨Nat.le_of_ble_eq_true rfl, Nat.le_of_ble_eq_true rfl⟩ (fun p e s m below meth c ls hsz C hT hP hl => ?_)
  exact wX4_deposit C Xl_no hT a1 a2 z0 h hP va_S.rf hl
abbrev rmX4_withdraw : Room := { frames := 7, cells := 0, slots := 0, locals := 104 }
theorem fX4_withdraw_i10 : Cond.fieldLink RX4 10 (TX4 0).1 (TX4 0).2.1 (TX4 0).2.2.1 ∈ wsX4_withdraw := by decide +kernel
theorem fX4_withdraw_i52 : Cond.fieldLink RX4 52 (TX1 0).1 (TX1 0).2.1 (TX1 0).2.2.1 ∈ wsX4_withdraw := by decide +kernel
theorem iX4_withdraw_X1 : ∀ x ∈ wsX10, x ∈ wsX4_withdraw := by decide +kernel
theorem iX4_withdraw_X4 : ∀ x ∈ wsX40, x ∈ wsX4_withdraw := by decide +kernel
theorem kX4_withdraw_47 : Cond.constant RX4 47 (1000000000) ∈ wsX4_withdraw := by decide +kernel
theorem tX4_withdraw_25 : tSite wsX4_withdraw RX4 cX4_withdraw 25 "java/lang/IllegalStateException" := ⟨58, 72, 62, "not so much cash is free", by decide +kernel, by decide +kernel, rfl, by decide +kernel, by decide +kernel, by decide +kernel, by decide +kernel, by decide +kernel, by decide +kernel, dX4_withdraw_25, dX4_withdraw_28, Or.inl ⟨dX4_withdraw_29, dX4_withdraw_31, dX4_withdraw_34⟩⟩
set_option maxRecDepth 100000 in
set_option maxHeartbeats 4000000 in
theorem wX4_withdraw {p : Program} {l : Launch} {e : Env} {R : Room} {s : State} {m : MethodId} {args : Array Value} {below : List Frame} {meth : Method} {c : Code} {Q : State → Prop} {D : va_G} {cI cJ cZ : ClassId} {ad : Nat → Nat} {A : Nat → Prop} {sx : Nat → Nat} (C : Cx p s m args c cX4_withdraw 3 wsX4_withdraw RX4 D vwCl (tyl cI cJ cZ) (wH cI cJ cZ ad) A R 7 104) {r : ((String ⊕ Int64) × SH)} (hR : Xl p l e R s m args below meth c cX4_withdraw D vwCl (wH cI cJ cZ ad) A Q r) (hT : ThK p l e R s m args below meth c cX4_withdraw 3 wsX4_withdraw RX4 D vwCl (tyl cI cJ cZ) (wH cI cJ cZ ad) A Q r sx) (a1 : Int32) (a2 : Int32) (z0 : SH) {H : Heap} {locs : List Loc} {ls : Array Slot} (h : fX4_withdraw a1 a2 z0 = some r) (hP : va_P D vwCl (wH cI cJ cZ ad z0) H) (hS : va_S A s.heap H locs) (hl : lv_has ls 3 [(0, .ref (ad 0)), (1, .int a1), (2, .int a2)]) : W p l e R s m args below meth c H locs 0 0 Q (F0 m 0 ls []) := by
  unfold fX4_withdraw at h
  have hx := C.1.1
  have hb := C.1.2.1
  refine lv_iload_n hx hb dX4_withdraw_0 rfl (lv_at hl 1 rfl) ?_
  refine b_callXSv (As := [.int a1]) (rest := []) C hT hP hS h (mX4_needAccount l D cI cJ cZ ad a1 z0) (fun hl0 => nX4_needAccount l hl0 D cI cJ cZ ad _ a1 z0) (va_cwS 1 C.1.2.2.2.2 gX4_withdraw_X4_needAccount rfl rfl rfl (by decide +kernel) ⟨Nat.le_trans (Nat.le_of_ble_eq_true rfl) C.2.2.2.2.1, Nat.le_trans (Nat.le_of_ble_eq_true rfl) C.2.2.2.2.2⟩) (fun _ _ => (va_cwS 1 C.1.2.2.2.2 gX4_withdraw_X4_needAccount rfl rfl rfl (by decide +kernel) ⟨Nat.le_trans (Nat.le_of_ble_eq_true rfl) C.2.2.2.2.1, Nat.le_trans (Nat.le_of_ble_eq_true rfl) C.2.2.2.2.2⟩)) rfl hl.1 rfl (Nat.le_of_ble_eq_true rfl) dX4_withdraw_1 (fun _ z1 _ _ h hP hS => ?_)
  refine lv_iload_n hx hb dX4_withdraw_4 rfl (lv_at hl 2 rfl) ?_
  refine lv_iconst (v := 1) hx hb dX4_withdraw_5 (by decide) ?_
  refine lv_ldc hx hb C.1.2.2.2.1 (C.1.2.2.2.2 _ kX4_withdraw_47) dX4_withdraw_6 ?_
  refine b_callXSv (As := [.int a2, .int 1, .int 1000000000]) (rest := []) C hT hP hS h (mX4_needWithin l D cI cJ cZ ad a2 1 1000000000 z1) (fun hl0 => nX4_needWithin l hl0 D cI cJ cZ ad _ a2 1 1000000000 z1) (va_cwS 3 C.1.2.2.2.2 gX4_withdraw_X4_needWithin rfl rfl rfl (by decide +kernel) ⟨Nat.le_trans (Nat.le_of_ble_eq_true rfl) C.2.2.2.2.1, Nat.le_trans (Nat.le_of_ble_eq_true rfl) C.2.2.2.2.2⟩) (fun _ _ => (va_cwS 3 C.1.2.2.2.2 gX4_withdraw_X4_needWithin rfl rfl rfl (by decide +kernel) ⟨Nat.le_trans (Nat.le_of_ble_eq_true rfl) C.2.2.2.2.1, Nat.le_trans (Nat.le_of_ble_eq_true rfl) C.2.2.2.2.2⟩)) rfl hl.1 rfl (Nat.le_of_ble_eq_true rfl) dX4_withdraw_8 (fun _ z2 _ _ h hP hS => ?_)
  refine lv_aload_n hx hb dX4_withdraw_11 rfl (lv_at hl 0 rfl) ?_
  refine b_getr C hP iX4_withdraw_X4 0 (wH_0 cI cJ cZ ad z2) rfl 0 (by decide) fX4_withdraw_i10 rfl rfl dX4_withdraw_12 ?_
  refine lv_iload_n hx hb dX4_withdraw_15 rfl (lv_at hl 1 rfl) ?_
  refine b_callVl (As := [.int a1]) (rest := []) C hP hS h (mX1_freeCash l D cI cJ cZ ad a1 z2) (cwV 1 C.1.2.2.2.2 gX4_withdraw_X1_freeCash rfl rfl rfl (by decide +kernel) ⟨Nat.le_trans (Nat.le_of_ble_eq_true rfl) C.2.2.2.2.1, Nat.le_trans (Nat.le_of_ble_eq_true rfl) C.2.2.2.2.2⟩) (va_recv C.2.1 hP (ci := 1) (q0 := 1) rfl (wH_1 cI cJ cZ ad z2)) rfl hl.1 rfl (Nat.le_of_ble_eq_true rfl) dX4_withdraw_16 (fun v4 z3 _ _ h hP hS => ?_)
  refine lv_iload_n hx hb dX4_withdraw_19 rfl (lv_at hl 2 rfl) ?_
  refine lv_i2l hx hb dX4_withdraw_20 rfl ?_
  refine W.lcmp hx hb dX4_withdraw_21 ?_
  refine lv_if_ge (tgt := 35) hx hb dX4_withdraw_22 (by decide) (fun c1 => ?_) (fun c1 => ?_)
  · replace h := (ite_h h).1 c1
    refine lv_aload_n hx hb dX4_withdraw_35 rfl (lv_at hl 0 rfl) ?_
    refine b_getr C hP iX4_withdraw_X4 0 (wH_0 cI cJ cZ ad z3) rfl 0 (by decide) fX4_withdraw_i10 rfl rfl dX4_withdraw_36 ?_
    refine b_getr C hP iX4_withdraw_X1 1 (wH_1 cI cJ cZ ad z3) rfl 0 (by decide) fX4_withdraw_i52 rfl rfl dX4_withdraw_39 ?_
    refine lv_iload_n hx hb dX4_withdraw_42 rfl (lv_at hl 1 rfl) ?_
    refine lv_dup2_11 hx hb dX4_withdraw_43 rfl rfl ?_
    refine b_lald C hP h 5 (wH_5 cI cJ cZ ad z3) 1 rfl dX4_withdraw_44 (fun v5 h => ?_)
    refine lv_iload_n hx hb dX4_withdraw_45 rfl (lv_at hl 2 rfl) ?_
    refine lv_i2l hx hb dX4_withdraw_46 rfl ?_
    refine lv_lsub hx hb dX4_withdraw_47 ?_
    refine b_last C hP hS h 5 (wH_5 cI cJ cZ ad z3) 1 rfl (wH_s5 cI cJ cZ ad z3 _ _) dX4_withdraw_48 (fun z6 _ _ h hP hS => ?_)
    refine lv_aload_n hx hb dX4_withdraw_49 rfl (lv_at hl 0 rfl) ?_
    refine b_getr C hP iX4_withdraw_X4 0 (wH_0 cI cJ cZ ad z6) rfl 0 (by decide) fX4_withdraw_i10 rfl rfl dX4_withdraw_50 ?_
    refine b_getr C hP iX4_withdraw_X1 1 (wH_1 cI cJ cZ ad z6) rfl 0 (by decide) fX4_withdraw_i52 rfl rfl dX4_withdraw_53 ?_
    refine lv_iload_n hx hb dX4_withdraw_56 rfl (lv_at hl 1 rfl) ?_
    refine b_lald C hP h 5 (wH_5 cI cJ cZ ad z6) 1 rfl dX4_withdraw_57 (fun v7 h => ?_)
    exact hR 58 _ _ _ _ _ (Option.some.inj h).symm dX4_withdraw_58 hP hS
  · replace h := (ite_h h).2 c1
    exact hT.1 25 _ _ _ _ (Option.some.inj h).symm hP hS hl.1 (Or.inl tX4_withdraw_25)
theorem mX4_withdraw (l : Launch) (D : va_G) (cI cJ cZ : ClassId) (ad : Nat → Nat) (a1 : Int32) (a2 : Int32) (z0 : SH) : ∀ (q : Int64 × SH) (sz : Nat), fX4_withdraw a1 a2 z0 = some (.inr q.1, q.2) → Met l yX4_withdraw wsX4_withdraw rmX4_withdraw (cP D vwCl (tyl cI cJ cZ) (wH cI cJ cZ ad z0) sz [.ref (ad 0), .int a1, .int a2]) (cQl D vwCl (wH cI cJ cZ ad) z0 sz q) 0 0 (va_A (wH cI cJ cZ ad z0) sz) := by
  intro q sz h
  refine ofW_l (cc := cX4_withdraw) (maxL := 3) (by decide) rfl (wH_same cI cJ cZ ad) (Nat.le_of_ble_eq_true rfl) (fun p e s m below meth c ls hsz C hR hP hl => ?_)
  exact wX4_withdraw (sx := fun _ => 0) C (Xl_of hR) ThK_no a1 a2 z0 h hP va_S.rf hl
theorem nX4_withdraw (l : Launch) (hl0 : l.stackTraces = false) (D : va_G) (cI cJ cZ : ClassId) (ad sx : Nat → Nat) (a1 : Int32) (a2 : Int32) (z0 : SH) : ∀ (E : String) (z1 : SH) (sz : Nat), fX4_withdraw a1 a2 z0 = some (.inl E, z1) → vx_Met l yX4_withdraw wsX4_withdraw (rmX rmX4_withdraw) (cPX (thX sx) D vwCl (tyl cI cJ cZ) (wH cI cJ cZ ad z0) sz [.ref (ad 0), .int a1, .int a2]) (cQno) (cXX D vwCl (wH cI cJ cZ ad) z0 sz E z1) 1 6 (va_A (wH cI cJ cZ ad z0) sz) := by
  intro E z1 sz h
  refine ofX (α := Int64) (cc := cX4_withdraw) (maxL := 3) (by decide) rfl (wH_same cI cJ cZ ad) (Nat.le_of_ble_eq_true rfl) hl0 ⟨Nat.le_of_ble_eq_true rfl, Nat.le_of_ble_eq_true rfl⟩ (fun p e s m below meth c ls hsz C hT hP hl => ?_)
  exact wX4_withdraw C Xl_no hT a1 a2 z0 h hP va_S.rf hl
abbrev rmX4_needSymbol : Room := { frames := 6, cells := 0, slots := 0, locals := 82 }
theorem tX4_needSymbol_9 : tSite wsX4_needSymbol RX4 cX4_needSymbol 9 "java/lang/IndexOutOfBoundsException" := ⟨179, 279, 183, "there is no such symbol", by decide +kernel, by decide +kernel, rfl, by decide +kernel, by decide +kernel, by decide +kernel, by decide +kernel, by decide +kernel, by decide +kernel, dX4_needSymbol_9, dX4_needSymbol_12, Or.inr ⟨dX4_needSymbol_13, dX4_needSymbol_16, dX4_needSymbol_19⟩⟩
set_option maxRecDepth 100000 in
set_option maxHeartbeats 4000000 in
theorem wX4_needSymbol_9 {p : Program} {l : Launch} {e : Env} {R : Room} {s : State} {m : MethodId} {args : Array Value} {below : List Frame} {meth : Method} {c : Code} {Q : State → Prop} {D : va_G} {cI cJ cZ : ClassId} {ad : Nat → Nat} {A : Nat → Prop} {sx : Nat → Nat} (C : Cx p s m args c cX4_needSymbol 1 wsX4_needSymbol RX4 D vwCl (tyl cI cJ cZ) (wH cI cJ cZ ad) A R 6 82) {r : ((String ⊕ Unit) × SH)} (hR : Xv p l e R s m args below meth c cX4_needSymbol D vwCl (wH cI cJ cZ ad) A Q r) (hT : ThK p l e R s m args below meth c cX4_needSymbol 1 wsX4_needSymbol RX4 D vwCl (tyl cI cJ cZ) (wH cI cJ cZ ad) A Q r sx) (z0 : SH) {H : Heap} {locs : List Loc} {ls : Array Slot} (h : fX4_needSymbol_9 z0 = some r) (hP : va_P D vwCl (wH cI cJ cZ ad z0) H) (hS : va_S A s.heap H locs) (hl : lv_has ls 1 []) : W p l e R s m args below meth c H locs 0 0 Q (F0 m 9 ls []) := by
  unfold fX4_needSymbol_9 at h
  have hx := C.1.1
  have hb := C.1.2.1
  exact hT.1 9 _ _ _ _ (Option.some.inj h).symm hP hS hl.1 (Or.inl tX4_needSymbol_9)
set_option maxRecDepth 100000 in
set_option maxHeartbeats 4000000 in
theorem wX4_needSymbol {p : Program} {l : Launch} {e : Env} {R : Room} {s : State} {m : MethodId} {args : Array Value} {below : List Frame} {meth : Method} {c : Code} {Q : State → Prop} {D : va_G} {cI cJ cZ : ClassId} {ad : Nat → Nat} {A : Nat → Prop} {sx : Nat → Nat} (C : Cx p s m args c cX4_needSymbol 1 wsX4_needSymbol RX4 D vwCl (tyl cI cJ cZ) (wH cI cJ cZ ad) A R 6 82) {r : ((String ⊕ Unit) × SH)} (hR : Xv p l e R s m args below meth c cX4_needSymbol D vwCl (wH cI cJ cZ ad) A Q r) (hT : ThK p l e R s m args below meth c cX4_needSymbol 1 wsX4_needSymbol RX4 D vwCl (tyl cI cJ cZ) (wH cI cJ cZ ad) A Q r sx) (a1 : Int32) (z0 : SH) {H : Heap} {locs : List Loc} {ls : Array Slot} (h : fX4_needSymbol a1 z0 = some r) (hP : va_P D vwCl (wH cI cJ cZ ad z0) H) (hS : va_S A s.heap H locs) (hl : lv_has ls 1 [(0, .int a1)]) : W p l e R s m args below meth c H locs 0 0 Q (F0 m 0 ls []) := by
  unfold fX4_needSymbol at h
  have hx := C.1.1
  have hb := C.1.2.1
  refine lv_iload_n hx hb dX4_needSymbol_0 rfl (lv_at hl 0 rfl) ?_
  refine lv_if_lt (tgt := 9) hx hb dX4_needSymbol_1 (by decide) (fun c1 => ?_) (fun c1 => ?_)
  · replace h := (ite_h h).1 c1
    exact wX4_needSymbol_9 C hR hT z0 h hP hS (lv_sub hl [] rfl)
  · replace h := (ite_h h).2 c1
    refine lv_iload_n hx hb dX4_needSymbol_4 rfl (lv_at hl 0 rfl) ?_
    refine lv_iconst (v := 4) hx hb dX4_needSymbol_5 (by decide) ?_
    refine lv_icmp_lt (tgt := 20) hx hb dX4_needSymbol_6 (by decide) (fun c1 => ?_) (fun c1 => ?_)
    · replace h := (ite_h h).1 c1
      exact hR 20 _ _ _ _ (Option.some.inj h).symm dX4_needSymbol_20 hP hS
    · replace h := (ite_h h).2 c1
      exact wX4_needSymbol_9 C hR hT z0 h hP hS (lv_sub hl [] rfl)
theorem mX4_needSymbol (l : Launch) (D : va_G) (cI cJ cZ : ClassId) (ad : Nat → Nat) (a1 : Int32) (z0 : SH) : ∀ (q : Unit × SH) (sz : Nat), fX4_needSymbol a1 z0 = some (.inr q.1, q.2) → Met l yX4_needSymbol wsX4_needSymbol rmX4_needSymbol (cP D vwCl (tyl cI cJ cZ) (wH cI cJ cZ ad z0) sz [.int a1]) (cQv D vwCl (wH cI cJ cZ ad) z0 sz q) 0 0 (va_A (wH cI cJ cZ ad z0) sz) := by
  intro q sz h
  refine ofW_v (cc := cX4_needSymbol) (maxL := 1) (by decide) rfl (wH_same cI cJ cZ ad) (Nat.le_of_ble_eq_true rfl) (fun p e s m below meth c ls hsz C hR hP hl => ?_)
  exact wX4_needSymbol (sx := fun _ => 0) C (Xv_of hR) ThK_no a1 z0 h hP va_S.rf hl
theorem nX4_needSymbol (l : Launch) (hl0 : l.stackTraces = false) (D : va_G) (cI cJ cZ : ClassId) (ad sx : Nat → Nat) (a1 : Int32) (z0 : SH) : ∀ (E : String) (z1 : SH) (sz : Nat), fX4_needSymbol a1 z0 = some (.inl E, z1) → vx_Met l yX4_needSymbol wsX4_needSymbol (rmX rmX4_needSymbol) (cPX (thX sx) D vwCl (tyl cI cJ cZ) (wH cI cJ cZ ad z0) sz [.int a1]) (cQno) (cXX D vwCl (wH cI cJ cZ ad) z0 sz E z1) 1 6 (va_A (wH cI cJ cZ ad z0) sz) := by
  intro E z1 sz h
  refine ofX (α := Unit) (cc := cX4_needSymbol) (maxL := 1) (by decide) rfl (wH_same cI cJ cZ ad) (Nat.le_of_ble_eq_true rfl) hl0 ⟨Nat.le_of_ble_eq_true rfl, Nat.le_of_ble_eq_true rfl⟩ (fun p e s m below meth c ls hsz C hT hP hl => ?_)
  exact wX4_needSymbol C Xv_no hT a1 z0 h hP va_S.rf hl
abbrev rmX4_grant : Room := { frames := 7, cells := 0, slots := 0, locals := 104 }
theorem fX4_grant_i10 : Cond.fieldLink RX4 10 (TX4 0).1 (TX4 0).2.1 (TX4 0).2.2.1 ∈ wsX4_grant := by decide +kernel
theorem fX4_grant_i82 : Cond.fieldLink RX4 82 (TX1 2).1 (TX1 2).2.1 (TX1 2).2.2.1 ∈ wsX4_grant := by decide +kernel
theorem iX4_grant_X1 : ∀ x ∈ wsX10, x ∈ wsX4_grant := by decide +kernel
theorem iX4_grant_X4 : ∀ x ∈ wsX40, x ∈ wsX4_grant := by decide +kernel
theorem kX4_grant_47 : Cond.constant RX4 47 (1000000000) ∈ wsX4_grant := by decide +kernel
theorem kX4_grant_77 : Cond.constant RX4 77 (1000000) ∈ wsX4_grant := by decide +kernel
theorem tX4_grant_39 : tSite wsX4_grant RX4 cX4_grant 39 "java/lang/IllegalStateException" := ⟨58, 86, 62, "the account would have too many shares", by decide +kernel, by decide +kernel, rfl, by decide +kernel, by decide +kernel, by decide +kernel, by decide +kernel, by decide +kernel, by decide +kernel, dX4_grant_39, dX4_grant_42, Or.inl ⟨dX4_grant_43, dX4_grant_45, dX4_grant_48⟩⟩
set_option maxRecDepth 100000 in
set_option maxHeartbeats 4000000 in
theorem wX4_grant {p : Program} {l : Launch} {e : Env} {R : Room} {s : State} {m : MethodId} {args : Array Value} {below : List Frame} {meth : Method} {c : Code} {Q : State → Prop} {D : va_G} {cI cJ cZ : ClassId} {ad : Nat → Nat} {A : Nat → Prop} {sx : Nat → Nat} (C : Cx p s m args c cX4_grant 5 wsX4_grant RX4 D vwCl (tyl cI cJ cZ) (wH cI cJ cZ ad) A R 7 104) {r : ((String ⊕ Int32) × SH)} (hR : Xi p l e R s m args below meth c cX4_grant D vwCl (wH cI cJ cZ ad) A Q r) (hT : ThK p l e R s m args below meth c cX4_grant 5 wsX4_grant RX4 D vwCl (tyl cI cJ cZ) (wH cI cJ cZ ad) A Q r sx) (a1 : Int32) (a2 : Int32) (a3 : Int32) (z0 : SH) {H : Heap} {locs : List Loc} {ls : Array Slot} (h : fX4_grant a1 a2 a3 z0 = some r) (hP : va_P D vwCl (wH cI cJ cZ ad z0) H) (hS : va_S A s.heap H locs) (hl : lv_has ls 5 [(0, .ref (ad 0)), (1, .int a1), (2, .int a2), (3, .int a3)]) : W p l e R s m args below meth c H locs 0 0 Q (F0 m 0 ls []) := by
  unfold fX4_grant at h
  have hx := C.1.1
  have hb := C.1.2.1
  refine lv_iload_n hx hb dX4_grant_0 rfl (lv_at hl 1 rfl) ?_
  refine b_callXSv (As := [.int a1]) (rest := []) C hT hP hS h (mX4_needAccount l D cI cJ cZ ad a1 z0) (fun hl0 => nX4_needAccount l hl0 D cI cJ cZ ad _ a1 z0) (va_cwS 1 C.1.2.2.2.2 gX4_grant_X4_needAccount rfl rfl rfl (by decide +kernel) ⟨Nat.le_trans (Nat.le_of_ble_eq_true rfl) C.2.2.2.2.1, Nat.le_trans (Nat.le_of_ble_eq_true rfl) C.2.2.2.2.2⟩) (fun _ _ => (va_cwS 1 C.1.2.2.2.2 gX4_grant_X4_needAccount rfl rfl rfl (by decide +kernel) ⟨Nat.le_trans (Nat.le_of_ble_eq_true rfl) C.2.2.2.2.1, Nat.le_trans (Nat.le_of_ble_eq_true rfl) C.2.2.2.2.2⟩)) rfl hl.1 rfl (Nat.le_of_ble_eq_true rfl) dX4_grant_1 (fun _ z1 _ _ h hP hS => ?_)
  refine lv_iload_n hx hb dX4_grant_4 rfl (lv_at hl 2 rfl) ?_
  refine b_callXSv (As := [.int a2]) (rest := []) C hT hP hS h (mX4_needSymbol l D cI cJ cZ ad a2 z1) (fun hl0 => nX4_needSymbol l hl0 D cI cJ cZ ad _ a2 z1) (va_cwS 1 C.1.2.2.2.2 gX4_grant_X4_needSymbol rfl rfl rfl (by decide +kernel) ⟨Nat.le_trans (Nat.le_of_ble_eq_true rfl) C.2.2.2.2.1, Nat.le_trans (Nat.le_of_ble_eq_true rfl) C.2.2.2.2.2⟩) (fun _ _ => (va_cwS 1 C.1.2.2.2.2 gX4_grant_X4_needSymbol rfl rfl rfl (by decide +kernel) ⟨Nat.le_trans (Nat.le_of_ble_eq_true rfl) C.2.2.2.2.1, Nat.le_trans (Nat.le_of_ble_eq_true rfl) C.2.2.2.2.2⟩)) rfl hl.1 rfl (Nat.le_of_ble_eq_true rfl) dX4_grant_5 (fun _ z2 _ _ h hP hS => ?_)
  refine lv_iload_n hx hb dX4_grant_8 rfl (lv_at hl 3 rfl) ?_
  refine lv_iconst (v := 1) hx hb dX4_grant_9 (by decide) ?_
  refine lv_ldc hx hb C.1.2.2.2.1 (C.1.2.2.2.2 _ kX4_grant_77) dX4_grant_10 ?_
  refine b_callXSv (As := [.int a3, .int 1, .int 1000000]) (rest := []) C hT hP hS h (mX4_needWithin l D cI cJ cZ ad a3 1 1000000 z2) (fun hl0 => nX4_needWithin l hl0 D cI cJ cZ ad _ a3 1 1000000 z2) (va_cwS 3 C.1.2.2.2.2 gX4_grant_X4_needWithin rfl rfl rfl (by decide +kernel) ⟨Nat.le_trans (Nat.le_of_ble_eq_true rfl) C.2.2.2.2.1, Nat.le_trans (Nat.le_of_ble_eq_true rfl) C.2.2.2.2.2⟩) (fun _ _ => (va_cwS 3 C.1.2.2.2.2 gX4_grant_X4_needWithin rfl rfl rfl (by decide +kernel) ⟨Nat.le_trans (Nat.le_of_ble_eq_true rfl) C.2.2.2.2.1, Nat.le_trans (Nat.le_of_ble_eq_true rfl) C.2.2.2.2.2⟩)) rfl hl.1 rfl (Nat.le_of_ble_eq_true rfl) dX4_grant_12 (fun _ z3 _ _ h hP hS => ?_)
  refine lv_iload_n hx hb dX4_grant_15 rfl (lv_at hl 1 rfl) ?_
  refine lv_iload_n hx hb dX4_grant_16 rfl (lv_at hl 2 rfl) ?_
  refine b_callSi (As := [.int a1, .int a2]) (rest := []) C hP hS h (mX1_placeOf l D cI cJ cZ ad a1 a2 z3) (va_cwS 2 C.1.2.2.2.2 gX4_grant_X1_placeOf rfl rfl rfl (by decide +kernel) ⟨Nat.le_trans (Nat.le_of_ble_eq_true rfl) C.2.2.2.2.1, Nat.le_trans (Nat.le_of_ble_eq_true rfl) C.2.2.2.2.2⟩) rfl hl.1 rfl (Nat.le_of_ble_eq_true rfl) dX4_grant_17 (fun v5 z4 _ _ h hP hS => ?_)
  refine lv_istore (lv' := [(4, .int v5), (0, .ref (ad 0)), (1, .int a1), (2, .int a2), (3, .int a3)]) hx hb dX4_grant_20 hl (by decide) rfl (fun ls hl => ?_)
  refine lv_aload_n hx hb dX4_grant_22 rfl (lv_at hl 1 rfl) ?_
  refine b_getr C hP iX4_grant_X4 0 (wH_0 cI cJ cZ ad z4) rfl 0 (by decide) fX4_grant_i10 rfl rfl dX4_grant_23 ?_
  refine b_getr C hP iX4_grant_X1 1 (wH_1 cI cJ cZ ad z4) rfl 2 (by decide) fX4_grant_i82 rfl rfl dX4_grant_26 ?_
  refine lv_iload hx hb dX4_grant_29 (lv_at hl 0 rfl) ?_
  refine b_iald C hP h 7 (wH_7 cI cJ cZ ad z4) 0 rfl dX4_grant_31 (fun v6 h => ?_)
  refine lv_ldc hx hb C.1.2.2.2.1 (C.1.2.2.2.2 _ kX4_grant_47) dX4_grant_32 ?_
  refine lv_iload_n hx hb dX4_grant_34 rfl (lv_at hl 4 rfl) ?_
  refine lv_isub hx hb dX4_grant_35 ?_
  refine lv_icmp_le (tgt := 49) hx hb dX4_grant_36 (by decide) (fun c1 => ?_) (fun c1 => ?_)
  · replace h := (ite_h h).1 c1
    refine lv_aload_n hx hb dX4_grant_49 rfl (lv_at hl 1 rfl) ?_
    refine b_getr C hP iX4_grant_X4 0 (wH_0 cI cJ cZ ad z4) rfl 0 (by decide) fX4_grant_i10 rfl rfl dX4_grant_50 ?_
    refine b_getr C hP iX4_grant_X1 1 (wH_1 cI cJ cZ ad z4) rfl 2 (by decide) fX4_grant_i82 rfl rfl dX4_grant_53 ?_
    refine lv_iload hx hb dX4_grant_56 (lv_at hl 0 rfl) ?_
    refine lv_dup2_11 hx hb dX4_grant_58 rfl rfl ?_
    refine b_iald C hP h 7 (wH_7 cI cJ cZ ad z4) 0 rfl dX4_grant_59 (fun v7 h => ?_)
    refine lv_iload_n hx hb dX4_grant_60 rfl (lv_at hl 4 rfl) ?_
    refine lv_iadd hx hb dX4_grant_61 ?_
    refine b_iast C hP hS h 7 (wH_7 cI cJ cZ ad z4) 0 rfl (wH_s7 cI cJ cZ ad z4 _ _) dX4_grant_62 (fun z8 _ _ h hP hS => ?_)
    refine lv_aload_n hx hb dX4_grant_63 rfl (lv_at hl 1 rfl) ?_
    refine b_getr C hP iX4_grant_X4 0 (wH_0 cI cJ cZ ad z8) rfl 0 (by decide) fX4_grant_i10 rfl rfl dX4_grant_64 ?_
    refine lv_iload_n hx hb dX4_grant_67 rfl (lv_at hl 2 rfl) ?_
    refine b_callVv (As := [.int a1]) (rest := []) C hP hS h (mX1_know l D cI cJ cZ ad a1 z8) (cwV 1 C.1.2.2.2.2 gX4_grant_X1_know rfl rfl rfl (by decide +kernel) ⟨Nat.le_trans (Nat.le_of_ble_eq_true rfl) C.2.2.2.2.1, Nat.le_trans (Nat.le_of_ble_eq_true rfl) C.2.2.2.2.2⟩) (va_recv C.2.1 hP (ci := 1) (q0 := 1) rfl (wH_1 cI cJ cZ ad z8)) rfl hl.1 rfl (Nat.le_of_ble_eq_true rfl) dX4_grant_68 (fun _ z9 _ _ h hP hS => ?_)
    refine lv_aload_n hx hb dX4_grant_71 rfl (lv_at hl 1 rfl) ?_
    refine b_getr C hP iX4_grant_X4 0 (wH_0 cI cJ cZ ad z9) rfl 0 (by decide) fX4_grant_i10 rfl rfl dX4_grant_72 ?_
    refine b_getr C hP iX4_grant_X1 1 (wH_1 cI cJ cZ ad z9) rfl 2 (by decide) fX4_grant_i82 rfl rfl dX4_grant_75 ?_
    refine lv_iload hx hb dX4_grant_78 (lv_at hl 0 rfl) ?_
    refine b_iald C hP h 7 (wH_7 cI cJ cZ ad z9) 0 rfl dX4_grant_80 (fun v10 h => ?_)
    exact hR 81 _ _ _ _ _ (Option.some.inj h).symm dX4_grant_81 hP hS
  · replace h := (ite_h h).2 c1
    exact hT.1 39 _ _ _ _ (Option.some.inj h).symm hP hS hl.1 (Or.inl tX4_grant_39)
theorem mX4_grant (l : Launch) (D : va_G) (cI cJ cZ : ClassId) (ad : Nat → Nat) (a1 : Int32) (a2 : Int32) (a3 : Int32) (z0 : SH) : ∀ (q : Int32 × SH) (sz : Nat), fX4_grant a1 a2 a3 z0 = some (.inr q.1, q.2) → Met l yX4_grant wsX4_grant rmX4_grant (cP D vwCl (tyl cI cJ cZ) (wH cI cJ cZ ad z0) sz [.ref (ad 0), .int a1, .int a2, .int a3]) (cQi D vwCl (wH cI cJ cZ ad) z0 sz q) 0 0 (va_A (wH cI cJ cZ ad z0) sz) := by
  intro q sz h
  refine ofW_i (cc := cX4_grant) (maxL := 5) (by decide) rfl (wH_same cI cJ cZ ad) (Nat.le_of_ble_eq_true rfl) (fun p e s m below meth c ls hsz C hR hP hl => ?_)
  exact wX4_grant (sx := fun _ => 0) C (Xi_of hR) ThK_no a1 a2 a3 z0 h hP va_S.rf hl
theorem nX4_grant (l : Launch) (hl0 : l.stackTraces = false) (D : va_G) (cI cJ cZ : ClassId) (ad sx : Nat → Nat) (a1 : Int32) (a2 : Int32) (a3 : Int32) (z0 : SH) : ∀ (E : String) (z1 : SH) (sz : Nat), fX4_grant a1 a2 a3 z0 = some (.inl E, z1) → vx_Met l yX4_grant wsX4_grant (rmX rmX4_grant) (cPX (thX sx) D vwCl (tyl cI cJ cZ) (wH cI cJ cZ ad z0) sz [.ref (ad 0), .int a1, .int a2, .int a3]) (cQno) (cXX D vwCl (wH cI cJ cZ ad) z0 sz E z1) 1 6 (va_A (wH cI cJ cZ ad z0) sz) := by
  intro E z1 sz h
  refine ofX (α := Int32) (cc := cX4_grant) (maxL := 5) (by decide) rfl (wH_same cI cJ cZ ad) (Nat.le_of_ble_eq_true rfl) hl0 ⟨Nat.le_of_ble_eq_true rfl, Nat.le_of_ble_eq_true rfl⟩ (fun p e s m below meth c ls hsz C hT hP hl => ?_)
  exact wX4_grant C Xi_no hT a1 a2 a3 z0 h hP va_S.rf hl
abbrev rmX4_needSide : Room := { frames := 6, cells := 0, slots := 0, locals := 82 }
theorem tX4_needSide_9 : tSite wsX4_needSide RX4 cX4_needSide 9 "java/lang/IllegalArgumentException" := ⟨132, 281, 136, "there is no such side", by decide +kernel, by decide +kernel, rfl, by decide +kernel, by decide +kernel, by decide +kernel, by decide +kernel, by decide +kernel, by decide +kernel, dX4_needSide_9, dX4_needSide_12, Or.inr ⟨dX4_needSide_13, dX4_needSide_16, dX4_needSide_19⟩⟩
set_option maxRecDepth 100000 in
set_option maxHeartbeats 4000000 in
theorem wX4_needSide_20 {p : Program} {l : Launch} {e : Env} {R : Room} {s : State} {m : MethodId} {args : Array Value} {below : List Frame} {meth : Method} {c : Code} {Q : State → Prop} {D : va_G} {cI cJ cZ : ClassId} {ad : Nat → Nat} {A : Nat → Prop} {sx : Nat → Nat} (C : Cx p s m args c cX4_needSide 1 wsX4_needSide RX4 D vwCl (tyl cI cJ cZ) (wH cI cJ cZ ad) A R 6 82) {r : ((String ⊕ Unit) × SH)} (hR : Xv p l e R s m args below meth c cX4_needSide D vwCl (wH cI cJ cZ ad) A Q r) (hT : ThK p l e R s m args below meth c cX4_needSide 1 wsX4_needSide RX4 D vwCl (tyl cI cJ cZ) (wH cI cJ cZ ad) A Q r sx) (z0 : SH) {H : Heap} {locs : List Loc} {ls : Array Slot} (h : fX4_needSide_20 z0 = some r) (hP : va_P D vwCl (wH cI cJ cZ ad z0) H) (hS : va_S A s.heap H locs) (hl : lv_has ls 1 []) : W p l e R s m args below meth c H locs 0 0 Q (F0 m 20 ls []) := by
  unfold fX4_needSide_20 at h
  have hx := C.1.1
  have hb := C.1.2.1
  exact hR 20 _ _ _ _ (Option.some.inj h).symm dX4_needSide_20 hP hS
set_option maxRecDepth 100000 in
set_option maxHeartbeats 4000000 in
theorem wX4_needSide {p : Program} {l : Launch} {e : Env} {R : Room} {s : State} {m : MethodId} {args : Array Value} {below : List Frame} {meth : Method} {c : Code} {Q : State → Prop} {D : va_G} {cI cJ cZ : ClassId} {ad : Nat → Nat} {A : Nat → Prop} {sx : Nat → Nat} (C : Cx p s m args c cX4_needSide 1 wsX4_needSide RX4 D vwCl (tyl cI cJ cZ) (wH cI cJ cZ ad) A R 6 82) {r : ((String ⊕ Unit) × SH)} (hR : Xv p l e R s m args below meth c cX4_needSide D vwCl (wH cI cJ cZ ad) A Q r) (hT : ThK p l e R s m args below meth c cX4_needSide 1 wsX4_needSide RX4 D vwCl (tyl cI cJ cZ) (wH cI cJ cZ ad) A Q r sx) (a1 : Int32) (z0 : SH) {H : Heap} {locs : List Loc} {ls : Array Slot} (h : fX4_needSide a1 z0 = some r) (hP : va_P D vwCl (wH cI cJ cZ ad z0) H) (hS : va_S A s.heap H locs) (hl : lv_has ls 1 [(0, .int a1)]) : W p l e R s m args below meth c H locs 0 0 Q (F0 m 0 ls []) := by
  unfold fX4_needSide at h
  have hx := C.1.1
  have hb := C.1.2.1
  refine lv_iload_n hx hb dX4_needSide_0 rfl (lv_at hl 0 rfl) ?_
  refine lv_if_eq (tgt := 20) hx hb dX4_needSide_1 (by decide) (fun c1 => ?_) (fun c1 => ?_)
  · replace h := (ite_h h).1 c1
    exact wX4_needSide_20 C hR hT z0 h hP hS (lv_sub hl [] rfl)
  · replace h := (ite_h h).2 c1
    refine lv_iload_n hx hb dX4_needSide_4 rfl (lv_at hl 0 rfl) ?_
    refine lv_iconst (v := 1) hx hb dX4_needSide_5 (by decide) ?_
    refine lv_icmp_eq (tgt := 20) hx hb dX4_needSide_6 (by decide) (fun c1 => ?_) (fun c1 => ?_)
    · replace h := (ite_h h).1 c1
      exact wX4_needSide_20 C hR hT z0 h hP hS (lv_sub hl [] rfl)
    · replace h := (ite_h h).2 c1
      exact hT.1 9 _ _ _ _ (Option.some.inj h).symm hP hS hl.1 (Or.inl tX4_needSide_9)
theorem mX4_needSide (l : Launch) (D : va_G) (cI cJ cZ : ClassId) (ad : Nat → Nat) (a1 : Int32) (z0 : SH) : ∀ (q : Unit × SH) (sz : Nat), fX4_needSide a1 z0 = some (.inr q.1, q.2) → Met l yX4_needSide wsX4_needSide rmX4_needSide (cP D vwCl (tyl cI cJ cZ) (wH cI cJ cZ ad z0) sz [.int a1]) (cQv D vwCl (wH cI cJ cZ ad) z0 sz q) 0 0 (va_A (wH cI cJ cZ ad z0) sz) := by
  intro q sz h
  refine ofW_v (cc := cX4_needSide) (maxL := 1) (by decide) rfl (wH_same cI cJ cZ ad) (Nat.le_of_ble_eq_true rfl) (fun p e s m below meth c ls hsz C hR hP hl => ?_)
  exact wX4_needSide (sx := fun _ => 0) C (Xv_of hR) ThK_no a1 z0 h hP va_S.rf hl
theorem nX4_needSide (l : Launch) (hl0 : l.stackTraces = false) (D : va_G) (cI cJ cZ : ClassId) (ad sx : Nat → Nat) (a1 : Int32) (z0 : SH) : ∀ (E : String) (z1 : SH) (sz : Nat), fX4_needSide a1 z0 = some (.inl E, z1) → vx_Met l yX4_needSide wsX4_needSide (rmX rmX4_needSide) (cPX (thX sx) D vwCl (tyl cI cJ cZ) (wH cI cJ cZ ad z0) sz [.int a1]) (cQno) (cXX D vwCl (wH cI cJ cZ ad) z0 sz E z1) 1 6 (va_A (wH cI cJ cZ ad z0) sz) := by
  intro E z1 sz h
  refine ofX (α := Unit) (cc := cX4_needSide) (maxL := 1) (by decide) rfl (wH_same cI cJ cZ ad) (Nat.le_of_ble_eq_true rfl) hl0 ⟨Nat.le_of_ble_eq_true rfl, Nat.le_of_ble_eq_true rfl⟩ (fun p e s m below meth c ls hsz C hT hP hl => ?_)
  exact wX4_needSide C Xv_no hT a1 z0 h hP va_S.rf hl
abbrev rmX4_order : Room := { frames := 7, cells := 0, slots := 0, locals := 139 }
theorem fX4_order_i10 : Cond.fieldLink RX4 10 (TX4 0).1 (TX4 0).2.1 (TX4 0).2.2.1 ∈ wsX4_order := by decide +kernel
theorem fX4_order_i100 : Cond.fieldLink RX4 100 (TX2 11).1 (TX2 11).2.1 (TX2 11).2.2.1 ∈ wsX4_order := by decide +kernel
theorem fX4_order_i19 : Cond.fieldLink RX4 19 (TX4 1).1 (TX4 1).2.1 (TX4 1).2.2.1 ∈ wsX4_order := by decide +kernel
theorem fX4_order_i97 : Cond.fieldLink RX4 97 (TX2 12).1 (TX2 12).2.1 (TX2 12).2.2.1 ∈ wsX4_order := by decide +kernel
theorem iX4_order_X2 : ∀ x ∈ wsX20, x ∈ wsX4_order := by decide +kernel
theorem iX4_order_X4 : ∀ x ∈ wsX40, x ∈ wsX4_order := by decide +kernel
theorem tX4_order_110 : tSite wsX4_order RX4 cX4_order 110 "java/lang/IllegalStateException" := ⟨58, 103, 62, "there are too many orders", by decide +kernel, by decide +kernel, rfl, by decide +kernel, by decide +kernel, by decide +kernel, by decide +kernel, by decide +kernel, by decide +kernel, dX4_order_110, dX4_order_113, Or.inl ⟨dX4_order_114, dX4_order_116, dX4_order_119⟩⟩
theorem tX4_order_75 : tSite wsX4_order RX4 cX4_order 75 "java/lang/IllegalStateException" := ⟨58, 95, 62, "not enough is free to be held", by decide +kernel, by decide +kernel, rfl, by decide +kernel, by decide +kernel, by decide +kernel, by decide +kernel, by decide +kernel, by decide +kernel, dX4_order_75, dX4_order_78, Or.inl ⟨dX4_order_79, dX4_order_81, dX4_order_84⟩⟩
set_option maxRecDepth 100000 in
set_option maxHeartbeats 4000000 in
theorem wX4_order_110 {p : Program} {l : Launch} {e : Env} {R : Room} {s : State} {m : MethodId} {args : Array Value} {below : List Frame} {meth : Method} {c : Code} {Q : State → Prop} {D : va_G} {cI cJ cZ : ClassId} {ad : Nat → Nat} {A : Nat → Prop} {sx : Nat → Nat} (C : Cx p s m args c cX4_order 11 wsX4_order RX4 D vwCl (tyl cI cJ cZ) (wH cI cJ cZ ad) A R 7 139) {r : ((String ⊕ Int32) × SH)} (hR : Xi p l e R s m args below meth c cX4_order D vwCl (wH cI cJ cZ ad) A Q r) (hT : ThK p l e R s m args below meth c cX4_order 11 wsX4_order RX4 D vwCl (tyl cI cJ cZ) (wH cI cJ cZ ad) A Q r sx) (N : Nat) (z0 : SH) {H : Heap} {locs : List Loc} {ls : Array Slot} (h : fX4_order_110 N z0 = some r) (hP : va_P D vwCl (wH cI cJ cZ ad z0) H) (hS : va_S A s.heap H locs) (hl : lv_has ls 11 []) : W p l e R s m args below meth c H locs 0 0 Q (F0 m 110 ls []) := by
  unfold fX4_order_110 at h
  have hx := C.1.1
  have hb := C.1.2.1
  exact hT.1 110 _ _ _ _ (Option.some.inj h).symm hP hS hl.1 (Or.inl tX4_order_110)
set_option maxRecDepth 100000 in
set_option maxHeartbeats 4000000 in
theorem wX4_order_187 {p : Program} {l : Launch} {e : Env} {R : Room} {s : State} {m : MethodId} {args : Array Value} {below : List Frame} {meth : Method} {c : Code} {Q : State → Prop} {D : va_G} {cI cJ cZ : ClassId} {ad : Nat → Nat} {A : Nat → Prop} {sx : Nat → Nat} (C : Cx p s m args c cX4_order 11 wsX4_order RX4 D vwCl (tyl cI cJ cZ) (wH cI cJ cZ ad) A R 7 139) {r : ((String ⊕ Int32) × SH)} (hR : Xi p l e R s m args below meth c cX4_order D vwCl (wH cI cJ cZ ad) A Q r) (hT : ThK p l e R s m args below meth c cX4_order 11 wsX4_order RX4 D vwCl (tyl cI cJ cZ) (wH cI cJ cZ ad) A Q r sx) (N : Nat) (x8 : Int32) (z0 : SH) {H : Heap} {locs : List Loc} {ls : Array Slot} (h : fX4_order_187 N x8 z0 = some r) (hP : va_P D vwCl (wH cI cJ cZ ad z0) H) (hS : va_S A s.heap H locs) (hl : lv_has ls 11 [(8, .int x8)]) : W p l e R s m args below meth c H locs 0 0 Q (F0 m 187 ls []) := by
  unfold fX4_order_187 at h
  have hx := C.1.1
  have hb := C.1.2.1
  refine lv_iload hx hb dX4_order_187 (lv_at hl 0 rfl) ?_
  exact hR 189 _ _ _ _ _ (Option.some.inj h).symm dX4_order_189 hP hS
set_option maxRecDepth 100000 in
set_option maxHeartbeats 4000000 in
theorem wX4_order_155 {p : Program} {l : Launch} {e : Env} {R : Room} {s : State} {m : MethodId} {args : Array Value} {below : List Frame} {meth : Method} {c : Code} {Q : State → Prop} {D : va_G} {cI cJ cZ : ClassId} {ad : Nat → Nat} {A : Nat → Prop} {sx : Nat → Nat} (C : Cx p s m args c cX4_order 11 wsX4_order RX4 D vwCl (tyl cI cJ cZ) (wH cI cJ cZ ad) A R 7 139) {r : ((String ⊕ Int32) × SH)} (hR : Xi p l e R s m args below meth c cX4_order D vwCl (wH cI cJ cZ ad) A Q r) (hT : ThK p l e R s m args below meth c cX4_order 11 wsX4_order RX4 D vwCl (tyl cI cJ cZ) (wH cI cJ cZ ad) A Q r sx) (N : Nat) (k155 : Int32 → Int32 → Int32 → Int32 → SH → Option ((String ⊕ Int32) × SH)) (K155 : ∀ (x2 : Int32) (x8 : Int32) (x9 : Int32) (x10 : Int32) (z : SH) (H : Heap) (locs : List Loc) (ls : Array Slot), k155 x2 x8 x9 x10 z = some r → va_P D vwCl (wH cI cJ cZ ad z) H → va_S A s.heap H locs → lv_has ls 11 [(0, .ref (ad 0)), (2, .int x2), (8, .int x8), (9, .int x9), (10, .int x10)] → W p l e R s m args below meth c H locs 0 0 Q (F0 m 155 ls [])) (x2 : Int32) (x8 : Int32) (x9 : Int32) (x10 : Int32) (z0 : SH) {H : Heap} {locs : List Loc} {ls : Array Slot} (h : fX4_order_155 N k155 x2 x8 x9 x10 z0 = some r) (hP : va_P D vwCl (wH cI cJ cZ ad z0) H) (hS : va_S A s.heap H locs) (hl : lv_has ls 11 [(0, .ref (ad 0)), (2, .int x2), (8, .int x8), (9, .int x9), (10, .int x10)]) : W p l e R s m args below meth c H locs 0 0 Q (F0 m 155 ls []) := by
  unfold fX4_order_155 at h
  have hx := C.1.1
  have hb := C.1.2.1
  refine lv_iload hx hb dX4_order_155 (lv_at hl 4 rfl) ?_
  refine lv_bipush (v := 100) hx hb dX4_order_157 (by decide) ?_
  refine lv_icmp_gt (tgt := 187) hx hb dX4_order_159 (by decide) (fun c1 => ?_) (fun c1 => ?_)
  · replace h := (ite_h h).1 c1
    exact wX4_order_187 C hR hT N x8 z0 h hP hS (lv_sub hl [2] rfl)
  · replace h := (ite_h h).2 c1
    refine lv_iload hx hb dX4_order_162 (lv_at hl 3 rfl) ?_
    refine lv_iconst (v := -1) hx hb dX4_order_164 (by decide) ?_
    refine lv_icmp_eq (tgt := 187) hx hb dX4_order_165 (by decide) (fun c1 => ?_) (fun c1 => ?_)
    · replace h := (ite_h h).1 c1
      exact wX4_order_187 C hR hT N x8 z0 h hP hS (lv_sub hl [2] rfl)
    · replace h := (ite_h h).2 c1
      refine lv_aload_n hx hb dX4_order_168 rfl (lv_at hl 0 rfl) ?_
      refine lv_iload hx hb dX4_order_169 (lv_at hl 3 rfl) ?_
      refine b_callVv (As := [.int x9]) (rest := []) C hP hS h (mX4_actByKind l D cI cJ cZ ad N x9 z0) (cwV 1 C.1.2.2.2.2 gX4_order_X4_actByKind rfl rfl rfl (by decide +kernel) ⟨Nat.le_trans (Nat.le_of_ble_eq_true rfl) C.2.2.2.2.1, Nat.le_trans (Nat.le_of_ble_eq_true rfl) C.2.2.2.2.2⟩) (va_recv C.2.1 hP (ci := 4) (q0 := 0) rfl (wH_0 cI cJ cZ ad z0)) rfl hl.1 rfl (Nat.le_of_ble_eq_true rfl) dX4_order_171 (fun _ z1 _ _ h hP hS => ?_)
      refine lv_aload_n hx hb dX4_order_174 rfl (lv_at hl 0 rfl) ?_
      refine lv_iload_n hx hb dX4_order_175 rfl (lv_at hl 1 rfl) ?_
      refine b_callVi (As := [.int x2]) (rest := []) C hP hS h (mX4_wakeStop l D cI cJ cZ ad N x2 z1) (cwV 1 C.1.2.2.2.2 gX4_order_X4_wakeStop rfl rfl rfl (by decide +kernel) ⟨Nat.le_trans (Nat.le_of_ble_eq_true rfl) C.2.2.2.2.1, Nat.le_trans (Nat.le_of_ble_eq_true rfl) C.2.2.2.2.2⟩) (va_recv C.2.1 hP (ci := 4) (q0 := 0) rfl (wH_0 cI cJ cZ ad z1)) rfl hl.1 rfl (Nat.le_of_ble_eq_true rfl) dX4_order_176 (fun v3 z2 _ _ h hP hS => ?_)
      refine lv_istore (lv' := [(9, .int v3), (0, .ref (ad 0)), (2, .int x2), (8, .int x8), (10, .int x10)]) hx hb dX4_order_179 hl (by decide) rfl (fun ls hl => ?_)
      refine lv_iinc (v := x10 + 1) (lv' := [(10, .int (x10 + 1)), (9, .int v3), (0, .ref (ad 0)), (2, .int x2), (8, .int x8)]) hx hb dX4_order_181 hl (k := 4) rfl rfl (by decide) rfl (fun ls hl => ?_)
      refine lv_goto (tgt := 155) hx hb dX4_order_184 (by decide) ?_
      exact K155 x2 x8 v3 (x10 + 1) z2 _ _ _ h hP hS (lv_sub hl [2, 3, 4, 1, 0] rfl)
theorem wX4_order_155_L {p : Program} {l : Launch} {e : Env} {R : Room} {s : State} {m : MethodId} {args : Array Value} {below : List Frame} {meth : Method} {c : Code} {Q : State → Prop} {D : va_G} {cI cJ cZ : ClassId} {ad : Nat → Nat} {A : Nat → Prop} {sx : Nat → Nat} (C : Cx p s m args c cX4_order 11 wsX4_order RX4 D vwCl (tyl cI cJ cZ) (wH cI cJ cZ ad) A R 7 139) {r : ((String ⊕ Int32) × SH)} (hR : Xi p l e R s m args below meth c cX4_order D vwCl (wH cI cJ cZ ad) A Q r) (hT : ThK p l e R s m args below meth c cX4_order 11 wsX4_order RX4 D vwCl (tyl cI cJ cZ) (wH cI cJ cZ ad) A Q r sx) (N : Nat) : ∀ (n : Nat), ∀ (x2 : Int32) (x8 : Int32) (x9 : Int32) (x10 : Int32) (z : SH) (H : Heap) (locs : List Loc) (ls : Array Slot), fX4_order_155_L N n x2 x8 x9 x10 z = some r → va_P D vwCl (wH cI cJ cZ ad z) H → va_S A s.heap H locs → lv_has ls 11 [(0, .ref (ad 0)), (2, .int x2), (8, .int x8), (9, .int x9), (10, .int x10)] → W p l e R s m args below meth c H locs 0 0 Q (F0 m 155 ls []) := by
  intro n
  induction n with
  | zero => intro x2 x8 x9 x10 z H locs ls h; exact nomatch (show (none : Option ((String ⊕ Int32) × SH)) = some r from h)
  | succ n ih => intro x2 x8 x9 x10 z H locs ls h hP hS hl; exact wX4_order_155 C hR hT N (fX4_order_155_L N n) ih x2 x8 x9 x10 z (show fX4_order_155 N (fX4_order_155_L N n) x2 x8 x9 x10 z = some r from h) hP hS hl
set_option maxRecDepth 100000 in
set_option maxHeartbeats 4000000 in
theorem wX4_order_58 {p : Program} {l : Launch} {e : Env} {R : Room} {s : State} {m : MethodId} {args : Array Value} {below : List Frame} {meth : Method} {c : Code} {Q : State → Prop} {D : va_G} {cI cJ cZ : ClassId} {ad : Nat → Nat} {A : Nat → Prop} {sx : Nat → Nat} (C : Cx p s m args c cX4_order 11 wsX4_order RX4 D vwCl (tyl cI cJ cZ) (wH cI cJ cZ ad) A R 7 139) {r : ((String ⊕ Int32) × SH)} (hR : Xi p l e R s m args below meth c cX4_order D vwCl (wH cI cJ cZ ad) A Q r) (hT : ThK p l e R s m args below meth c cX4_order 11 wsX4_order RX4 D vwCl (tyl cI cJ cZ) (wH cI cJ cZ ad) A Q r sx) (N : Nat) (x1 : Int32) (x2 : Int32) (x3 : Int32) (x4 : Int32) (x5 : Int32) (x6 : Int32) (x7 : Int32) (z0 : SH) {H : Heap} {locs : List Loc} {ls : Array Slot} (h : fX4_order_58 N x1 x2 x3 x4 x5 x6 x7 z0 = some r) (hP : va_P D vwCl (wH cI cJ cZ ad z0) H) (hS : va_S A s.heap H locs) (hl : lv_has ls 11 [(0, .ref (ad 0)), (1, .int x1), (2, .int x2), (3, .int x3), (4, .int x4), (5, .int x5), (6, .int x6), (7, .int x7)]) : W p l e R s m args below meth c H locs 0 0 Q (F0 m 58 ls []) := by
  unfold fX4_order_58 at h
  have hx := C.1.1
  have hb := C.1.2.1
  refine lv_aload_n hx hb dX4_order_58 rfl (lv_at hl 0 rfl) ?_
  refine b_getr C hP iX4_order_X4 0 (wH_0 cI cJ cZ ad z0) rfl 0 (by decide) fX4_order_i10 rfl rfl dX4_order_59 ?_
  refine lv_iload_n hx hb dX4_order_62 rfl (lv_at hl 1 rfl) ?_
  refine lv_iload_n hx hb dX4_order_63 rfl (lv_at hl 2 rfl) ?_
  refine lv_iload_n hx hb dX4_order_64 rfl (lv_at hl 3 rfl) ?_
  refine lv_iload hx hb dX4_order_65 (lv_at hl 5 rfl) ?_
  refine lv_iload hx hb dX4_order_67 (lv_at hl 6 rfl) ?_
  refine b_callVi (As := [.int x1, .int x2, .int x3, .int x5, .int x6]) (rest := []) C hP hS h (mX1_canHold l D cI cJ cZ ad x1 x2 x3 x5 x6 z0) (cwV 5 C.1.2.2.2.2 gX4_order_X1_canHold rfl rfl rfl (by decide +kernel) ⟨Nat.le_trans (Nat.le_of_ble_eq_true rfl) C.2.2.2.2.1, Nat.le_trans (Nat.le_of_ble_eq_true rfl) C.2.2.2.2.2⟩) (va_recv C.2.1 hP (ci := 1) (q0 := 1) rfl (wH_1 cI cJ cZ ad z0)) rfl hl.1 rfl (Nat.le_of_ble_eq_true rfl) dX4_order_69 (fun v2 z1 _ _ h hP hS => ?_)
  refine lv_if_ne (tgt := 85) hx hb dX4_order_72 (by decide) (fun c1 => ?_) (fun c1 => ?_)
  · replace h := (ite_h h).2 c1
    refine lv_aload_n hx hb dX4_order_85 rfl (lv_at hl 0 rfl) ?_
    refine b_getr C hP iX4_order_X4 0 (wH_0 cI cJ cZ ad z1) rfl 1 (by decide) fX4_order_i19 rfl rfl dX4_order_86 ?_
    refine b_geti C hP h iX4_order_X2 2 (wH_2 cI cJ cZ ad z1) rfl 12 (by decide) fX4_order_i97 rfl rfl dX4_order_89 (fun v3 h => ?_)
    refine lv_bipush (v := 100) hx hb dX4_order_92 (by decide) ?_
    refine lv_icmp_ge (tgt := 110) hx hb dX4_order_94 (by decide) (fun c1 => ?_) (fun c1 => ?_)
    · replace h := (ite_h h).1 c1
      exact wX4_order_110 C hR hT N z1 h hP hS (lv_sub hl [] rfl)
    · replace h := (ite_h h).2 c1
      refine lv_aload_n hx hb dX4_order_97 rfl (lv_at hl 0 rfl) ?_
      refine b_getr C hP iX4_order_X4 0 (wH_0 cI cJ cZ ad z1) rfl 1 (by decide) fX4_order_i19 rfl rfl dX4_order_98 ?_
      refine b_geti C hP h iX4_order_X2 2 (wH_2 cI cJ cZ ad z1) rfl 11 (by decide) fX4_order_i100 rfl rfl dX4_order_101 (fun v4 h => ?_)
      refine lv_sipush (v := 512) hx hb dX4_order_104 (by decide) ?_
      refine lv_icmp_lt (tgt := 120) hx hb dX4_order_107 (by decide) (fun c1 => ?_) (fun c1 => ?_)
      · replace h := (ite_h h).1 c1
        refine lv_aload_n hx hb dX4_order_120 rfl (lv_at hl 0 rfl) ?_
        refine b_getr C hP iX4_order_X4 0 (wH_0 cI cJ cZ ad z1) rfl 1 (by decide) fX4_order_i19 rfl rfl dX4_order_121 ?_
        refine lv_iload_n hx hb dX4_order_124 rfl (lv_at hl 1 rfl) ?_
        refine lv_iload_n hx hb dX4_order_125 rfl (lv_at hl 2 rfl) ?_
        refine lv_iload_n hx hb dX4_order_126 rfl (lv_at hl 3 rfl) ?_
        refine lv_iload hx hb dX4_order_127 (lv_at hl 4 rfl) ?_
        refine lv_iload hx hb dX4_order_129 (lv_at hl 5 rfl) ?_
        refine lv_iload hx hb dX4_order_131 (lv_at hl 6 rfl) ?_
        refine lv_iload hx hb dX4_order_133 (lv_at hl 7 rfl) ?_
        refine b_callVi (As := [.int x1, .int x2, .int x3, .int x4, .int x5, .int x6, .int x7]) (rest := []) C hP hS h (mX2_take l D cI cJ cZ ad x1 x2 x3 x4 x5 x6 x7 z1) (cwV 7 C.1.2.2.2.2 gX4_order_X2_take rfl rfl rfl (by decide +kernel) ⟨Nat.le_trans (Nat.le_of_ble_eq_true rfl) C.2.2.2.2.1, Nat.le_trans (Nat.le_of_ble_eq_true rfl) C.2.2.2.2.2⟩) (va_recv C.2.1 hP (ci := 2) (q0 := 2) rfl (wH_2 cI cJ cZ ad z1)) rfl hl.1 rfl (Nat.le_of_ble_eq_true rfl) dX4_order_135 (fun v6 z5 _ _ h hP hS => ?_)
        refine lv_istore (lv' := [(8, .int v6), (0, .ref (ad 0)), (1, .int x1), (2, .int x2), (3, .int x3), (4, .int x4), (5, .int x5), (6, .int x6), (7, .int x7)]) hx hb dX4_order_138 hl (by decide) rfl (fun ls hl => ?_)
        refine lv_aload_n hx hb dX4_order_140 rfl (lv_at hl 1 rfl) ?_
        refine lv_iload hx hb dX4_order_141 (lv_at hl 0 rfl) ?_
        refine lv_iload hx hb dX4_order_143 (lv_at hl 7 rfl) ?_
        refine b_callVv (As := [.int v6, .int x6]) (rest := []) C hP hS h (mX4_hold l D cI cJ cZ ad v6 x6 z5) (cwV 2 C.1.2.2.2.2 gX4_order_X4_hold rfl rfl rfl (by decide +kernel) ⟨Nat.le_trans (Nat.le_of_ble_eq_true rfl) C.2.2.2.2.1, Nat.le_trans (Nat.le_of_ble_eq_true rfl) C.2.2.2.2.2⟩) (va_recv C.2.1 hP (ci := 4) (q0 := 0) rfl (wH_0 cI cJ cZ ad z5)) rfl hl.1 rfl (Nat.le_of_ble_eq_true rfl) dX4_order_145 (fun _ z7 _ _ h hP hS => ?_)
        refine lv_iload hx hb dX4_order_148 (lv_at hl 0 rfl) ?_
        refine lv_istore (lv' := [(9, .int v6), (8, .int v6), (0, .ref (ad 0)), (1, .int x1), (2, .int x2), (3, .int x3), (4, .int x4), (5, .int x5), (6, .int x6), (7, .int x7)]) hx hb dX4_order_150 hl (by decide) rfl (fun ls hl => ?_)
        refine lv_iconst (v := 0) hx hb dX4_order_152 (by decide) ?_
        refine lv_istore (lv' := [(10, .int 0), (9, .int v6), (8, .int v6), (0, .ref (ad 0)), (1, .int x1), (2, .int x2), (3, .int x3), (4, .int x4), (5, .int x5), (6, .int x6), (7, .int x7)]) hx hb dX4_order_153 hl (by decide) rfl (fun ls hl => ?_)
        exact wX4_order_155_L C hR hT N N x2 v6 v6 0 z7 _ _ _ h hP hS (lv_sub hl [3, 5, 2, 1, 0] rfl)
      · replace h := (ite_h h).2 c1
        exact wX4_order_110 C hR hT N z1 h hP hS (lv_sub hl [] rfl)
  · replace h := (ite_h h).1 c1
    exact hT.1 75 _ _ _ _ (Option.some.inj h).symm hP hS hl.1 (Or.inl tX4_order_75)
set_option maxRecDepth 100000 in
set_option maxHeartbeats 4000000 in
theorem wX4_order_49 {p : Program} {l : Launch} {e : Env} {R : Room} {s : State} {m : MethodId} {args : Array Value} {below : List Frame} {meth : Method} {c : Code} {Q : State → Prop} {D : va_G} {cI cJ cZ : ClassId} {ad : Nat → Nat} {A : Nat → Prop} {sx : Nat → Nat} (C : Cx p s m args c cX4_order 11 wsX4_order RX4 D vwCl (tyl cI cJ cZ) (wH cI cJ cZ ad) A R 7 139) {r : ((String ⊕ Int32) × SH)} (hR : Xi p l e R s m args below meth c cX4_order D vwCl (wH cI cJ cZ ad) A Q r) (hT : ThK p l e R s m args below meth c cX4_order 11 wsX4_order RX4 D vwCl (tyl cI cJ cZ) (wH cI cJ cZ ad) A Q r sx) (N : Nat) (x1 : Int32) (x2 : Int32) (x3 : Int32) (x4 : Int32) (x5 : Int32) (x6 : Int32) (x7 : Int32) (z0 : SH) {H : Heap} {locs : List Loc} {ls : Array Slot} (h : fX4_order_49 N x1 x2 x3 x4 x5 x6 x7 z0 = some r) (hP : va_P D vwCl (wH cI cJ cZ ad z0) H) (hS : va_S A s.heap H locs) (hl : lv_has ls 11 [(0, .ref (ad 0)), (1, .int x1), (2, .int x2), (3, .int x3), (4, .int x4), (5, .int x5), (6, .int x6), (7, .int x7)]) : W p l e R s m args below meth c H locs 0 0 Q (F0 m 49 ls []) := by
  unfold fX4_order_49 at h
  have hx := C.1.1
  have hb := C.1.2.1
  refine lv_iload hx hb dX4_order_49 (lv_at hl 7 rfl) ?_
  refine lv_iconst (v := 1) hx hb dX4_order_51 (by decide) ?_
  refine lv_sipush (v := 10000) hx hb dX4_order_52 (by decide) ?_
  refine b_callXSv (As := [.int x7, .int 1, .int 10000]) (rest := []) C hT hP hS h (mX4_needWithin l D cI cJ cZ ad x7 1 10000 z0) (fun hl0 => nX4_needWithin l hl0 D cI cJ cZ ad _ x7 1 10000 z0) (va_cwS 3 C.1.2.2.2.2 gX4_order_X4_needWithin rfl rfl rfl (by decide +kernel) ⟨Nat.le_trans (Nat.le_of_ble_eq_true rfl) C.2.2.2.2.1, Nat.le_trans (Nat.le_of_ble_eq_true rfl) C.2.2.2.2.2⟩) (fun _ _ => (va_cwS 3 C.1.2.2.2.2 gX4_order_X4_needWithin rfl rfl rfl (by decide +kernel) ⟨Nat.le_trans (Nat.le_of_ble_eq_true rfl) C.2.2.2.2.1, Nat.le_trans (Nat.le_of_ble_eq_true rfl) C.2.2.2.2.2⟩)) rfl hl.1 rfl (Nat.le_of_ble_eq_true rfl) dX4_order_55 (fun _ z1 _ _ h hP hS => ?_)
  exact wX4_order_58 C hR hT N x1 x2 x3 x4 x5 x6 x7 z1 h hP hS (lv_sub hl [0, 1, 2, 3, 4, 5, 6, 7] rfl)
set_option maxRecDepth 100000 in
set_option maxHeartbeats 4000000 in
theorem wX4_order {p : Program} {l : Launch} {e : Env} {R : Room} {s : State} {m : MethodId} {args : Array Value} {below : List Frame} {meth : Method} {c : Code} {Q : State → Prop} {D : va_G} {cI cJ cZ : ClassId} {ad : Nat → Nat} {A : Nat → Prop} {sx : Nat → Nat} (C : Cx p s m args c cX4_order 11 wsX4_order RX4 D vwCl (tyl cI cJ cZ) (wH cI cJ cZ ad) A R 7 139) {r : ((String ⊕ Int32) × SH)} (hR : Xi p l e R s m args below meth c cX4_order D vwCl (wH cI cJ cZ ad) A Q r) (hT : ThK p l e R s m args below meth c cX4_order 11 wsX4_order RX4 D vwCl (tyl cI cJ cZ) (wH cI cJ cZ ad) A Q r sx) (N : Nat) (a1 : Int32) (a2 : Int32) (a3 : Int32) (a4 : Int32) (a5 : Int32) (a6 : Int32) (a7 : Int32) (z0 : SH) {H : Heap} {locs : List Loc} {ls : Array Slot} (h : fX4_order N a1 a2 a3 a4 a5 a6 a7 z0 = some r) (hP : va_P D vwCl (wH cI cJ cZ ad z0) H) (hS : va_S A s.heap H locs) (hl : lv_has ls 11 [(0, .ref (ad 0)), (1, .int a1), (2, .int a2), (3, .int a3), (4, .int a4), (5, .int a5), (6, .int a6), (7, .int a7)]) : W p l e R s m args below meth c H locs 0 0 Q (F0 m 0 ls []) := by
  unfold fX4_order at h
  have hx := C.1.1
  have hb := C.1.2.1
  refine lv_iload_n hx hb dX4_order_0 rfl (lv_at hl 1 rfl) ?_
  refine b_callXSv (As := [.int a1]) (rest := []) C hT hP hS h (mX4_needAccount l D cI cJ cZ ad a1 z0) (fun hl0 => nX4_needAccount l hl0 D cI cJ cZ ad _ a1 z0) (va_cwS 1 C.1.2.2.2.2 gX4_order_X4_needAccount rfl rfl rfl (by decide +kernel) ⟨Nat.le_trans (Nat.le_of_ble_eq_true rfl) C.2.2.2.2.1, Nat.le_trans (Nat.le_of_ble_eq_true rfl) C.2.2.2.2.2⟩) (fun _ _ => (va_cwS 1 C.1.2.2.2.2 gX4_order_X4_needAccount rfl rfl rfl (by decide +kernel) ⟨Nat.le_trans (Nat.le_of_ble_eq_true rfl) C.2.2.2.2.1, Nat.le_trans (Nat.le_of_ble_eq_true rfl) C.2.2.2.2.2⟩)) rfl hl.1 rfl (Nat.le_of_ble_eq_true rfl) dX4_order_1 (fun _ z1 _ _ h hP hS => ?_)
  refine lv_iload_n hx hb dX4_order_4 rfl (lv_at hl 2 rfl) ?_
  refine b_callXSv (As := [.int a2]) (rest := []) C hT hP hS h (mX4_needSymbol l D cI cJ cZ ad a2 z1) (fun hl0 => nX4_needSymbol l hl0 D cI cJ cZ ad _ a2 z1) (va_cwS 1 C.1.2.2.2.2 gX4_order_X4_needSymbol rfl rfl rfl (by decide +kernel) ⟨Nat.le_trans (Nat.le_of_ble_eq_true rfl) C.2.2.2.2.1, Nat.le_trans (Nat.le_of_ble_eq_true rfl) C.2.2.2.2.2⟩) (fun _ _ => (va_cwS 1 C.1.2.2.2.2 gX4_order_X4_needSymbol rfl rfl rfl (by decide +kernel) ⟨Nat.le_trans (Nat.le_of_ble_eq_true rfl) C.2.2.2.2.1, Nat.le_trans (Nat.le_of_ble_eq_true rfl) C.2.2.2.2.2⟩)) rfl hl.1 rfl (Nat.le_of_ble_eq_true rfl) dX4_order_5 (fun _ z2 _ _ h hP hS => ?_)
  refine lv_iload_n hx hb dX4_order_8 rfl (lv_at hl 3 rfl) ?_
  refine b_callXSv (As := [.int a3]) (rest := []) C hT hP hS h (mX4_needSide l D cI cJ cZ ad a3 z2) (fun hl0 => nX4_needSide l hl0 D cI cJ cZ ad _ a3 z2) (va_cwS 1 C.1.2.2.2.2 gX4_order_X4_needSide rfl rfl rfl (by decide +kernel) ⟨Nat.le_trans (Nat.le_of_ble_eq_true rfl) C.2.2.2.2.1, Nat.le_trans (Nat.le_of_ble_eq_true rfl) C.2.2.2.2.2⟩) (fun _ _ => (va_cwS 1 C.1.2.2.2.2 gX4_order_X4_needSide rfl rfl rfl (by decide +kernel) ⟨Nat.le_trans (Nat.le_of_ble_eq_true rfl) C.2.2.2.2.1, Nat.le_trans (Nat.le_of_ble_eq_true rfl) C.2.2.2.2.2⟩)) rfl hl.1 rfl (Nat.le_of_ble_eq_true rfl) dX4_order_9 (fun _ z3 _ _ h hP hS => ?_)
  refine lv_iload hx hb dX4_order_12 (lv_at hl 4 rfl) ?_
  refine lv_iconst (v := 0) hx hb dX4_order_14 (by decide) ?_
  refine lv_iconst (v := 5) hx hb dX4_order_15 (by decide) ?_
  refine b_callXSv (As := [.int a4, .int 0, .int 5]) (rest := []) C hT hP hS h (mX4_needWithin l D cI cJ cZ ad a4 0 5 z3) (fun hl0 => nX4_needWithin l hl0 D cI cJ cZ ad _ a4 0 5 z3) (va_cwS 3 C.1.2.2.2.2 gX4_order_X4_needWithin rfl rfl rfl (by decide +kernel) ⟨Nat.le_trans (Nat.le_of_ble_eq_true rfl) C.2.2.2.2.1, Nat.le_trans (Nat.le_of_ble_eq_true rfl) C.2.2.2.2.2⟩) (fun _ _ => (va_cwS 3 C.1.2.2.2.2 gX4_order_X4_needWithin rfl rfl rfl (by decide +kernel) ⟨Nat.le_trans (Nat.le_of_ble_eq_true rfl) C.2.2.2.2.1, Nat.le_trans (Nat.le_of_ble_eq_true rfl) C.2.2.2.2.2⟩)) rfl hl.1 rfl (Nat.le_of_ble_eq_true rfl) dX4_order_16 (fun _ z4 _ _ h hP hS => ?_)
  refine lv_iload hx hb dX4_order_19 (lv_at hl 5 rfl) ?_
  refine lv_iconst (v := 1) hx hb dX4_order_21 (by decide) ?_
  refine lv_sipush (v := 10000) hx hb dX4_order_22 (by decide) ?_
  refine b_callXSv (As := [.int a5, .int 1, .int 10000]) (rest := []) C hT hP hS h (mX4_needWithin l D cI cJ cZ ad a5 1 10000 z4) (fun hl0 => nX4_needWithin l hl0 D cI cJ cZ ad _ a5 1 10000 z4) (va_cwS 3 C.1.2.2.2.2 gX4_order_X4_needWithin rfl rfl rfl (by decide +kernel) ⟨Nat.le_trans (Nat.le_of_ble_eq_true rfl) C.2.2.2.2.1, Nat.le_trans (Nat.le_of_ble_eq_true rfl) C.2.2.2.2.2⟩) (fun _ _ => (va_cwS 3 C.1.2.2.2.2 gX4_order_X4_needWithin rfl rfl rfl (by decide +kernel) ⟨Nat.le_trans (Nat.le_of_ble_eq_true rfl) C.2.2.2.2.1, Nat.le_trans (Nat.le_of_ble_eq_true rfl) C.2.2.2.2.2⟩)) rfl hl.1 rfl (Nat.le_of_ble_eq_true rfl) dX4_order_25 (fun _ z5 _ _ h hP hS => ?_)
  refine lv_iload hx hb dX4_order_28 (lv_at hl 6 rfl) ?_
  refine lv_iconst (v := 1) hx hb dX4_order_30 (by decide) ?_
  refine lv_sipush (v := 10000) hx hb dX4_order_31 (by decide) ?_
  refine b_callXSv (As := [.int a6, .int 1, .int 10000]) (rest := []) C hT hP hS h (mX4_needWithin l D cI cJ cZ ad a6 1 10000 z5) (fun hl0 => nX4_needWithin l hl0 D cI cJ cZ ad _ a6 1 10000 z5) (va_cwS 3 C.1.2.2.2.2 gX4_order_X4_needWithin rfl rfl rfl (by decide +kernel) ⟨Nat.le_trans (Nat.le_of_ble_eq_true rfl) C.2.2.2.2.1, Nat.le_trans (Nat.le_of_ble_eq_true rfl) C.2.2.2.2.2⟩) (fun _ _ => (va_cwS 3 C.1.2.2.2.2 gX4_order_X4_needWithin rfl rfl rfl (by decide +kernel) ⟨Nat.le_trans (Nat.le_of_ble_eq_true rfl) C.2.2.2.2.1, Nat.le_trans (Nat.le_of_ble_eq_true rfl) C.2.2.2.2.2⟩)) rfl hl.1 rfl (Nat.le_of_ble_eq_true rfl) dX4_order_34 (fun _ z6 _ _ h hP hS => ?_)
  refine lv_iload hx hb dX4_order_37 (lv_at hl 4 rfl) ?_
  refine lv_iconst (v := 4) hx hb dX4_order_39 (by decide) ?_
  refine lv_icmp_eq (tgt := 49) hx hb dX4_order_40 (by decide) (fun c1 => ?_) (fun c1 => ?_)
  · replace h := (ite_h h).1 c1
    exact wX4_order_49 C hR hT N a1 a2 a3 a4 a5 a6 a7 z6 h hP hS (lv_sub hl [0, 1, 2, 3, 4, 5, 6, 7] rfl)
  · replace h := (ite_h h).2 c1
    refine lv_iload hx hb dX4_order_43 (lv_at hl 4 rfl) ?_
    refine lv_iconst (v := 5) hx hb dX4_order_45 (by decide) ?_
    refine lv_icmp_ne (tgt := 58) hx hb dX4_order_46 (by decide) (fun c1 => ?_) (fun c1 => ?_)
    · replace h := (ite_h h).2 c1
      exact wX4_order_58 C hR hT N a1 a2 a3 a4 a5 a6 a7 z6 h hP hS (lv_sub hl [0, 1, 2, 3, 4, 5, 6, 7] rfl)
    · replace h := (ite_h h).1 c1
      exact wX4_order_49 C hR hT N a1 a2 a3 a4 a5 a6 a7 z6 h hP hS (lv_sub hl [0, 1, 2, 3, 4, 5, 6, 7] rfl)
theorem mX4_order (l : Launch) (D : va_G) (cI cJ cZ : ClassId) (ad : Nat → Nat) (N : Nat) (a1 : Int32) (a2 : Int32) (a3 : Int32) (a4 : Int32) (a5 : Int32) (a6 : Int32) (a7 : Int32) (z0 : SH) : ∀ (q : Int32 × SH) (sz : Nat), fX4_order N a1 a2 a3 a4 a5 a6 a7 z0 = some (.inr q.1, q.2) → Met l yX4_order wsX4_order rmX4_order (cP D vwCl (tyl cI cJ cZ) (wH cI cJ cZ ad z0) sz [.ref (ad 0), .int a1, .int a2, .int a3, .int a4, .int a5, .int a6, .int a7]) (cQi D vwCl (wH cI cJ cZ ad) z0 sz q) 0 0 (va_A (wH cI cJ cZ ad z0) sz) := by
  intro q sz h
  refine ofW_i (cc := cX4_order) (maxL := 11) (by decide) rfl (wH_same cI cJ cZ ad) (Nat.le_of_ble_eq_true rfl) (fun p e s m below meth c ls hsz C hR hP hl => ?_)
  exact wX4_order (sx := fun _ => 0) C (Xi_of hR) ThK_no N a1 a2 a3 a4 a5 a6 a7 z0 h hP va_S.rf hl
theorem nX4_order (l : Launch) (hl0 : l.stackTraces = false) (D : va_G) (cI cJ cZ : ClassId) (ad sx : Nat → Nat) (N : Nat) (a1 : Int32) (a2 : Int32) (a3 : Int32) (a4 : Int32) (a5 : Int32) (a6 : Int32) (a7 : Int32) (z0 : SH) : ∀ (E : String) (z1 : SH) (sz : Nat), fX4_order N a1 a2 a3 a4 a5 a6 a7 z0 = some (.inl E, z1) → vx_Met l yX4_order wsX4_order (rmX rmX4_order) (cPX (thX sx) D vwCl (tyl cI cJ cZ) (wH cI cJ cZ ad z0) sz [.ref (ad 0), .int a1, .int a2, .int a3, .int a4, .int a5, .int a6, .int a7]) (cQno) (cXX D vwCl (wH cI cJ cZ ad) z0 sz E z1) 1 6 (va_A (wH cI cJ cZ ad z0) sz) := by
  intro E z1 sz h
  refine ofX (α := Int32) (cc := cX4_order) (maxL := 11) (by decide) rfl (wH_same cI cJ cZ ad) (Nat.le_of_ble_eq_true rfl) hl0 ⟨Nat.le_of_ble_eq_true rfl, Nat.le_of_ble_eq_true rfl⟩ (fun p e s m below meth c ls hsz C hT hP hl => ?_)
  exact wX4_order C Xi_no hT N a1 a2 a3 a4 a5 a6 a7 z0 h hP va_S.rf hl
abbrev rmX4_needOrder : Room := { frames := 6, cells := 0, slots := 0, locals := 82 }
theorem fX4_needOrder_i100 : Cond.fieldLink RX4 100 (TX2 11).1 (TX2 11).2.1 (TX2 11).2.2.1 ∈ wsX4_needOrder := by decide +kernel
theorem fX4_needOrder_i19 : Cond.fieldLink RX4 19 (TX4 1).1 (TX4 1).2.1 (TX4 1).2.2.1 ∈ wsX4_needOrder := by decide +kernel
theorem iX4_needOrder_X2 : ∀ x ∈ wsX20, x ∈ wsX4_needOrder := by decide +kernel
theorem iX4_needOrder_X4 : ∀ x ∈ wsX40, x ∈ wsX4_needOrder := by decide +kernel
theorem tX4_needOrder_15 : tSite wsX4_needOrder RX4 cX4_needOrder 15 "java/lang/IndexOutOfBoundsException" := ⟨179, 285, 183, "no order has this number", by decide +kernel, by decide +kernel, rfl, by decide +kernel, by decide +kernel, by decide +kernel, by decide +kernel, by decide +kernel, by decide +kernel, dX4_needOrder_15, dX4_needOrder_18, Or.inr ⟨dX4_needOrder_19, dX4_needOrder_22, dX4_needOrder_25⟩⟩
set_option maxRecDepth 100000 in
set_option maxHeartbeats 4000000 in
theorem wX4_needOrder_15 {p : Program} {l : Launch} {e : Env} {R : Room} {s : State} {m : MethodId} {args : Array Value} {below : List Frame} {meth : Method} {c : Code} {Q : State → Prop} {D : va_G} {cI cJ cZ : ClassId} {ad : Nat → Nat} {A : Nat → Prop} {sx : Nat → Nat} (C : Cx p s m args c cX4_needOrder 2 wsX4_needOrder RX4 D vwCl (tyl cI cJ cZ) (wH cI cJ cZ ad) A R 6 82) {r : ((String ⊕ Unit) × SH)} (hR : Xv p l e R s m args below meth c cX4_needOrder D vwCl (wH cI cJ cZ ad) A Q r) (hT : ThK p l e R s m args below meth c cX4_needOrder 2 wsX4_needOrder RX4 D vwCl (tyl cI cJ cZ) (wH cI cJ cZ ad) A Q r sx) (z0 : SH) {H : Heap} {locs : List Loc} {ls : Array Slot} (h : fX4_needOrder_15 z0 = some r) (hP : va_P D vwCl (wH cI cJ cZ ad z0) H) (hS : va_S A s.heap H locs) (hl : lv_has ls 2 []) : W p l e R s m args below meth c H locs 0 0 Q (F0 m 15 ls []) := by
  unfold fX4_needOrder_15 at h
  have hx := C.1.1
  have hb := C.1.2.1
  exact hT.1 15 _ _ _ _ (Option.some.inj h).symm hP hS hl.1 (Or.inl tX4_needOrder_15)
set_option maxRecDepth 100000 in
set_option maxHeartbeats 4000000 in
theorem wX4_needOrder {p : Program} {l : Launch} {e : Env} {R : Room} {s : State} {m : MethodId} {args : Array Value} {below : List Frame} {meth : Method} {c : Code} {Q : State → Prop} {D : va_G} {cI cJ cZ : ClassId} {ad : Nat → Nat} {A : Nat → Prop} {sx : Nat → Nat} (C : Cx p s m args c cX4_needOrder 2 wsX4_needOrder RX4 D vwCl (tyl cI cJ cZ) (wH cI cJ cZ ad) A R 6 82) {r : ((String ⊕ Unit) × SH)} (hR : Xv p l e R s m args below meth c cX4_needOrder D vwCl (wH cI cJ cZ ad) A Q r) (hT : ThK p l e R s m args below meth c cX4_needOrder 2 wsX4_needOrder RX4 D vwCl (tyl cI cJ cZ) (wH cI cJ cZ ad) A Q r sx) (a1 : Int32) (z0 : SH) {H : Heap} {locs : List Loc} {ls : Array Slot} (h : fX4_needOrder a1 z0 = some r) (hP : va_P D vwCl (wH cI cJ cZ ad z0) H) (hS : va_S A s.heap H locs) (hl : lv_has ls 2 [(0, .ref (ad 0)), (1, .int a1)]) : W p l e R s m args below meth c H locs 0 0 Q (F0 m 0 ls []) := by
  unfold fX4_needOrder at h
  have hx := C.1.1
  have hb := C.1.2.1
  refine lv_iload_n hx hb dX4_needOrder_0 rfl (lv_at hl 1 rfl) ?_
  refine lv_if_lt (tgt := 15) hx hb dX4_needOrder_1 (by decide) (fun c1 => ?_) (fun c1 => ?_)
  · replace h := (ite_h h).1 c1
    exact wX4_needOrder_15 C hR hT z0 h hP hS (lv_sub hl [] rfl)
  · replace h := (ite_h h).2 c1
    refine lv_iload_n hx hb dX4_needOrder_4 rfl (lv_at hl 1 rfl) ?_
    refine lv_aload_n hx hb dX4_needOrder_5 rfl (lv_at hl 0 rfl) ?_
    refine b_getr C hP iX4_needOrder_X4 0 (wH_0 cI cJ cZ ad z0) rfl 1 (by decide) fX4_needOrder_i19 rfl rfl dX4_needOrder_6 ?_
    refine b_geti C hP h iX4_needOrder_X2 2 (wH_2 cI cJ cZ ad z0) rfl 11 (by decide) fX4_needOrder_i100 rfl rfl dX4_needOrder_9 (fun v1 h => ?_)
    refine lv_icmp_lt (tgt := 26) hx hb dX4_needOrder_12 (by decide) (fun c1 => ?_) (fun c1 => ?_)
    · replace h := (ite_h h).1 c1
      exact hR 26 _ _ _ _ (Option.some.inj h).symm dX4_needOrder_26 hP hS
    · replace h := (ite_h h).2 c1
      exact wX4_needOrder_15 C hR hT z0 h hP hS (lv_sub hl [] rfl)
theorem mX4_needOrder (l : Launch) (D : va_G) (cI cJ cZ : ClassId) (ad : Nat → Nat) (a1 : Int32) (z0 : SH) : ∀ (q : Unit × SH) (sz : Nat), fX4_needOrder a1 z0 = some (.inr q.1, q.2) → Met l yX4_needOrder wsX4_needOrder rmX4_needOrder (cP D vwCl (tyl cI cJ cZ) (wH cI cJ cZ ad z0) sz [.ref (ad 0), .int a1]) (cQv D vwCl (wH cI cJ cZ ad) z0 sz q) 0 0 (va_A (wH cI cJ cZ ad z0) sz) := by
  intro q sz h
  refine ofW_v (cc := cX4_needOrder) (maxL := 2) (by decide) rfl (wH_same cI cJ cZ ad) (Nat.le_of_ble_eq_true rfl) (fun p e s m below meth c ls hsz C hR hP hl => ?_)
  exact wX4_needOrder (sx := fun _ => 0) C (Xv_of hR) ThK_no a1 z0 h hP va_S.rf hl
theorem nX4_needOrder (l : Launch) (hl0 : l.stackTraces = false) (D : va_G) (cI cJ cZ : ClassId) (ad sx : Nat → Nat) (a1 : Int32) (z0 : SH) : ∀ (E : String) (z1 : SH) (sz : Nat), fX4_needOrder a1 z0 = some (.inl E, z1) → vx_Met l yX4_needOrder wsX4_needOrder (rmX rmX4_needOrder) (cPX (thX sx) D vwCl (tyl cI cJ cZ) (wH cI cJ cZ ad z0) sz [.ref (ad 0), .int a1]) (cQno) (cXX D vwCl (wH cI cJ cZ ad) z0 sz E z1) 1 6 (va_A (wH cI cJ cZ ad z0) sz) := by
  intro E z1 sz h
  refine ofX (α := Unit) (cc := cX4_needOrder) (maxL := 2) (by decide) rfl (wH_same cI cJ cZ ad) (Nat.le_of_ble_eq_true rfl) hl0 ⟨Nat.le_of_ble_eq_true rfl, Nat.le_of_ble_eq_true rfl⟩ (fun p e s m below meth c ls hsz C hT hP hl => ?_)
  exact wX4_needOrder C Xv_no hT a1 z0 h hP va_S.rf hl
abbrev rmX4_needOwnOrder : Room := { frames := 7, cells := 0, slots := 0, locals := 103 }
theorem fX4_needOwnOrder_i19 : Cond.fieldLink RX4 19 (TX4 1).1 (TX4 1).2.1 (TX4 1).2.2.1 ∈ wsX4_needOwnOrder := by decide +kernel
theorem fX4_needOwnOrder_i198 : Cond.fieldLink RX4 198 (TX2 0).1 (TX2 0).2.1 (TX2 0).2.2.1 ∈ wsX4_needOwnOrder := by decide +kernel
theorem iX4_needOwnOrder_X2 : ∀ x ∈ wsX20, x ∈ wsX4_needOwnOrder := by decide +kernel
theorem iX4_needOwnOrder_X4 : ∀ x ∈ wsX40, x ∈ wsX4_needOwnOrder := by decide +kernel
theorem tX4_needOwnOrder_22 : tSite wsX4_needOwnOrder RX4 cX4_needOwnOrder 22 "java/lang/IllegalArgumentException" := ⟨132, 287, 136, "the order is of another account", by decide +kernel, by decide +kernel, rfl, by decide +kernel, by decide +kernel, by decide +kernel, by decide +kernel, by decide +kernel, by decide +kernel, dX4_needOwnOrder_22, dX4_needOwnOrder_25, Or.inr ⟨dX4_needOwnOrder_26, dX4_needOwnOrder_29, dX4_needOwnOrder_32⟩⟩
set_option maxRecDepth 100000 in
set_option maxHeartbeats 4000000 in
theorem wX4_needOwnOrder {p : Program} {l : Launch} {e : Env} {R : Room} {s : State} {m : MethodId} {args : Array Value} {below : List Frame} {meth : Method} {c : Code} {Q : State → Prop} {D : va_G} {cI cJ cZ : ClassId} {ad : Nat → Nat} {A : Nat → Prop} {sx : Nat → Nat} (C : Cx p s m args c cX4_needOwnOrder 3 wsX4_needOwnOrder RX4 D vwCl (tyl cI cJ cZ) (wH cI cJ cZ ad) A R 7 103) {r : ((String ⊕ Unit) × SH)} (hR : Xv p l e R s m args below meth c cX4_needOwnOrder D vwCl (wH cI cJ cZ ad) A Q r) (hT : ThK p l e R s m args below meth c cX4_needOwnOrder 3 wsX4_needOwnOrder RX4 D vwCl (tyl cI cJ cZ) (wH cI cJ cZ ad) A Q r sx) (a1 : Int32) (a2 : Int32) (z0 : SH) {H : Heap} {locs : List Loc} {ls : Array Slot} (h : fX4_needOwnOrder a1 a2 z0 = some r) (hP : va_P D vwCl (wH cI cJ cZ ad z0) H) (hS : va_S A s.heap H locs) (hl : lv_has ls 3 [(0, .ref (ad 0)), (1, .int a1), (2, .int a2)]) : W p l e R s m args below meth c H locs 0 0 Q (F0 m 0 ls []) := by
  unfold fX4_needOwnOrder at h
  have hx := C.1.1
  have hb := C.1.2.1
  refine lv_iload_n hx hb dX4_needOwnOrder_0 rfl (lv_at hl 1 rfl) ?_
  refine b_callXSv (As := [.int a1]) (rest := []) C hT hP hS h (mX4_needAccount l D cI cJ cZ ad a1 z0) (fun hl0 => nX4_needAccount l hl0 D cI cJ cZ ad _ a1 z0) (va_cwS 1 C.1.2.2.2.2 gX4_needOwnOrder_X4_needAccount rfl rfl rfl (by decide +kernel) ⟨Nat.le_trans (Nat.le_of_ble_eq_true rfl) C.2.2.2.2.1, Nat.le_trans (Nat.le_of_ble_eq_true rfl) C.2.2.2.2.2⟩) (fun _ _ => (va_cwS 1 C.1.2.2.2.2 gX4_needOwnOrder_X4_needAccount rfl rfl rfl (by decide +kernel) ⟨Nat.le_trans (Nat.le_of_ble_eq_true rfl) C.2.2.2.2.1, Nat.le_trans (Nat.le_of_ble_eq_true rfl) C.2.2.2.2.2⟩)) rfl hl.1 rfl (Nat.le_of_ble_eq_true rfl) dX4_needOwnOrder_1 (fun _ z1 _ _ h hP hS => ?_)
  refine lv_aload_n hx hb dX4_needOwnOrder_4 rfl (lv_at hl 0 rfl) ?_
  refine lv_iload_n hx hb dX4_needOwnOrder_5 rfl (lv_at hl 2 rfl) ?_
  refine b_callXVv (As := [.int a2]) (rest := []) C hT hP hS h (mX4_needOrder l D cI cJ cZ ad a2 z1) (fun hl0 => nX4_needOrder l hl0 D cI cJ cZ ad _ a2 z1) (cwV 1 C.1.2.2.2.2 gX4_needOwnOrder_X4_needOrder rfl rfl rfl (by decide +kernel) ⟨Nat.le_trans (Nat.le_of_ble_eq_true rfl) C.2.2.2.2.1, Nat.le_trans (Nat.le_of_ble_eq_true rfl) C.2.2.2.2.2⟩) (fun _ _ => (cwV 1 C.1.2.2.2.2 gX4_needOwnOrder_X4_needOrder rfl rfl rfl (by decide +kernel) ⟨Nat.le_trans (Nat.le_of_ble_eq_true rfl) C.2.2.2.2.1, Nat.le_trans (Nat.le_of_ble_eq_true rfl) C.2.2.2.2.2⟩)) (va_recv C.2.1 hP (ci := 4) (q0 := 0) rfl (wH_0 cI cJ cZ ad z1)) rfl hl.1 rfl (Nat.le_of_ble_eq_true rfl) dX4_needOwnOrder_6 (fun _ z2 _ _ h hP hS => ?_)
  refine lv_aload_n hx hb dX4_needOwnOrder_9 rfl (lv_at hl 0 rfl) ?_
  refine b_getr C hP iX4_needOwnOrder_X4 0 (wH_0 cI cJ cZ ad z2) rfl 1 (by decide) fX4_needOwnOrder_i19 rfl rfl dX4_needOwnOrder_10 ?_
  refine b_getr C hP iX4_needOwnOrder_X2 2 (wH_2 cI cJ cZ ad z2) rfl 0 (by decide) fX4_needOwnOrder_i198 rfl rfl dX4_needOwnOrder_13 ?_
  refine lv_iload_n hx hb dX4_needOwnOrder_16 rfl (lv_at hl 2 rfl) ?_
  refine b_iald C hP h 12 (wH_12 cI cJ cZ ad z2) 0 rfl dX4_needOwnOrder_17 (fun v3 h => ?_)
  refine lv_iload_n hx hb dX4_needOwnOrder_18 rfl (lv_at hl 1 rfl) ?_
  refine lv_icmp_eq (tgt := 33) hx hb dX4_needOwnOrder_19 (by decide) (fun c1 => ?_) (fun c1 => ?_)
  · replace h := (ite_h h).1 c1
    exact hR 33 _ _ _ _ (Option.some.inj h).symm dX4_needOwnOrder_33 hP hS
  · replace h := (ite_h h).2 c1
    exact hT.1 22 _ _ _ _ (Option.some.inj h).symm hP hS hl.1 (Or.inl tX4_needOwnOrder_22)
theorem mX4_needOwnOrder (l : Launch) (D : va_G) (cI cJ cZ : ClassId) (ad : Nat → Nat) (a1 : Int32) (a2 : Int32) (z0 : SH) : ∀ (q : Unit × SH) (sz : Nat), fX4_needOwnOrder a1 a2 z0 = some (.inr q.1, q.2) → Met l yX4_needOwnOrder wsX4_needOwnOrder rmX4_needOwnOrder (cP D vwCl (tyl cI cJ cZ) (wH cI cJ cZ ad z0) sz [.ref (ad 0), .int a1, .int a2]) (cQv D vwCl (wH cI cJ cZ ad) z0 sz q) 0 0 (va_A (wH cI cJ cZ ad z0) sz) := by
  intro q sz h
  refine ofW_v (cc := cX4_needOwnOrder) (maxL := 3) (by decide) rfl (wH_same cI cJ cZ ad) (Nat.le_of_ble_eq_true rfl) (fun p e s m below meth c ls hsz C hR hP hl => ?_)
  exact wX4_needOwnOrder (sx := fun _ => 0) C (Xv_of hR) ThK_no a1 a2 z0 h hP va_S.rf hl
theorem nX4_needOwnOrder (l : Launch) (hl0 : l.stackTraces = false) (D : va_G) (cI cJ cZ : ClassId) (ad sx : Nat → Nat) (a1 : Int32) (a2 : Int32) (z0 : SH) : ∀ (E : String) (z1 : SH) (sz : Nat), fX4_needOwnOrder a1 a2 z0 = some (.inl E, z1) → vx_Met l yX4_needOwnOrder wsX4_needOwnOrder (rmX rmX4_needOwnOrder) (cPX (thX sx) D vwCl (tyl cI cJ cZ) (wH cI cJ cZ ad z0) sz [.ref (ad 0), .int a1, .int a2]) (cQno) (cXX D vwCl (wH cI cJ cZ ad) z0 sz E z1) 1 6 (va_A (wH cI cJ cZ ad z0) sz) := by
  intro E z1 sz h
  refine ofX (α := Unit) (cc := cX4_needOwnOrder) (maxL := 3) (by decide) rfl (wH_same cI cJ cZ ad) (Nat.le_of_ble_eq_true rfl) hl0 ⟨Nat.le_of_ble_eq_true rfl, Nat.le_of_ble_eq_true rfl⟩ (fun p e s m below meth c ls hsz C hT hP hl => ?_)
  exact wX4_needOwnOrder C Xv_no hT a1 a2 z0 h hP va_S.rf hl
abbrev rmX4_needThere : Room := { frames := 6, cells := 0, slots := 0, locals := 82 }
theorem fX4_needThere_i19 : Cond.fieldLink RX4 19 (TX4 1).1 (TX4 1).2.1 (TX4 1).2.2.1 ∈ wsX4_needThere := by decide +kernel
theorem iX4_needThere_X4 : ∀ x ∈ wsX40, x ∈ wsX4_needThere := by decide +kernel
theorem tX4_needThere_11 : tSite wsX4_needThere RX4 cX4_needThere 11 "java/lang/IllegalStateException" := ⟨58, 289, 62, "the order is not there any more", by decide +kernel, by decide +kernel, rfl, by decide +kernel, by decide +kernel, by decide +kernel, by decide +kernel, by decide +kernel, by decide +kernel, dX4_needThere_11, dX4_needThere_14, Or.inr ⟨dX4_needThere_15, dX4_needThere_18, dX4_needThere_21⟩⟩
set_option maxRecDepth 100000 in
set_option maxHeartbeats 4000000 in
theorem wX4_needThere {p : Program} {l : Launch} {e : Env} {R : Room} {s : State} {m : MethodId} {args : Array Value} {below : List Frame} {meth : Method} {c : Code} {Q : State → Prop} {D : va_G} {cI cJ cZ : ClassId} {ad : Nat → Nat} {A : Nat → Prop} {sx : Nat → Nat} (C : Cx p s m args c cX4_needThere 2 wsX4_needThere RX4 D vwCl (tyl cI cJ cZ) (wH cI cJ cZ ad) A R 6 82) {r : ((String ⊕ Unit) × SH)} (hR : Xv p l e R s m args below meth c cX4_needThere D vwCl (wH cI cJ cZ ad) A Q r) (hT : ThK p l e R s m args below meth c cX4_needThere 2 wsX4_needThere RX4 D vwCl (tyl cI cJ cZ) (wH cI cJ cZ ad) A Q r sx) (a1 : Int32) (z0 : SH) {H : Heap} {locs : List Loc} {ls : Array Slot} (h : fX4_needThere a1 z0 = some r) (hP : va_P D vwCl (wH cI cJ cZ ad z0) H) (hS : va_S A s.heap H locs) (hl : lv_has ls 2 [(0, .ref (ad 0)), (1, .int a1)]) : W p l e R s m args below meth c H locs 0 0 Q (F0 m 0 ls []) := by
  unfold fX4_needThere at h
  have hx := C.1.1
  have hb := C.1.2.1
  refine lv_aload_n hx hb dX4_needThere_0 rfl (lv_at hl 0 rfl) ?_
  refine b_getr C hP iX4_needThere_X4 0 (wH_0 cI cJ cZ ad z0) rfl 1 (by decide) fX4_needThere_i19 rfl rfl dX4_needThere_1 ?_
  refine lv_iload_n hx hb dX4_needThere_4 rfl (lv_at hl 1 rfl) ?_
  refine b_callVi (As := [.int a1]) (rest := []) C hP hS h (mX2_isThere l D cI cJ cZ ad a1 z0) (cwV 1 C.1.2.2.2.2 gX4_needThere_X2_isThere rfl rfl rfl (by decide +kernel) ⟨Nat.le_trans (Nat.le_of_ble_eq_true rfl) C.2.2.2.2.1, Nat.le_trans (Nat.le_of_ble_eq_true rfl) C.2.2.2.2.2⟩) (va_recv C.2.1 hP (ci := 2) (q0 := 2) rfl (wH_2 cI cJ cZ ad z0)) rfl hl.1 rfl (Nat.le_of_ble_eq_true rfl) dX4_needThere_5 (fun v2 z1 _ _ h hP hS => ?_)
  refine lv_if_ne (tgt := 22) hx hb dX4_needThere_8 (by decide) (fun c1 => ?_) (fun c1 => ?_)
  · replace h := (ite_h h).2 c1
    exact hR 22 _ _ _ _ (Option.some.inj h).symm dX4_needThere_22 hP hS
  · replace h := (ite_h h).1 c1
    exact hT.1 11 _ _ _ _ (Option.some.inj h).symm hP hS hl.1 (Or.inl tX4_needThere_11)
theorem mX4_needThere (l : Launch) (D : va_G) (cI cJ cZ : ClassId) (ad : Nat → Nat) (a1 : Int32) (z0 : SH) : ∀ (q : Unit × SH) (sz : Nat), fX4_needThere a1 z0 = some (.inr q.1, q.2) → Met l yX4_needThere wsX4_needThere rmX4_needThere (cP D vwCl (tyl cI cJ cZ) (wH cI cJ cZ ad z0) sz [.ref (ad 0), .int a1]) (cQv D vwCl (wH cI cJ cZ ad) z0 sz q) 0 0 (va_A (wH cI cJ cZ ad z0) sz) := by
  intro q sz h
  refine ofW_v (cc := cX4_needThere) (maxL := 2) (by decide) rfl (wH_same cI cJ cZ ad) (Nat.le_of_ble_eq_true rfl) (fun p e s m below meth c ls hsz C hR hP hl => ?_)
  exact wX4_needThere (sx := fun _ => 0) C (Xv_of hR) ThK_no a1 z0 h hP va_S.rf hl
theorem nX4_needThere (l : Launch) (hl0 : l.stackTraces = false) (D : va_G) (cI cJ cZ : ClassId) (ad sx : Nat → Nat) (a1 : Int32) (z0 : SH) : ∀ (E : String) (z1 : SH) (sz : Nat), fX4_needThere a1 z0 = some (.inl E, z1) → vx_Met l yX4_needThere wsX4_needThere (rmX rmX4_needThere) (cPX (thX sx) D vwCl (tyl cI cJ cZ) (wH cI cJ cZ ad z0) sz [.ref (ad 0), .int a1]) (cQno) (cXX D vwCl (wH cI cJ cZ ad) z0 sz E z1) 1 6 (va_A (wH cI cJ cZ ad z0) sz) := by
  intro E z1 sz h
  refine ofX (α := Unit) (cc := cX4_needThere) (maxL := 2) (by decide) rfl (wH_same cI cJ cZ ad) (Nat.le_of_ble_eq_true rfl) hl0 ⟨Nat.le_of_ble_eq_true rfl, Nat.le_of_ble_eq_true rfl⟩ (fun p e s m below meth c ls hsz C hT hP hl => ?_)
  exact wX4_needThere C Xv_no hT a1 z0 h hP va_S.rf hl
abbrev rmX4_cancel : Room := { frames := 8, cells := 0, slots := 0, locals := 125 }
theorem fX4_cancel_i126 : Cond.fieldLink RX4 126 (TX2 6).1 (TX2 6).2.1 (TX2 6).2.2.1 ∈ wsX4_cancel := by decide +kernel
theorem fX4_cancel_i19 : Cond.fieldLink RX4 19 (TX4 1).1 (TX4 1).2.1 (TX4 1).2.2.1 ∈ wsX4_cancel := by decide +kernel
theorem iX4_cancel_X2 : ∀ x ∈ wsX20, x ∈ wsX4_cancel := by decide +kernel
theorem iX4_cancel_X4 : ∀ x ∈ wsX40, x ∈ wsX4_cancel := by decide +kernel
set_option maxRecDepth 100000 in
set_option maxHeartbeats 4000000 in
theorem wX4_cancel {p : Program} {l : Launch} {e : Env} {R : Room} {s : State} {m : MethodId} {args : Array Value} {below : List Frame} {meth : Method} {c : Code} {Q : State → Prop} {D : va_G} {cI cJ cZ : ClassId} {ad : Nat → Nat} {A : Nat → Prop} {sx : Nat → Nat} (C : Cx p s m args c cX4_cancel 4 wsX4_cancel RX4 D vwCl (tyl cI cJ cZ) (wH cI cJ cZ ad) A R 8 125) {r : ((String ⊕ Int32) × SH)} (hR : Xi p l e R s m args below meth c cX4_cancel D vwCl (wH cI cJ cZ ad) A Q r) (hT : ThK p l e R s m args below meth c cX4_cancel 4 wsX4_cancel RX4 D vwCl (tyl cI cJ cZ) (wH cI cJ cZ ad) A Q r sx) (N : Nat) (a1 : Int32) (a2 : Int32) (z0 : SH) {H : Heap} {locs : List Loc} {ls : Array Slot} (h : fX4_cancel N a1 a2 z0 = some r) (hP : va_P D vwCl (wH cI cJ cZ ad z0) H) (hS : va_S A s.heap H locs) (hl : lv_has ls 4 [(0, .ref (ad 0)), (1, .int a1), (2, .int a2)]) : W p l e R s m args below meth c H locs 0 0 Q (F0 m 0 ls []) := by
  unfold fX4_cancel at h
  have hx := C.1.1
  have hb := C.1.2.1
  refine lv_aload_n hx hb dX4_cancel_0 rfl (lv_at hl 0 rfl) ?_
  refine lv_iload_n hx hb dX4_cancel_1 rfl (lv_at hl 1 rfl) ?_
  refine lv_iload_n hx hb dX4_cancel_2 rfl (lv_at hl 2 rfl) ?_
  refine b_callXVv (As := [.int a1, .int a2]) (rest := []) C hT hP hS h (mX4_needOwnOrder l D cI cJ cZ ad a1 a2 z0) (fun hl0 => nX4_needOwnOrder l hl0 D cI cJ cZ ad _ a1 a2 z0) (cwV 2 C.1.2.2.2.2 gX4_cancel_X4_needOwnOrder rfl rfl rfl (by decide +kernel) ⟨Nat.le_trans (Nat.le_of_ble_eq_true rfl) C.2.2.2.2.1, Nat.le_trans (Nat.le_of_ble_eq_true rfl) C.2.2.2.2.2⟩) (fun _ _ => (cwV 2 C.1.2.2.2.2 gX4_cancel_X4_needOwnOrder rfl rfl rfl (by decide +kernel) ⟨Nat.le_trans (Nat.le_of_ble_eq_true rfl) C.2.2.2.2.1, Nat.le_trans (Nat.le_of_ble_eq_true rfl) C.2.2.2.2.2⟩)) (va_recv C.2.1 hP (ci := 4) (q0 := 0) rfl (wH_0 cI cJ cZ ad z0)) rfl hl.1 rfl (Nat.le_of_ble_eq_true rfl) dX4_cancel_3 (fun _ z1 _ _ h hP hS => ?_)
  refine lv_aload_n hx hb dX4_cancel_6 rfl (lv_at hl 0 rfl) ?_
  refine lv_iload_n hx hb dX4_cancel_7 rfl (lv_at hl 2 rfl) ?_
  refine b_callXVv (As := [.int a2]) (rest := []) C hT hP hS h (mX4_needThere l D cI cJ cZ ad a2 z1) (fun hl0 => nX4_needThere l hl0 D cI cJ cZ ad _ a2 z1) (cwV 1 C.1.2.2.2.2 gX4_cancel_X4_needThere rfl rfl rfl (by decide +kernel) ⟨Nat.le_trans (Nat.le_of_ble_eq_true rfl) C.2.2.2.2.1, Nat.le_trans (Nat.le_of_ble_eq_true rfl) C.2.2.2.2.2⟩) (fun _ _ => (cwV 1 C.1.2.2.2.2 gX4_cancel_X4_needThere rfl rfl rfl (by decide +kernel) ⟨Nat.le_trans (Nat.le_of_ble_eq_true rfl) C.2.2.2.2.1, Nat.le_trans (Nat.le_of_ble_eq_true rfl) C.2.2.2.2.2⟩)) (va_recv C.2.1 hP (ci := 4) (q0 := 0) rfl (wH_0 cI cJ cZ ad z1)) rfl hl.1 rfl (Nat.le_of_ble_eq_true rfl) dX4_cancel_8 (fun _ z2 _ _ h hP hS => ?_)
  refine lv_aload_n hx hb dX4_cancel_11 rfl (lv_at hl 0 rfl) ?_
  refine b_getr C hP iX4_cancel_X4 0 (wH_0 cI cJ cZ ad z2) rfl 1 (by decide) fX4_cancel_i19 rfl rfl dX4_cancel_12 ?_
  refine b_getr C hP iX4_cancel_X2 2 (wH_2 cI cJ cZ ad z2) rfl 6 (by decide) fX4_cancel_i126 rfl rfl dX4_cancel_15 ?_
  refine lv_iload_n hx hb dX4_cancel_18 rfl (lv_at hl 2 rfl) ?_
  refine b_iald C hP h 18 (wH_18 cI cJ cZ ad z2) 0 rfl dX4_cancel_19 (fun v3 h => ?_)
  refine lv_istore_n (lv' := [(3, .int v3), (0, .ref (ad 0)), (1, .int a1), (2, .int a2)]) hx hb dX4_cancel_20 rfl hl (by decide) rfl (fun ls hl => ?_)
  refine lv_aload_n hx hb dX4_cancel_21 rfl (lv_at hl 1 rfl) ?_
  refine lv_iload_n hx hb dX4_cancel_22 rfl (lv_at hl 3 rfl) ?_
  refine b_callVv (As := [.int a2]) (rest := []) C hP hS h (mX4_takeAway l D cI cJ cZ ad N a2 z2) (cwV 1 C.1.2.2.2.2 gX4_cancel_X4_takeAway rfl rfl rfl (by decide +kernel) ⟨Nat.le_trans (Nat.le_of_ble_eq_true rfl) C.2.2.2.2.1, Nat.le_trans (Nat.le_of_ble_eq_true rfl) C.2.2.2.2.2⟩) (va_recv C.2.1 hP (ci := 4) (q0 := 0) rfl (wH_0 cI cJ cZ ad z2)) rfl hl.1 rfl (Nat.le_of_ble_eq_true rfl) dX4_cancel_23 (fun _ z4 _ _ h hP hS => ?_)
  refine lv_iload_n hx hb dX4_cancel_26 rfl (lv_at hl 0 rfl) ?_
  exact hR 27 _ _ _ _ _ (Option.some.inj h).symm dX4_cancel_27 hP hS
theorem mX4_cancel (l : Launch) (D : va_G) (cI cJ cZ : ClassId) (ad : Nat → Nat) (N : Nat) (a1 : Int32) (a2 : Int32) (z0 : SH) : ∀ (q : Int32 × SH) (sz : Nat), fX4_cancel N a1 a2 z0 = some (.inr q.1, q.2) → Met l yX4_cancel wsX4_cancel rmX4_cancel (cP D vwCl (tyl cI cJ cZ) (wH cI cJ cZ ad z0) sz [.ref (ad 0), .int a1, .int a2]) (cQi D vwCl (wH cI cJ cZ ad) z0 sz q) 0 0 (va_A (wH cI cJ cZ ad z0) sz) := by
  intro q sz h
  refine ofW_i (cc := cX4_cancel) (maxL := 4) (by decide) rfl (wH_same cI cJ cZ ad) (Nat.le_of_ble_eq_true rfl) (fun p e s m below meth c ls hsz C hR hP hl => ?_)
  exact wX4_cancel (sx := fun _ => 0) C (Xi_of hR) ThK_no N a1 a2 z0 h hP va_S.rf hl
theorem nX4_cancel (l : Launch) (hl0 : l.stackTraces = false) (D : va_G) (cI cJ cZ : ClassId) (ad sx : Nat → Nat) (N : Nat) (a1 : Int32) (a2 : Int32) (z0 : SH) : ∀ (E : String) (z1 : SH) (sz : Nat), fX4_cancel N a1 a2 z0 = some (.inl E, z1) → vx_Met l yX4_cancel wsX4_cancel (rmX rmX4_cancel) (cPX (thX sx) D vwCl (tyl cI cJ cZ) (wH cI cJ cZ ad z0) sz [.ref (ad 0), .int a1, .int a2]) (cQno) (cXX D vwCl (wH cI cJ cZ ad) z0 sz E z1) 1 6 (va_A (wH cI cJ cZ ad z0) sz) := by
  intro E z1 sz h
  refine ofX (α := Int32) (cc := cX4_cancel) (maxL := 4) (by decide) rfl (wH_same cI cJ cZ ad) (Nat.le_of_ble_eq_true rfl) hl0 ⟨Nat.le_of_ble_eq_true rfl, Nat.le_of_ble_eq_true rfl⟩ (fun p e s m below meth c ls hsz C hT hP hl => ?_)
  exact wX4_cancel C Xi_no hT N a1 a2 z0 h hP va_S.rf hl
abbrev rmX4_reduce : Room := { frames := 8, cells := 0, slots := 0, locals := 125 }
theorem fX4_reduce_i126 : Cond.fieldLink RX4 126 (TX2 6).1 (TX2 6).2.1 (TX2 6).2.2.1 ∈ wsX4_reduce := by decide +kernel
theorem fX4_reduce_i139 : Cond.fieldLink RX4 139 (TX2 7).1 (TX2 7).2.1 (TX2 7).2.2.1 ∈ wsX4_reduce := by decide +kernel
theorem fX4_reduce_i19 : Cond.fieldLink RX4 19 (TX4 1).1 (TX4 1).2.1 (TX4 1).2.2.1 ∈ wsX4_reduce := by decide +kernel
theorem iX4_reduce_X2 : ∀ x ∈ wsX20, x ∈ wsX4_reduce := by decide +kernel
theorem iX4_reduce_X4 : ∀ x ∈ wsX40, x ∈ wsX4_reduce := by decide +kernel
theorem lX4_reduce_142 : Cond.methodLink RX4 142 Lib.Math.min.name ∈ wsX4_reduce := by decide +kernel
theorem lcX4_reduce_min : Cond.code Lib.Math.min.name Lib.Math.min.code 2 (some .int) ∈ wsX4_reduce := by decide +kernel
theorem liX4_reduce : Cond.initialized "java/lang/Math" ∈ wsX4_reduce := by decide +kernel
theorem lsX4_reduce_min : Cond.static Lib.Math.min.name ∈ wsX4_reduce := by decide +kernel
theorem tX4_reduce_39 : tSite wsX4_reduce RX4 cX4_reduce 39 "java/lang/IllegalStateException" := ⟨58, 137, 62, "not more than that is left", by decide +kernel, by decide +kernel, rfl, by decide +kernel, by decide +kernel, by decide +kernel, by decide +kernel, by decide +kernel, by decide +kernel, dX4_reduce_39, dX4_reduce_42, Or.inl ⟨dX4_reduce_43, dX4_reduce_45, dX4_reduce_48⟩⟩
theorem tX4_reduce_11 : tSite wsX4_reduce RX4 cX4_reduce 11 "java/lang/IllegalArgumentException" := ⟨132, 134, 136, "less is below 1", by decide +kernel, by decide +kernel, rfl, by decide +kernel, by decide +kernel, by decide +kernel, by decide +kernel, by decide +kernel, by decide +kernel, dX4_reduce_11, dX4_reduce_14, Or.inl ⟨dX4_reduce_15, dX4_reduce_17, dX4_reduce_20⟩⟩
set_option maxRecDepth 100000 in
set_option maxHeartbeats 4000000 in
theorem wX4_reduce {p : Program} {l : Launch} {e : Env} {R : Room} {s : State} {m : MethodId} {args : Array Value} {below : List Frame} {meth : Method} {c : Code} {Q : State → Prop} {D : va_G} {cI cJ cZ : ClassId} {ad : Nat → Nat} {A : Nat → Prop} {sx : Nat → Nat} (C : Cx p s m args c cX4_reduce 4 wsX4_reduce RX4 D vwCl (tyl cI cJ cZ) (wH cI cJ cZ ad) A R 8 125) {r : ((String ⊕ Int32) × SH)} (hR : Xi p l e R s m args below meth c cX4_reduce D vwCl (wH cI cJ cZ ad) A Q r) (hT : ThK p l e R s m args below meth c cX4_reduce 4 wsX4_reduce RX4 D vwCl (tyl cI cJ cZ) (wH cI cJ cZ ad) A Q r sx) (a1 : Int32) (a2 : Int32) (a3 : Int32) (z0 : SH) {H : Heap} {locs : List Loc} {ls : Array Slot} (h : fX4_reduce a1 a2 a3 z0 = some r) (hP : va_P D vwCl (wH cI cJ cZ ad z0) H) (hS : va_S A s.heap H locs) (hl : lv_has ls 4 [(0, .ref (ad 0)), (1, .int a1), (2, .int a2), (3, .int a3)]) : W p l e R s m args below meth c H locs 0 0 Q (F0 m 0 ls []) := by
  unfold fX4_reduce at h
  have hx := C.1.1
  have hb := C.1.2.1
  refine lv_aload_n hx hb dX4_reduce_0 rfl (lv_at hl 0 rfl) ?_
  refine lv_iload_n hx hb dX4_reduce_1 rfl (lv_at hl 1 rfl) ?_
  refine lv_iload_n hx hb dX4_reduce_2 rfl (lv_at hl 2 rfl) ?_
  refine b_callXVv (As := [.int a1, .int a2]) (rest := []) C hT hP hS h (mX4_needOwnOrder l D cI cJ cZ ad a1 a2 z0) (fun hl0 => nX4_needOwnOrder l hl0 D cI cJ cZ ad _ a1 a2 z0) (cwV 2 C.1.2.2.2.2 gX4_reduce_X4_needOwnOrder rfl rfl rfl (by decide +kernel) ⟨Nat.le_trans (Nat.le_of_ble_eq_true rfl) C.2.2.2.2.1, Nat.le_trans (Nat.le_of_ble_eq_true rfl) C.2.2.2.2.2⟩) (fun _ _ => (cwV 2 C.1.2.2.2.2 gX4_reduce_X4_needOwnOrder rfl rfl rfl (by decide +kernel) ⟨Nat.le_trans (Nat.le_of_ble_eq_true rfl) C.2.2.2.2.1, Nat.le_trans (Nat.le_of_ble_eq_true rfl) C.2.2.2.2.2⟩)) (va_recv C.2.1 hP (ci := 4) (q0 := 0) rfl (wH_0 cI cJ cZ ad z0)) rfl hl.1 rfl (Nat.le_of_ble_eq_true rfl) dX4_reduce_3 (fun _ z1 _ _ h hP hS => ?_)
  refine lv_iload_n hx hb dX4_reduce_6 rfl (lv_at hl 3 rfl) ?_
  refine lv_iconst (v := 1) hx hb dX4_reduce_7 (by decide) ?_
  refine lv_icmp_ge (tgt := 21) hx hb dX4_reduce_8 (by decide) (fun c1 => ?_) (fun c1 => ?_)
  · replace h := (ite_h h).1 c1
    refine lv_aload_n hx hb dX4_reduce_21 rfl (lv_at hl 0 rfl) ?_
    refine lv_iload_n hx hb dX4_reduce_22 rfl (lv_at hl 2 rfl) ?_
    refine b_callXVv (As := [.int a2]) (rest := []) C hT hP hS h (mX4_needThere l D cI cJ cZ ad a2 z1) (fun hl0 => nX4_needThere l hl0 D cI cJ cZ ad _ a2 z1) (cwV 1 C.1.2.2.2.2 gX4_reduce_X4_needThere rfl rfl rfl (by decide +kernel) ⟨Nat.le_trans (Nat.le_of_ble_eq_true rfl) C.2.2.2.2.1, Nat.le_trans (Nat.le_of_ble_eq_true rfl) C.2.2.2.2.2⟩) (fun _ _ => (cwV 1 C.1.2.2.2.2 gX4_reduce_X4_needThere rfl rfl rfl (by decide +kernel) ⟨Nat.le_trans (Nat.le_of_ble_eq_true rfl) C.2.2.2.2.1, Nat.le_trans (Nat.le_of_ble_eq_true rfl) C.2.2.2.2.2⟩)) (va_recv C.2.1 hP (ci := 4) (q0 := 0) rfl (wH_0 cI cJ cZ ad z1)) rfl hl.1 rfl (Nat.le_of_ble_eq_true rfl) dX4_reduce_23 (fun _ z2 _ _ h hP hS => ?_)
    refine lv_aload_n hx hb dX4_reduce_26 rfl (lv_at hl 0 rfl) ?_
    refine b_getr C hP iX4_reduce_X4 0 (wH_0 cI cJ cZ ad z2) rfl 1 (by decide) fX4_reduce_i19 rfl rfl dX4_reduce_27 ?_
    refine b_getr C hP iX4_reduce_X2 2 (wH_2 cI cJ cZ ad z2) rfl 6 (by decide) fX4_reduce_i126 rfl rfl dX4_reduce_30 ?_
    refine lv_iload_n hx hb dX4_reduce_33 rfl (lv_at hl 2 rfl) ?_
    refine b_iald C hP h 18 (wH_18 cI cJ cZ ad z2) 0 rfl dX4_reduce_34 (fun v3 h => ?_)
    refine lv_iload_n hx hb dX4_reduce_35 rfl (lv_at hl 3 rfl) ?_
    refine lv_icmp_gt (tgt := 49) hx hb dX4_reduce_36 (by decide) (fun c1 => ?_) (fun c1 => ?_)
    · replace h := (ite_h h).1 c1
      refine lv_aload_n hx hb dX4_reduce_49 rfl (lv_at hl 0 rfl) ?_
      refine b_getr C hP iX4_reduce_X4 0 (wH_0 cI cJ cZ ad z2) rfl 1 (by decide) fX4_reduce_i19 rfl rfl dX4_reduce_50 ?_
      refine b_getr C hP iX4_reduce_X2 2 (wH_2 cI cJ cZ ad z2) rfl 6 (by decide) fX4_reduce_i126 rfl rfl dX4_reduce_53 ?_
      refine lv_iload_n hx hb dX4_reduce_56 rfl (lv_at hl 2 rfl) ?_
      refine lv_dup2_11 hx hb dX4_reduce_57 rfl rfl ?_
      refine b_iald C hP h 18 (wH_18 cI cJ cZ ad z2) 0 rfl dX4_reduce_58 (fun v4 h => ?_)
      refine lv_iload_n hx hb dX4_reduce_59 rfl (lv_at hl 3 rfl) ?_
      refine lv_isub hx hb dX4_reduce_60 ?_
      refine b_iast C hP hS h 18 (wH_18 cI cJ cZ ad z2) 0 rfl (wH_s18 cI cJ cZ ad z2 _ _) dX4_reduce_61 (fun z5 _ _ h hP hS => ?_)
      refine lv_aload_n hx hb dX4_reduce_62 rfl (lv_at hl 0 rfl) ?_
      refine b_getr C hP iX4_reduce_X4 0 (wH_0 cI cJ cZ ad z5) rfl 1 (by decide) fX4_reduce_i19 rfl rfl dX4_reduce_63 ?_
      refine b_getr C hP iX4_reduce_X2 2 (wH_2 cI cJ cZ ad z5) rfl 7 (by decide) fX4_reduce_i139 rfl rfl dX4_reduce_66 ?_
      refine lv_iload_n hx hb dX4_reduce_69 rfl (lv_at hl 2 rfl) ?_
      refine lv_aload_n hx hb dX4_reduce_70 rfl (lv_at hl 0 rfl) ?_
      refine b_getr C hP iX4_reduce_X4 0 (wH_0 cI cJ cZ ad z5) rfl 1 (by decide) fX4_reduce_i19 rfl rfl dX4_reduce_71 ?_
      refine b_getr C hP iX4_reduce_X2 2 (wH_2 cI cJ cZ ad z5) rfl 7 (by decide) fX4_reduce_i139 rfl rfl dX4_reduce_74 ?_
      refine lv_iload_n hx hb dX4_reduce_77 rfl (lv_at hl 2 rfl) ?_
      refine b_iald C hP h 19 (wH_19 cI cJ cZ ad z5) 0 rfl dX4_reduce_78 (fun v6 h => ?_)
      refine lv_aload_n hx hb dX4_reduce_79 rfl (lv_at hl 0 rfl) ?_
      refine b_getr C hP iX4_reduce_X4 0 (wH_0 cI cJ cZ ad z5) rfl 1 (by decide) fX4_reduce_i19 rfl rfl dX4_reduce_80 ?_
      refine b_getr C hP iX4_reduce_X2 2 (wH_2 cI cJ cZ ad z5) rfl 6 (by decide) fX4_reduce_i126 rfl rfl dX4_reduce_83 ?_
      refine lv_iload_n hx hb dX4_reduce_86 rfl (lv_at hl 2 rfl) ?_
      refine b_iald C hP h 18 (wH_18 cI cJ cZ ad z5) 0 rfl dX4_reduce_87 (fun v7 h => ?_)
      refine va_mmin hx hb (C.1.2.2.1.trans hl.1.symm) C.1.2.2.2.1 (C.1.2.2.2.2 _ lX4_reduce_142) (C.1.2.2.2.2 _ lsX4_reduce_min) (C.1.2.2.2.2 _ liX4_reduce) (C.1.2.2.2.2 _ lcX4_reduce_min) (Nat.le_trans (Nat.le_of_ble_eq_true rfl) C.2.2.2.2.1) (Nat.le_trans (Nat.le_of_ble_eq_true rfl) C.2.2.2.2.2) (Nat.zero_le _) (Nat.zero_le _) dX4_reduce_88 ?_
      refine b_iast C hP hS h 19 (wH_19 cI cJ cZ ad z5) 0 rfl (wH_s19 cI cJ cZ ad z5 _ _) dX4_reduce_91 (fun z8 _ _ h hP hS => ?_)
      refine lv_aload_n hx hb dX4_reduce_92 rfl (lv_at hl 0 rfl) ?_
      refine lv_iload_n hx hb dX4_reduce_93 rfl (lv_at hl 2 rfl) ?_
      refine lv_iload_n hx hb dX4_reduce_94 rfl (lv_at hl 3 rfl) ?_
      refine lv_ineg hx hb dX4_reduce_95 ?_
      refine b_callVv (As := [.int a2, .int (-a3)]) (rest := []) C hP hS h (mX4_hold l D cI cJ cZ ad a2 (-a3) z8) (cwV 2 C.1.2.2.2.2 gX4_reduce_X4_hold rfl rfl rfl (by decide +kernel) ⟨Nat.le_trans (Nat.le_of_ble_eq_true rfl) C.2.2.2.2.1, Nat.le_trans (Nat.le_of_ble_eq_true rfl) C.2.2.2.2.2⟩) (va_recv C.2.1 hP (ci := 4) (q0 := 0) rfl (wH_0 cI cJ cZ ad z8)) rfl hl.1 rfl (Nat.le_of_ble_eq_true rfl) dX4_reduce_96 (fun _ z9 _ _ h hP hS => ?_)
      refine lv_aload_n hx hb dX4_reduce_99 rfl (lv_at hl 0 rfl) ?_
      refine b_getr C hP iX4_reduce_X4 0 (wH_0 cI cJ cZ ad z9) rfl 1 (by decide) fX4_reduce_i19 rfl rfl dX4_reduce_100 ?_
      refine b_getr C hP iX4_reduce_X2 2 (wH_2 cI cJ cZ ad z9) rfl 6 (by decide) fX4_reduce_i126 rfl rfl dX4_reduce_103 ?_
      refine lv_iload_n hx hb dX4_reduce_106 rfl (lv_at hl 2 rfl) ?_
      refine b_iald C hP h 18 (wH_18 cI cJ cZ ad z9) 0 rfl dX4_reduce_107 (fun v10 h => ?_)
      exact hR 108 _ _ _ _ _ (Option.some.inj h).symm dX4_reduce_108 hP hS
    · replace h := (ite_h h).2 c1
      exact hT.1 39 _ _ _ _ (Option.some.inj h).symm hP hS hl.1 (Or.inl tX4_reduce_39)
  · replace h := (ite_h h).2 c1
    exact hT.1 11 _ _ _ _ (Option.some.inj h).symm hP hS hl.1 (Or.inl tX4_reduce_11)
theorem mX4_reduce (l : Launch) (D : va_G) (cI cJ cZ : ClassId) (ad : Nat → Nat) (a1 : Int32) (a2 : Int32) (a3 : Int32) (z0 : SH) : ∀ (q : Int32 × SH) (sz : Nat), fX4_reduce a1 a2 a3 z0 = some (.inr q.1, q.2) → Met l yX4_reduce wsX4_reduce rmX4_reduce (cP D vwCl (tyl cI cJ cZ) (wH cI cJ cZ ad z0) sz [.ref (ad 0), .int a1, .int a2, .int a3]) (cQi D vwCl (wH cI cJ cZ ad) z0 sz q) 0 0 (va_A (wH cI cJ cZ ad z0) sz) := by
  intro q sz h
  refine ofW_i (cc := cX4_reduce) (maxL := 4) (by decide) rfl (wH_same cI cJ cZ ad) (Nat.le_of_ble_eq_true rfl) (fun p e s m below meth c ls hsz C hR hP hl => ?_)
  exact wX4_reduce (sx := fun _ => 0) C (Xi_of hR) ThK_no a1 a2 a3 z0 h hP va_S.rf hl
theorem nX4_reduce (l : Launch) (hl0 : l.stackTraces = false) (D : va_G) (cI cJ cZ : ClassId) (ad sx : Nat → Nat) (a1 : Int32) (a2 : Int32) (a3 : Int32) (z0 : SH) : ∀ (E : String) (z1 : SH) (sz : Nat), fX4_reduce a1 a2 a3 z0 = some (.inl E, z1) → vx_Met l yX4_reduce wsX4_reduce (rmX rmX4_reduce) (cPX (thX sx) D vwCl (tyl cI cJ cZ) (wH cI cJ cZ ad z0) sz [.ref (ad 0), .int a1, .int a2, .int a3]) (cQno) (cXX D vwCl (wH cI cJ cZ ad) z0 sz E z1) 1 6 (va_A (wH cI cJ cZ ad z0) sz) := by
  intro E z1 sz h
  refine ofX (α := Int32) (cc := cX4_reduce) (maxL := 4) (by decide) rfl (wH_same cI cJ cZ ad) (Nat.le_of_ble_eq_true rfl) hl0 ⟨Nat.le_of_ble_eq_true rfl, Nat.le_of_ble_eq_true rfl⟩ (fun p e s m below meth c ls hsz C hT hP hl => ?_)
  exact wX4_reduce C Xi_no hT a1 a2 a3 z0 h hP va_S.rf hl
