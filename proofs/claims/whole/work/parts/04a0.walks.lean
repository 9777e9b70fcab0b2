abbrev rmX5_thrown : Room := { frames := 0, cells := 0, slots := 0, locals := 0 }
theorem fX5_thrown_i93 : Cond.fieldLink RX5 93 (TX5 0).1 (TX5 0).2.1 (TX5 0).2.2.1 ∈ wsX5_thrown := by decide +kernel
theorem iX5_thrown_X5 : ∀ x ∈ wsX50, x ∈ wsX5_thrown := by decide +kernel
set_option maxRecDepth 100000 in
set_option maxHeartbeats 4000000 in
theorem wX5_thrown {p : Program} {l : Launch} {e : Env} {R : Room} {s : State} {m : MethodId} {args : Array Value} {below : List Frame} {meth : Method} {c : Code} {Q : State → Prop} {D : va_G} {cI cJ cZ : ClassId} {ad : Nat → Nat} {A : Nat → Prop} (C : Cx p s m args c cX5_thrown 1 wsX5_thrown RX5 D vwCl (tyl cI cJ cZ) (wM cI cJ cZ ad) A R 0 0) {r : (Int32 × SH)} (hR : Ri p l e R s m args below meth c cX5_thrown D vwCl (wM cI cJ cZ ad) A Q r) (z0 : SH) {H : Heap} {locs : List Loc} {ls : Array Slot} (h : fX5_thrown z0 = some r) (hP : va_P D vwCl (wM cI cJ cZ ad z0) H) (hS : va_S A s.heap H locs) (hl : lv_has ls 1 [(0, .ref (ad 0))]) : W p l e R s m args below meth c H locs 0 0 Q (F0 m 0 ls []) := by
  unfold fX5_thrown at h
  have hx := C.1.1
  have hb := C.1.2.1
  refine lv_aload_n hx hb dX5_thrown_0 rfl (lv_at hl 0 rfl) ?_
  refine b_geti C hP h iX5_thrown_X5 0 (wM_0 cI cJ cZ ad z0) rfl 0 (by decide) fX5_thrown_i93 rfl rfl dX5_thrown_1 (fun v1 h => ?_)
  exact hR 4 _ _ _ _ _ (Option.some.inj h).symm dX5_thrown_4 hP hS
theorem mX5_thrown (l : Launch) (D : va_G) (cI cJ cZ : ClassId) (ad : Nat → Nat) (z0 : SH) : ∀ (q : (Int32 × SH)) (sz : Nat), fX5_thrown z0 = some q → Met l yX5_thrown wsX5_thrown rmX5_thrown (cP D vwCl (tyl cI cJ cZ) (wM cI cJ cZ ad z0) sz [.ref (ad 0)]) (cQi D vwCl (wM cI cJ cZ ad) z0 sz q) 0 0 (va_A (wM cI cJ cZ ad z0) sz) := by
  intro q sz h
  refine ofW_i (cc := cX5_thrown) (maxL := 1) (by decide) rfl (wM_same cI cJ cZ ad) (Nat.le_of_ble_eq_true rfl) (fun p e s m below meth c ls hsz C hR hP hl => ?_)
  exact wX5_thrown C hR z0 h hP va_S.rf hl
abbrev rmX5_isIn : Room := { frames := 0, cells := 0, slots := 0, locals := 0 }
set_option maxRecDepth 100000 in
set_option maxHeartbeats 4000000 in
theorem wX5_isIn_15 {p : Program} {l : Launch} {e : Env} {R : Room} {s : State} {m : MethodId} {args : Array Value} {below : List Frame} {meth : Method} {c : Code} {Q : State → Prop} {D : va_G} {cI cJ cZ : ClassId} {ad : Nat → Nat} {A : Nat → Prop} (C : Cx p s m args c cX5_isIn 3 wsX5_isIn RX5 D vwCl (tyl cI cJ cZ) (wM cI cJ cZ ad) A R 0 0) {r : (Int32 × SH)} (hR : Rz p l e R s m args below meth c cX5_isIn D vwCl (wM cI cJ cZ ad) A Q r) (t0 : Int32) (z0 : SH) {H : Heap} {locs : List Loc} {ls : Array Slot} (h : fX5_isIn_15 t0 z0 = some r) (hP : va_P D vwCl (wM cI cJ cZ ad z0) H) (hS : va_S A s.heap H locs) (hl : lv_has ls 3 []) : W p l e R s m args below meth c H locs 0 0 Q (F0 m 15 ls [.int t0]) := by
  unfold fX5_isIn_15 at h
  have hx := C.1.1
  have hb := C.1.2.1
  exact hR 15 _ _ _ _ _ h dX5_isIn_15 hP hS
set_option maxRecDepth 100000 in
set_option maxHeartbeats 4000000 in
theorem wX5_isIn_14 {p : Program} {l : Launch} {e : Env} {R : Room} {s : State} {m : MethodId} {args : Array Value} {below : List Frame} {meth : Method} {c : Code} {Q : State → Prop} {D : va_G} {cI cJ cZ : ClassId} {ad : Nat → Nat} {A : Nat → Prop} (C : Cx p s m args c cX5_isIn 3 wsX5_isIn RX5 D vwCl (tyl cI cJ cZ) (wM cI cJ cZ ad) A R 0 0) {r : (Int32 × SH)} (hR : Rz p l e R s m args below meth c cX5_isIn D vwCl (wM cI cJ cZ ad) A Q r) (z0 : SH) {H : Heap} {locs : List Loc} {ls : Array Slot} (h : fX5_isIn_14 z0 = some r) (hP : va_P D vwCl (wM cI cJ cZ ad z0) H) (hS : va_S A s.heap H locs) (hl : lv_has ls 3 []) : W p l e R s m args below meth c H locs 0 0 Q (F0 m 14 ls []) := by
  unfold fX5_isIn_14 at h
  have hx := C.1.1
  have hb := C.1.2.1
  refine lv_iconst (v := 0) hx hb dX5_isIn_14 (by decide) ?_
  exact wX5_isIn_15 C hR 0 z0 h hP hS (lv_sub hl [] rfl)
set_option maxRecDepth 100000 in
set_option maxHeartbeats 4000000 in
theorem wX5_isIn {p : Program} {l : Launch} {e : Env} {R : Room} {s : State} {m : MethodId} {args : Array Value} {below : List Frame} {meth : Method} {c : Code} {Q : State → Prop} {D : va_G} {cI cJ cZ : ClassId} {ad : Nat → Nat} {A : Nat → Prop} (C : Cx p s m args c cX5_isIn 3 wsX5_isIn RX5 D vwCl (tyl cI cJ cZ) (wM cI cJ cZ ad) A R 0 0) {r : (Int32 × SH)} (hR : Rz p l e R s m args below meth c cX5_isIn D vwCl (wM cI cJ cZ ad) A Q r) (a1 : Int32) (a2 : Int32) (a3 : Int32) (z0 : SH) {H : Heap} {locs : List Loc} {ls : Array Slot} (h : fX5_isIn a1 a2 a3 z0 = some r) (hP : va_P D vwCl (wM cI cJ cZ ad z0) H) (hS : va_S A s.heap H locs) (hl : lv_has ls 3 [(0, .int a1), (1, .int a2), (2, .int a3)]) : W p l e R s m args below meth c H locs 0 0 Q (F0 m 0 ls []) := by
  unfold fX5_isIn at h
  have hx := C.1.1
  have hb := C.1.2.1
  refine lv_iload_n hx hb dX5_isIn_0 rfl (lv_at hl 0 rfl) ?_
  refine lv_iload_n hx hb dX5_isIn_1 rfl (lv_at hl 1 rfl) ?_
  refine lv_icmp_lt (tgt := 14) hx hb dX5_isIn_2 (by decide) (fun c1 => ?_) (fun c1 => ?_)
  · replace h := (ite_h h).1 c1
    exact wX5_isIn_14 C hR z0 h hP hS (lv_sub hl [] rfl)
  · replace h := (ite_h h).2 c1
    refine lv_iload_n hx hb dX5_isIn_5 rfl (lv_at hl 0 rfl) ?_
    refine lv_iload_n hx hb dX5_isIn_6 rfl (lv_at hl 2 rfl) ?_
    refine lv_icmp_gt (tgt := 14) hx hb dX5_isIn_7 (by decide) (fun c1 => ?_) (fun c1 => ?_)
    · replace h := (ite_h h).1 c1
      exact wX5_isIn_14 C hR z0 h hP hS (lv_sub hl [] rfl)
    · replace h := (ite_h h).2 c1
      refine lv_iconst (v := 1) hx hb dX5_isIn_10 (by decide) ?_
      refine lv_goto (tgt := 15) hx hb dX5_isIn_11 (by decide) ?_
      exact wX5_isIn_15 C hR 1 z0 h hP hS (lv_sub hl [] rfl)
theorem mX5_isIn (l : Launch) (D : va_G) (cI cJ cZ : ClassId) (ad : Nat → Nat) (a1 : Int32) (a2 : Int32) (a3 : Int32) (z0 : SH) : ∀ (q : (Int32 × SH)) (sz : Nat), fX5_isIn a1 a2 a3 z0 = some q → Met l yX5_isIn wsX5_isIn rmX5_isIn (cP D vwCl (tyl cI cJ cZ) (wM cI cJ cZ ad z0) sz [.int a1, .int a2, .int a3]) (cQi D vwCl (wM cI cJ cZ ad) z0 sz q) 0 0 (va_A (wM cI cJ cZ ad z0) sz) := by
  intro q sz h
  refine ofW_z (cc := cX5_isIn) (maxL := 3) (by decide) rfl (wM_same cI cJ cZ ad) (Nat.le_of_ble_eq_true rfl) (fun p e s m below meth c ls hsz C hR hP hl => ?_)
  exact wX5_isIn C hR a1 a2 a3 z0 h hP va_S.rf hl
abbrev rmX5_isAccount : Room := { frames := 1, cells := 0, slots := 0, locals := 22 }
set_option maxRecDepth 100000 in
set_option maxHeartbeats 4000000 in
theorem wX5_isAccount {p : Program} {l : Launch} {e : Env} {R : Room} {s : State} {m : MethodId} {args : Array Value} {below : List Frame} {meth : Method} {c : Code} {Q : State → Prop} {D : va_G} {cI cJ cZ : ClassId} {ad : Nat → Nat} {A : Nat → Prop} (C : Cx p s m args c cX5_isAccount 1 wsX5_isAccount RX5 D vwCl (tyl cI cJ cZ) (wM cI cJ cZ ad) A R 1 22) {r : (Int32 × SH)} (hR : Rz p l e R s m args below meth c cX5_isAccount D vwCl (wM cI cJ cZ ad) A Q r) (a1 : Int32) (z0 : SH) {H : Heap} {locs : List Loc} {ls : Array Slot} (h : fX5_isAccount a1 z0 = some r) (hP : va_P D vwCl (wM cI cJ cZ ad z0) H) (hS : va_S A s.heap H locs) (hl : lv_has ls 1 [(0, .int a1)]) : W p l e R s m args below meth c H locs 0 0 Q (F0 m 0 ls []) := by
  unfold fX5_isAccount at h
  have hx := C.1.1
  have hb := C.1.2.1
  refine lv_iload_n hx hb dX5_isAccount_0 rfl (lv_at hl 0 rfl) ?_
  refine lv_iconst (v := 0) hx hb dX5_isAccount_1 (by decide) ?_
  refine lv_sipush (v := 511) hx hb dX5_isAccount_2 (by decide) ?_
  refine b_callSi (As := [.int a1, .int 0, .int 511]) (rest := []) C hP hS h (mX5_isIn l D cI cJ cZ ad a1 0 511 z0) (va_cwS 3 C.1.2.2.2.2 gX5_isAccount_X5_isIn rfl rfl rfl (by decide +kernel) ⟨Nat.le_trans (Nat.le_of_ble_eq_true rfl) C.2.2.2.2.1, Nat.le_trans (Nat.le_of_ble_eq_true rfl) C.2.2.2.2.2⟩) rfl hl.1 rfl (Nat.le_of_ble_eq_true rfl) dX5_isAccount_5 (fun v2 z1 _ _ h hP hS => ?_)
  exact hR 8 _ _ _ _ _ h dX5_isAccount_8 hP hS
theorem mX5_isAccount (l : Launch) (D : va_G) (cI cJ cZ : ClassId) (ad : Nat → Nat) (a1 : Int32) (z0 : SH) : ∀ (q : (Int32 × SH)) (sz : Nat), fX5_isAccount a1 z0 = some q → Met l yX5_isAccount wsX5_isAccount rmX5_isAccount (cP D vwCl (tyl cI cJ cZ) (wM cI cJ cZ ad z0) sz [.int a1]) (cQi D vwCl (wM cI cJ cZ ad) z0 sz q) 0 0 (va_A (wM cI cJ cZ ad z0) sz) := by
  intro q sz h
  refine ofW_z (cc := cX5_isAccount) (maxL := 1) (by decide) rfl (wM_same cI cJ cZ ad) (Nat.le_of_ble_eq_true rfl) (fun p e s m below meth c ls hsz C hR hP hl => ?_)
  exact wX5_isAccount C hR a1 z0 h hP va_S.rf hl
abbrev rmX5_isSymbol : Room := { frames := 1, cells := 0, slots := 0, locals := 22 }
set_option maxRecDepth 100000 in
set_option maxHeartbeats 4000000 in
theorem wX5_isSymbol {p : Program} {l : Launch} {e : Env} {R : Room} {s : State} {m : MethodId} {args : Array Value} {below : List Frame} {meth : Method} {c : Code} {Q : State → Prop} {D : va_G} {cI cJ cZ : ClassId} {ad : Nat → Nat} {A : Nat → Prop} (C : Cx p s m args c cX5_isSymbol 1 wsX5_isSymbol RX5 D vwCl (tyl cI cJ cZ) (wM cI cJ cZ ad) A R 1 22) {r : (Int32 × SH)} (hR : Rz p l e R s m args below meth c cX5_isSymbol D vwCl (wM cI cJ cZ ad) A Q r) (a1 : Int32) (z0 : SH) {H : Heap} {locs : List Loc} {ls : Array Slot} (h : fX5_isSymbol a1 z0 = some r) (hP : va_P D vwCl (wM cI cJ cZ ad z0) H) (hS : va_S A s.heap H locs) (hl : lv_has ls 1 [(0, .int a1)]) : W p l e R s m args below meth c H locs 0 0 Q (F0 m 0 ls []) := by
  unfold fX5_isSymbol at h
  have hx := C.1.1
  have hb := C.1.2.1
  refine lv_iload_n hx hb dX5_isSymbol_0 rfl (lv_at hl 0 rfl) ?_
  refine lv_iconst (v := 0) hx hb dX5_isSymbol_1 (by decide) ?_
  refine lv_iconst (v := 3) hx hb dX5_isSymbol_2 (by decide) ?_
  refine b_callSi (As := [.int a1, .int 0, .int 3]) (rest := []) C hP hS h (mX5_isIn l D cI cJ cZ ad a1 0 3 z0) (va_cwS 3 C.1.2.2.2.2 gX5_isSymbol_X5_isIn rfl rfl rfl (by decide +kernel) ⟨Nat.le_trans (Nat.le_of_ble_eq_true rfl) C.2.2.2.2.1, Nat.le_trans (Nat.le_of_ble_eq_true rfl) C.2.2.2.2.2⟩) rfl hl.1 rfl (Nat.le_of_ble_eq_true rfl) dX5_isSymbol_3 (fun v2 z1 _ _ h hP hS => ?_)
  exact hR 6 _ _ _ _ _ h dX5_isSymbol_6 hP hS
theorem mX5_isSymbol (l : Launch) (D : va_G) (cI cJ cZ : ClassId) (ad : Nat → Nat) (a1 : Int32) (z0 : SH) : ∀ (q : (Int32 × SH)) (sz : Nat), fX5_isSymbol a1 z0 = some q → Met l yX5_isSymbol wsX5_isSymbol rmX5_isSymbol (cP D vwCl (tyl cI cJ cZ) (wM cI cJ cZ ad z0) sz [.int a1]) (cQi D vwCl (wM cI cJ cZ ad) z0 sz q) 0 0 (va_A (wM cI cJ cZ ad z0) sz) := by
  intro q sz h
  refine ofW_z (cc := cX5_isSymbol) (maxL := 1) (by decide) rfl (wM_same cI cJ cZ ad) (Nat.le_of_ble_eq_true rfl) (fun p e s m below meth c ls hsz C hR hP hl => ?_)
  exact wX5_isSymbol C hR a1 z0 h hP va_S.rf hl
abbrev rmX5_deposit : Room := { frames := 2, cells := 0, slots := 0, locals := 42 }
theorem fX5_deposit_i29 : Cond.fieldLink RX5 29 (TX5 8).1 (TX5 8).2.1 (TX5 8).2.2.1 ∈ wsX5_deposit := by decide +kernel
theorem fX5_deposit_i7 : Cond.fieldLink RX5 7 (TX5 2).1 (TX5 2).2.1 (TX5 2).2.2.1 ∈ wsX5_deposit := by decide +kernel
theorem fX5_deposit_i93 : Cond.fieldLink RX5 93 (TX5 0).1 (TX5 0).2.1 (TX5 0).2.2.1 ∈ wsX5_deposit := by decide +kernel
theorem iX5_deposit_X5 : ∀ x ∈ wsX50, x ∈ wsX5_deposit := by decide +kernel
theorem kX5_deposit_105 : Cond.constant RX5 105 (1000000000) ∈ wsX5_deposit := by decide +kernel
theorem kX5_deposit_106 : Cond.constantLong RX5 106 (1000000000000000) ∈ wsX5_deposit := by decide +kernel
set_option maxRecDepth 100000 in
set_option maxHeartbeats 4000000 in
theorem wX5_deposit_47 {p : Program} {l : Launch} {e : Env} {R : Room} {s : State} {m : MethodId} {args : Array Value} {below : List Frame} {meth : Method} {c : Code} {Q : State → Prop} {D : va_G} {cI cJ cZ : ClassId} {ad : Nat → Nat} {A : Nat → Prop} (C : Cx p s m args c cX5_deposit 3 wsX5_deposit RX5 D vwCl (tyl cI cJ cZ) (wM cI cJ cZ ad) A R 2 42) {r : (Int64 × SH)} (hR : Rl p l e R s m args below meth c cX5_deposit D vwCl (wM cI cJ cZ ad) A Q r) (x1 : Int32) (x2 : Int32) (t0 : Int32) (z0 : SH) {H : Heap} {locs : List Loc} {ls : Array Slot} (h : fX5_deposit_47 x1 x2 t0 z0 = some r) (hP : va_P D vwCl (wM cI cJ cZ ad z0) H) (hS : va_S A s.heap H locs) (hl : lv_has ls 3 [(0, .ref (ad 0)), (1, .int x1), (2, .int x2)]) : W p l e R s m args below meth c H locs 0 0 Q (F0 m 47 ls [.int t0, .ref (ad 0)]) := by
  unfold fX5_deposit_47 at h
  have hx := C.1.1
  have hb := C.1.2.1
  refine b_puti C hP hS h iX5_deposit_X5 tyX5 tyX5_ok nmX5 0 (wM_0 cI cJ cZ ad z0) rfl 0 (by decide) fX5_deposit_i93 rfl rfl rfl (Nat.le_of_ble_eq_true rfl) (wM_si0 cI cJ cZ ad z0 _) dX5_deposit_47 (fun z1 _ _ h hP hS => ?_)
  refine lv_aload_n hx hb dX5_deposit_50 rfl (lv_at hl 0 rfl) ?_
  refine b_geti C hP h iX5_deposit_X5 0 (wM_0 cI cJ cZ ad z1) rfl 0 (by decide) fX5_deposit_i93 rfl rfl dX5_deposit_51 (fun v2 h => ?_)
  refine lv_if_le (tgt := 59) hx hb dX5_deposit_54 (by decide) (fun c1 => ?_) (fun c1 => ?_)
  · replace h := (ite_h h).1 c1
    refine lv_aload_n hx hb dX5_deposit_59 rfl (lv_at hl 0 rfl) ?_
    refine b_getr C hP iX5_deposit_X5 0 (wM_0 cI cJ cZ ad z1) rfl 2 (by decide) fX5_deposit_i7 rfl rfl dX5_deposit_60 ?_
    refine lv_iload_n hx hb dX5_deposit_63 rfl (lv_at hl 1 rfl) ?_
    refine lv_dup2_11 hx hb dX5_deposit_64 rfl rfl ?_
    refine b_lald C hP h 1 (wM_1 cI cJ cZ ad z1) 1 rfl dX5_deposit_65 (fun v3 h => ?_)
    refine lv_iload_n hx hb dX5_deposit_66 rfl (lv_at hl 2 rfl) ?_
    refine lv_i2l hx hb dX5_deposit_67 rfl ?_
    refine lv_ladd hx hb dX5_deposit_68 ?_
    refine b_last C hP hS h 1 (wM_1 cI cJ cZ ad z1) 1 rfl (wM_s1 cI cJ cZ ad z1 _ _) dX5_deposit_69 (fun z4 _ _ h hP hS => ?_)
    refine lv_aload_n hx hb dX5_deposit_70 rfl (lv_at hl 0 rfl) ?_
    refine b_getr C hP iX5_deposit_X5 0 (wM_0 cI cJ cZ ad z4) rfl 8 (by decide) fX5_deposit_i29 rfl rfl dX5_deposit_71 ?_
    refine lv_iload_n hx hb dX5_deposit_74 rfl (lv_at hl 1 rfl) ?_
    refine lv_iconst (v := 1) hx hb dX5_deposit_75 (by decide) ?_
    refine b_zast C hP hS h 7 (wM_7 cI cJ cZ ad z4) 2 rfl (wM_s7 cI cJ cZ ad z4 _ _) dX5_deposit_76 (fun z5 _ _ h hP hS => ?_)
    refine lv_aload_n hx hb dX5_deposit_77 rfl (lv_at hl 0 rfl) ?_
    refine b_getr C hP iX5_deposit_X5 0 (wM_0 cI cJ cZ ad z5) rfl 2 (by decide) fX5_deposit_i7 rfl rfl dX5_deposit_78 ?_
    refine lv_iload_n hx hb dX5_deposit_81 rfl (lv_at hl 1 rfl) ?_
    refine b_lald C hP h 1 (wM_1 cI cJ cZ ad z5) 1 rfl dX5_deposit_82 (fun v6 h => ?_)
    exact hR 83 _ _ _ _ _ (Option.some.inj h).symm dX5_deposit_83 hP hS
  · replace h := (ite_h h).2 c1
    refine lv_lconst (v := 0) hx hb dX5_deposit_57 (by decide) ?_
    exact hR 58 _ _ _ _ _ (Option.some.inj h).symm dX5_deposit_58 hP hS
set_option maxRecDepth 100000 in
set_option maxHeartbeats 4000000 in
theorem wX5_deposit {p : Program} {l : Launch} {e : Env} {R : Room} {s : State} {m : MethodId} {args : Array Value} {below : List Frame} {meth : Method} {c : Code} {Q : State → Prop} {D : va_G} {cI cJ cZ : ClassId} {ad : Nat → Nat} {A : Nat → Prop} (C : Cx p s m args c cX5_deposit 3 wsX5_deposit RX5 D vwCl (tyl cI cJ cZ) (wM cI cJ cZ ad) A R 2 42) {r : (Int64 × SH)} (hR : Rl p l e R s m args below meth c cX5_deposit D vwCl (wM cI cJ cZ ad) A Q r) (a1 : Int32) (a2 : Int32) (z0 : SH) {H : Heap} {locs : List Loc} {ls : Array Slot} (h : fX5_deposit a1 a2 z0 = some r) (hP : va_P D vwCl (wM cI cJ cZ ad z0) H) (hS : va_S A s.heap H locs) (hl : lv_has ls 3 [(0, .ref (ad 0)), (1, .int a1), (2, .int a2)]) : W p l e R s m args below meth c H locs 0 0 Q (F0 m 0 ls []) := by
  unfold fX5_deposit at h
  have hx := C.1.1
  have hb := C.1.2.1
  refine lv_aload_n hx hb dX5_deposit_0 rfl (lv_at hl 0 rfl) ?_
  refine lv_iload_n hx hb dX5_deposit_1 rfl (lv_at hl 1 rfl) ?_
  refine b_callSi (As := [.int a1]) (rest := [.ref (ad 0)]) C hP hS h (mX5_isAccount l D cI cJ cZ ad a1 z0) (va_cwS 1 C.1.2.2.2.2 gX5_deposit_X5_isAccount rfl rfl rfl (by decide +kernel) ⟨Nat.le_trans (Nat.le_of_ble_eq_true rfl) C.2.2.2.2.1, Nat.le_trans (Nat.le_of_ble_eq_true rfl) C.2.2.2.2.2⟩) rfl hl.1 rfl (Nat.le_of_ble_eq_true rfl) dX5_deposit_2 (fun v2 z1 _ _ h hP hS => ?_)
  refine lv_if_ne (tgt := 12) hx hb dX5_deposit_5 (by decide) (fun c1 => ?_) (fun c1 => ?_)
  · replace h := (ite_h h).2 c1
    refine lv_iload_n hx hb dX5_deposit_12 rfl (lv_at hl 2 rfl) ?_
    refine lv_iconst (v := 1) hx hb dX5_deposit_13 (by decide) ?_
    refine lv_ldc hx hb C.1.2.2.2.1 (C.1.2.2.2.2 _ kX5_deposit_105) dX5_deposit_14 ?_
    refine b_callSi (As := [.int a2, .int 1, .int 1000000000]) (rest := [.ref (ad 0)]) C hP hS h (mX5_isIn l D cI cJ cZ ad a2 1 1000000000 z1) (va_cwS 3 C.1.2.2.2.2 gX5_deposit_X5_isIn rfl rfl rfl (by decide +kernel) ⟨Nat.le_trans (Nat.le_of_ble_eq_true rfl) C.2.2.2.2.1, Nat.le_trans (Nat.le_of_ble_eq_true rfl) C.2.2.2.2.2⟩) rfl hl.1 rfl (Nat.le_of_ble_eq_true rfl) dX5_deposit_16 (fun v4 z3 _ _ h hP hS => ?_)
    refine lv_if_ne (tgt := 26) hx hb dX5_deposit_19 (by decide) (fun c1 => ?_) (fun c1 => ?_)
    · replace h := (ite_h h).2 c1
      refine lv_aload_n hx hb dX5_deposit_26 rfl (lv_at hl 0 rfl) ?_
      refine b_getr C hP iX5_deposit_X5 0 (wM_0 cI cJ cZ ad z3) rfl 2 (by decide) fX5_deposit_i7 rfl rfl dX5_deposit_27 ?_
      refine lv_iload_n hx hb dX5_deposit_30 rfl (lv_at hl 1 rfl) ?_
      refine b_lald C hP h 1 (wM_1 cI cJ cZ ad z3) 1 rfl dX5_deposit_31 (fun v5 h => ?_)
      refine lv_iload_n hx hb dX5_deposit_32 rfl (lv_at hl 2 rfl) ?_
      refine lv_i2l hx hb dX5_deposit_33 rfl ?_
      refine lv_ladd hx hb dX5_deposit_34 ?_
      refine lv_ldc2 hx hb C.1.2.2.2.1 (C.1.2.2.2.2 _ kX5_deposit_106) dX5_deposit_35 ?_
      refine W.lcmp hx hb dX5_deposit_38 ?_
      refine lv_if_le (tgt := 46) hx hb dX5_deposit_39 (by decide) (fun c1 => ?_) (fun c1 => ?_)
      · replace h := (ite_h h).1 c1
        refine lv_iconst (v := 0) hx hb dX5_deposit_46 (by decide) ?_
        exact wX5_deposit_47 C hR a1 a2 0 z3 h hP hS (lv_sub hl [0, 1, 2] rfl)
      · replace h := (ite_h h).2 c1
        refine lv_iconst (v := 3) hx hb dX5_deposit_42 (by decide) ?_
        refine lv_goto (tgt := 47) hx hb dX5_deposit_43 (by decide) ?_
        exact wX5_deposit_47 C hR a1 a2 3 z3 h hP hS (lv_sub hl [0, 1, 2] rfl)
    · replace h := (ite_h h).1 c1
      refine lv_iconst (v := 2) hx hb dX5_deposit_22 (by decide) ?_
      refine lv_goto (tgt := 47) hx hb dX5_deposit_23 (by decide) ?_
      exact wX5_deposit_47 C hR a1 a2 2 z3 h hP hS (lv_sub hl [0, 1, 2] rfl)
  · replace h := (ite_h h).1 c1
    refine lv_iconst (v := 1) hx hb dX5_deposit_8 (by decide) ?_
    refine lv_goto (tgt := 47) hx hb dX5_deposit_9 (by decide) ?_
    exact wX5_deposit_47 C hR a1 a2 1 z1 h hP hS (lv_sub hl [0, 1, 2] rfl)
theorem mX5_deposit (l : Launch) (D : va_G) (cI cJ cZ : ClassId) (ad : Nat → Nat) (a1 : Int32) (a2 : Int32) (z0 : SH) : ∀ (q : (Int64 × SH)) (sz : Nat), fX5_deposit a1 a2 z0 = some q → Met l yX5_deposit wsX5_deposit rmX5_deposit (cP D vwCl (tyl cI cJ cZ) (wM cI cJ cZ ad z0) sz [.ref (ad 0), .int a1, .int a2]) (cQl D vwCl (wM cI cJ cZ ad) z0 sz q) 0 0 (va_A (wM cI cJ cZ ad z0) sz) := by
  intro q sz h
  refine ofW_l (cc := cX5_deposit) (maxL := 3) (by decide) rfl (wM_same cI cJ cZ ad) (Nat.le_of_ble_eq_true rfl) (fun p e s m below meth c ls hsz C hR hP hl => ?_)
  exact wX5_deposit C hR a1 a2 z0 h hP va_S.rf hl
abbrev rmX5_withdraw : Room := { frames := 2, cells := 0, slots := 0, locals := 42 }
theorem fX5_withdraw_i13 : Cond.fieldLink RX5 13 (TX5 3).1 (TX5 3).2.1 (TX5 3).2.2.1 ∈ wsX5_withdraw := by decide +kernel
theorem fX5_withdraw_i7 : Cond.fieldLink RX5 7 (TX5 2).1 (TX5 2).2.1 (TX5 2).2.2.1 ∈ wsX5_withdraw := by decide +kernel
theorem fX5_withdraw_i93 : Cond.fieldLink RX5 93 (TX5 0).1 (TX5 0).2.1 (TX5 0).2.2.1 ∈ wsX5_withdraw := by decide +kernel
theorem iX5_withdraw_X5 : ∀ x ∈ wsX50, x ∈ wsX5_withdraw := by decide +kernel
theorem kX5_withdraw_105 : Cond.constant RX5 105 (1000000000) ∈ wsX5_withdraw := by decide +kernel
set_option maxRecDepth 100000 in
set_option maxHeartbeats 4000000 in
theorem wX5_withdraw_50 {p : Program} {l : Launch} {e : Env} {R : Room} {s : State} {m : MethodId} {args : Array Value} {below : List Frame} {meth : Method} {c : Code} {Q : State → Prop} {D : va_G} {cI cJ cZ : ClassId} {ad : Nat → Nat} {A : Nat → Prop} (C : Cx p s m args c cX5_withdraw 3 wsX5_withdraw RX5 D vwCl (tyl cI cJ cZ) (wM cI cJ cZ ad) A R 2 42) {r : (Int64 × SH)} (hR : Rl p l e R s m args below meth c cX5_withdraw D vwCl (wM cI cJ cZ ad) A Q r) (x1 : Int32) (x2 : Int32) (t0 : Int32) (z0 : SH) {H : Heap} {locs : List Loc} {ls : Array Slot} (h : fX5_withdraw_50 x1 x2 t0 z0 = some r) (hP : va_P D vwCl (wM cI cJ cZ ad z0) H) (hS : va_S A s.heap H locs) (hl : lv_has ls 3 [(0, .ref (ad 0)), (1, .int x1), (2, .int x2)]) : W p l e R s m args below meth c H locs 0 0 Q (F0 m 50 ls [.int t0, .ref (ad 0)]) := by
  unfold fX5_withdraw_50 at h
  have hx := C.1.1
  have hb := C.1.2.1
  refine b_puti C hP hS h iX5_withdraw_X5 tyX5 tyX5_ok nmX5 0 (wM_0 cI cJ cZ ad z0) rfl 0 (by decide) fX5_withdraw_i93 rfl rfl rfl (Nat.le_of_ble_eq_true rfl) (wM_si0 cI cJ cZ ad z0 _) dX5_withdraw_50 (fun z1 _ _ h hP hS => ?_)
  refine lv_aload_n hx hb dX5_withdraw_53 rfl (lv_at hl 0 rfl) ?_
  refine b_geti C hP h iX5_withdraw_X5 0 (wM_0 cI cJ cZ ad z1) rfl 0 (by decide) fX5_withdraw_i93 rfl rfl dX5_withdraw_54 (fun v2 h => ?_)
  refine lv_if_le (tgt := 62) hx hb dX5_withdraw_57 (by decide) (fun c1 => ?_) (fun c1 => ?_)
  · replace h := (ite_h h).1 c1
    refine lv_aload_n hx hb dX5_withdraw_62 rfl (lv_at hl 0 rfl) ?_
    refine b_getr C hP iX5_withdraw_X5 0 (wM_0 cI cJ cZ ad z1) rfl 2 (by decide) fX5_withdraw_i7 rfl rfl dX5_withdraw_63 ?_
    refine lv_iload_n hx hb dX5_withdraw_66 rfl (lv_at hl 1 rfl) ?_
    refine lv_dup2_11 hx hb dX5_withdraw_67 rfl rfl ?_
    refine b_lald C hP h 1 (wM_1 cI cJ cZ ad z1) 1 rfl dX5_withdraw_68 (fun v3 h => ?_)
    refine lv_iload_n hx hb dX5_withdraw_69 rfl (lv_at hl 2 rfl) ?_
    refine lv_i2l hx hb dX5_withdraw_70 rfl ?_
    refine lv_lsub hx hb dX5_withdraw_71 ?_
    refine b_last C hP hS h 1 (wM_1 cI cJ cZ ad z1) 1 rfl (wM_s1 cI cJ cZ ad z1 _ _) dX5_withdraw_72 (fun z4 _ _ h hP hS => ?_)
    refine lv_aload_n hx hb dX5_withdraw_73 rfl (lv_at hl 0 rfl) ?_
    refine b_getr C hP iX5_withdraw_X5 0 (wM_0 cI cJ cZ ad z4) rfl 2 (by decide) fX5_withdraw_i7 rfl rfl dX5_withdraw_74 ?_
    refine lv_iload_n hx hb dX5_withdraw_77 rfl (lv_at hl 1 rfl) ?_
    refine b_lald C hP h 1 (wM_1 cI cJ cZ ad z4) 1 rfl dX5_withdraw_78 (fun v5 h => ?_)
    exact hR 79 _ _ _ _ _ (Option.some.inj h).symm dX5_withdraw_79 hP hS
  · replace h := (ite_h h).2 c1
    refine lv_lconst (v := 0) hx hb dX5_withdraw_60 (by decide) ?_
    exact hR 61 _ _ _ _ _ (Option.some.inj h).symm dX5_withdraw_61 hP hS
set_option maxRecDepth 100000 in
set_option maxHeartbeats 4000000 in
theorem wX5_withdraw {p : Program} {l : Launch} {e : Env} {R : Room} {s : State} {m : MethodId} {args : Array Value} {below : List Frame} {meth : Method} {c : Code} {Q : State → Prop} {D : va_G} {cI cJ cZ : ClassId} {ad : Nat → Nat} {A : Nat → Prop} (C : Cx p s m args c cX5_withdraw 3 wsX5_withdraw RX5 D vwCl (tyl cI cJ cZ) (wM cI cJ cZ ad) A R 2 42) {r : (Int64 × SH)} (hR : Rl p l e R s m args below meth c cX5_withdraw D vwCl (wM cI cJ cZ ad) A Q r) (a1 : Int32) (a2 : Int32) (z0 : SH) {H : Heap} {locs : List Loc} {ls : Array Slot} (h : fX5_withdraw a1 a2 z0 = some r) (hP : va_P D vwCl (wM cI cJ cZ ad z0) H) (hS : va_S A s.heap H locs) (hl : lv_has ls 3 [(0, .ref (ad 0)), (1, .int a1), (2, .int a2)]) : W p l e R s m args below meth c H locs 0 0 Q (F0 m 0 ls []) := by
  unfold fX5_withdraw at h
  have hx := C.1.1
  have hb := C.1.2.1
  refine lv_aload_n hx hb dX5_withdraw_0 rfl (lv_at hl 0 rfl) ?_
  refine lv_iload_n hx hb dX5_withdraw_1 rfl (lv_at hl 1 rfl) ?_
  refine b_callSi (As := [.int a1]) (rest := [.ref (ad 0)]) C hP hS h (mX5_isAccount l D cI cJ cZ ad a1 z0) (va_cwS 1 C.1.2.2.2.2 gX5_withdraw_X5_isAccount rfl rfl rfl (by decide +kernel) ⟨Nat.le_trans (Nat.le_of_ble_eq_true rfl) C.2.2.2.2.1, Nat.le_trans (Nat.le_of_ble_eq_true rfl) C.2.2.2.2.2⟩) rfl hl.1 rfl (Nat.le_of_ble_eq_true rfl) dX5_withdraw_2 (fun v2 z1 _ _ h hP hS => ?_)
  refine lv_if_ne (tgt := 12) hx hb dX5_withdraw_5 (by decide) (fun c1 => ?_) (fun c1 => ?_)
  · replace h := (ite_h h).2 c1
    refine lv_iload_n hx hb dX5_withdraw_12 rfl (lv_at hl 2 rfl) ?_
    refine lv_iconst (v := 1) hx hb dX5_withdraw_13 (by decide) ?_
    refine lv_ldc hx hb C.1.2.2.2.1 (C.1.2.2.2.2 _ kX5_withdraw_105) dX5_withdraw_14 ?_
    refine b_callSi (As := [.int a2, .int 1, .int 1000000000]) (rest := [.ref (ad 0)]) C hP hS h (mX5_isIn l D cI cJ cZ ad a2 1 1000000000 z1) (va_cwS 3 C.1.2.2.2.2 gX5_withdraw_X5_isIn rfl rfl rfl (by decide +kernel) ⟨Nat.le_trans (Nat.le_of_ble_eq_true rfl) C.2.2.2.2.1, Nat.le_trans (Nat.le_of_ble_eq_true rfl) C.2.2.2.2.2⟩) rfl hl.1 rfl (Nat.le_of_ble_eq_true rfl) dX5_withdraw_16 (fun v4 z3 _ _ h hP hS => ?_)
    refine lv_if_ne (tgt := 26) hx hb dX5_withdraw_19 (by decide) (fun c1 => ?_) (fun c1 => ?_)
    · replace h := (ite_h h).2 c1
      refine lv_aload_n hx hb dX5_withdraw_26 rfl (lv_at hl 0 rfl) ?_
      refine b_getr C hP iX5_withdraw_X5 0 (wM_0 cI cJ cZ ad z3) rfl 2 (by decide) fX5_withdraw_i7 rfl rfl dX5_withdraw_27 ?_
      refine lv_iload_n hx hb dX5_withdraw_30 rfl (lv_at hl 1 rfl) ?_
      refine b_lald C hP h 1 (wM_1 cI cJ cZ ad z3) 1 rfl dX5_withdraw_31 (fun v5 h => ?_)
      refine lv_aload_n hx hb dX5_withdraw_32 rfl (lv_at hl 0 rfl) ?_
      refine b_getr C hP iX5_withdraw_X5 0 (wM_0 cI cJ cZ ad z3) rfl 3 (by decide) fX5_withdraw_i13 rfl rfl dX5_withdraw_33 ?_
      refine lv_iload_n hx hb dX5_withdraw_36 rfl (lv_at hl 1 rfl) ?_
      refine b_lald C hP h 2 (wM_2 cI cJ cZ ad z3) 1 rfl dX5_withdraw_37 (fun v6 h => ?_)
      refine lv_lsub hx hb dX5_withdraw_38 ?_
      refine lv_iload_n hx hb dX5_withdraw_39 rfl (lv_at hl 2 rfl) ?_
      refine lv_i2l hx hb dX5_withdraw_40 rfl ?_
      refine W.lcmp hx hb dX5_withdraw_41 ?_
      refine lv_if_ge (tgt := 49) hx hb dX5_withdraw_42 (by decide) (fun c1 => ?_) (fun c1 => ?_)
      · replace h := (ite_h h).1 c1
        refine lv_iconst (v := 0) hx hb dX5_withdraw_49 (by decide) ?_
        exact wX5_withdraw_50 C hR a1 a2 0 z3 h hP hS (lv_sub hl [0, 1, 2] rfl)
      · replace h := (ite_h h).2 c1
        refine lv_iconst (v := 3) hx hb dX5_withdraw_45 (by decide) ?_
        refine lv_goto (tgt := 50) hx hb dX5_withdraw_46 (by decide) ?_
        exact wX5_withdraw_50 C hR a1 a2 3 z3 h hP hS (lv_sub hl [0, 1, 2] rfl)
    · replace h := (ite_h h).1 c1
      refine lv_iconst (v := 2) hx hb dX5_withdraw_22 (by decide) ?_
      refine lv_goto (tgt := 50) hx hb dX5_withdraw_23 (by decide) ?_
      exact wX5_withdraw_50 C hR a1 a2 2 z3 h hP hS (lv_sub hl [0, 1, 2] rfl)
  · replace h := (ite_h h).1 c1
    refine lv_iconst (v := 1) hx hb dX5_withdraw_8 (by decide) ?_
    refine lv_goto (tgt := 50) hx hb dX5_withdraw_9 (by decide) ?_
    exact wX5_withdraw_50 C hR a1 a2 1 z1 h hP hS (lv_sub hl [0, 1, 2] rfl)
theorem mX5_withdraw (l : Launch) (D : va_G) (cI cJ cZ : ClassId) (ad : Nat → Nat) (a1 : Int32) (a2 : Int32) (z0 : SH) : ∀ (q : (Int64 × SH)) (sz : Nat), fX5_withdraw a1 a2 z0 = some q → Met l yX5_withdraw wsX5_withdraw rmX5_withdraw (cP D vwCl (tyl cI cJ cZ) (wM cI cJ cZ ad z0) sz [.ref (ad 0), .int a1, .int a2]) (cQl D vwCl (wM cI cJ cZ ad) z0 sz q) 0 0 (va_A (wM cI cJ cZ ad z0) sz) := by
  intro q sz h
  refine ofW_l (cc := cX5_withdraw) (maxL := 3) (by decide) rfl (wM_same cI cJ cZ ad) (Nat.le_of_ble_eq_true rfl) (fun p e s m below meth c ls hsz C hR hP hl => ?_)
  exact wX5_withdraw C hR a1 a2 z0 h hP va_S.rf hl
abbrev rmX5_cell : Room := { frames := 0, cells := 0, slots := 0, locals := 0 }
set_option maxRecDepth 100000 in
set_option maxHeartbeats 4000000 in
theorem wX5_cell {p : Program} {l : Launch} {e : Env} {R : Room} {s : State} {m : MethodId} {args : Array Value} {below : List Frame} {meth : Method} {c : Code} {Q : State → Prop} {D : va_G} {cI cJ cZ : ClassId} {ad : Nat → Nat} {A : Nat → Prop} (C : Cx p s m args c cX5_cell 2 wsX5_cell RX5 D vwCl (tyl cI cJ cZ) (wM cI cJ cZ ad) A R 0 0) {r : (Int32 × SH)} (hR : Ri p l e R s m args below meth c cX5_cell D vwCl (wM cI cJ cZ ad) A Q r) (a1 : Int32) (a2 : Int32) (z0 : SH) {H : Heap} {locs : List Loc} {ls : Array Slot} (h : fX5_cell a1 a2 z0 = some r) (hP : va_P D vwCl (wM cI cJ cZ ad z0) H) (hS : va_S A s.heap H locs) (hl : lv_has ls 2 [(0, .int a1), (1, .int a2)]) : W p l e R s m args below meth c H locs 0 0 Q (F0 m 0 ls []) := by
  unfold fX5_cell at h
  have hx := C.1.1
  have hb := C.1.2.1
  refine lv_iconst (v := 4) hx hb dX5_cell_0 (by decide) ?_
  refine lv_iload_n hx hb dX5_cell_1 rfl (lv_at hl 0 rfl) ?_
  refine lv_imul hx hb dX5_cell_2 ?_
  refine lv_iload_n hx hb dX5_cell_3 rfl (lv_at hl 1 rfl) ?_
  refine lv_iadd hx hb dX5_cell_4 ?_
  exact hR 5 _ _ _ _ _ (Option.some.inj h).symm dX5_cell_5 hP hS
theorem mX5_cell (l : Launch) (D : va_G) (cI cJ cZ : ClassId) (ad : Nat → Nat) (a1 : Int32) (a2 : Int32) (z0 : SH) : ∀ (q : (Int32 × SH)) (sz : Nat), fX5_cell a1 a2 z0 = some q → Met l yX5_cell wsX5_cell rmX5_cell (cP D vwCl (tyl cI cJ cZ) (wM cI cJ cZ ad z0) sz [.int a1, .int a2]) (cQi D vwCl (wM cI cJ cZ ad) z0 sz q) 0 0 (va_A (wM cI cJ cZ ad z0) sz) := by
  intro q sz h
  refine ofW_i (cc := cX5_cell) (maxL := 2) (by decide) rfl (wM_same cI cJ cZ ad) (Nat.le_of_ble_eq_true rfl) (fun p e s m below meth c ls hsz C hR hP hl => ?_)
  exact wX5_cell C hR a1 a2 z0 h hP va_S.rf hl
abbrev rmX5_grant : Room := { frames := 2, cells := 0, slots := 0, locals := 42 }
theorem fX5_grant_i16 : Cond.fieldLink RX5 16 (TX5 4).1 (TX5 4).2.1 (TX5 4).2.2.1 ∈ wsX5_grant := by decide +kernel
theorem fX5_grant_i29 : Cond.fieldLink RX5 29 (TX5 8).1 (TX5 8).2.1 (TX5 8).2.2.1 ∈ wsX5_grant := by decide +kernel
theorem fX5_grant_i93 : Cond.fieldLink RX5 93 (TX5 0).1 (TX5 0).2.1 (TX5 0).2.2.1 ∈ wsX5_grant := by decide +kernel
theorem iX5_grant_X5 : ∀ x ∈ wsX50, x ∈ wsX5_grant := by decide +kernel
theorem kX5_grant_105 : Cond.constant RX5 105 (1000000000) ∈ wsX5_grant := by decide +kernel
theorem kX5_grant_111 : Cond.constant RX5 111 (1000000) ∈ wsX5_grant := by decide +kernel
set_option maxRecDepth 100000 in
set_option maxHeartbeats 4000000 in
theorem wX5_grant_67 {p : Program} {l : Launch} {e : Env} {R : Room} {s : State} {m : MethodId} {args : Array Value} {below : List Frame} {meth : Method} {c : Code} {Q : State → Prop} {D : va_G} {cI cJ cZ : ClassId} {ad : Nat → Nat} {A : Nat → Prop} (C : Cx p s m args c cX5_grant 5 wsX5_grant RX5 D vwCl (tyl cI cJ cZ) (wM cI cJ cZ ad) A R 2 42) {r : (Int32 × SH)} (hR : Ri p l e R s m args below meth c cX5_grant D vwCl (wM cI cJ cZ ad) A Q r) (x1 : Int32) (x2 : Int32) (x3 : Int32) (t0 : Int32) (z0 : SH) {H : Heap} {locs : List Loc} {ls : Array Slot} (h : fX5_grant_67 x1 x2 x3 t0 z0 = some r) (hP : va_P D vwCl (wM cI cJ cZ ad z0) H) (hS : va_S A s.heap H locs) (hl : lv_has ls 5 [(0, .ref (ad 0)), (1, .int x1), (2, .int x2), (3, .int x3)]) : W p l e R s m args below meth c H locs 0 0 Q (F0 m 67 ls [.int t0, .ref (ad 0)]) := by
  unfold fX5_grant_67 at h
  have hx := C.1.1
  have hb := C.1.2.1
  refine b_puti C hP hS h iX5_grant_X5 tyX5 tyX5_ok nmX5 0 (wM_0 cI cJ cZ ad z0) rfl 0 (by decide) fX5_grant_i93 rfl rfl rfl (Nat.le_of_ble_eq_true rfl) (wM_si0 cI cJ cZ ad z0 _) dX5_grant_67 (fun z1 _ _ h hP hS => ?_)
  refine lv_aload_n hx hb dX5_grant_70 rfl (lv_at hl 0 rfl) ?_
  refine b_geti C hP h iX5_grant_X5 0 (wM_0 cI cJ cZ ad z1) rfl 0 (by decide) fX5_grant_i93 rfl rfl dX5_grant_71 (fun v2 h => ?_)
  refine lv_if_le (tgt := 79) hx hb dX5_grant_74 (by decide) (fun c1 => ?_) (fun c1 => ?_)
  · replace h := (ite_h h).1 c1
    refine lv_aload_n hx hb dX5_grant_79 rfl (lv_at hl 0 rfl) ?_
    refine b_getr C hP iX5_grant_X5 0 (wM_0 cI cJ cZ ad z1) rfl 4 (by decide) fX5_grant_i16 rfl rfl dX5_grant_80 ?_
    refine lv_iload_n hx hb dX5_grant_83 rfl (lv_at hl 1 rfl) ?_
    refine lv_iload_n hx hb dX5_grant_84 rfl (lv_at hl 2 rfl) ?_
    refine b_callSi (As := [.int x1, .int x2]) (rest := [.ref (ad 3)]) C hP hS h (mX5_cell l D cI cJ cZ ad x1 x2 z1) (va_cwS 2 C.1.2.2.2.2 gX5_grant_X5_cell rfl rfl rfl (by decide +kernel) ⟨Nat.le_trans (Nat.le_of_ble_eq_true rfl) C.2.2.2.2.1, Nat.le_trans (Nat.le_of_ble_eq_true rfl) C.2.2.2.2.2⟩) rfl hl.1 rfl (Nat.le_of_ble_eq_true rfl) dX5_grant_85 (fun v4 z3 _ _ h hP hS => ?_)
    refine lv_dup2_11 hx hb dX5_grant_88 rfl rfl ?_
    refine b_iald C hP h 3 (wM_3 cI cJ cZ ad z3) 0 rfl dX5_grant_89 (fun v5 h => ?_)
    refine lv_iload_n hx hb dX5_grant_90 rfl (lv_at hl 3 rfl) ?_
    refine lv_iadd hx hb dX5_grant_91 ?_
    refine b_iast C hP hS h 3 (wM_3 cI cJ cZ ad z3) 0 rfl (wM_s3 cI cJ cZ ad z3 _ _) dX5_grant_92 (fun z6 _ _ h hP hS => ?_)
    refine lv_aload_n hx hb dX5_grant_93 rfl (lv_at hl 0 rfl) ?_
    refine b_getr C hP iX5_grant_X5 0 (wM_0 cI cJ cZ ad z6) rfl 8 (by decide) fX5_grant_i29 rfl rfl dX5_grant_94 ?_
    refine lv_iload_n hx hb dX5_grant_97 rfl (lv_at hl 1 rfl) ?_
    refine lv_iconst (v := 1) hx hb dX5_grant_98 (by decide) ?_
    refine b_zast C hP hS h 7 (wM_7 cI cJ cZ ad z6) 2 rfl (wM_s7 cI cJ cZ ad z6 _ _) dX5_grant_99 (fun z7 _ _ h hP hS => ?_)
    refine lv_aload_n hx hb dX5_grant_100 rfl (lv_at hl 0 rfl) ?_
    refine b_getr C hP iX5_grant_X5 0 (wM_0 cI cJ cZ ad z7) rfl 4 (by decide) fX5_grant_i16 rfl rfl dX5_grant_101 ?_
    refine lv_iload_n hx hb dX5_grant_104 rfl (lv_at hl 1 rfl) ?_
    refine lv_iload_n hx hb dX5_grant_105 rfl (lv_at hl 2 rfl) ?_
    refine b_callSi (As := [.int x1, .int x2]) (rest := [.ref (ad 3)]) C hP hS h (mX5_cell l D cI cJ cZ ad x1 x2 z7) (va_cwS 2 C.1.2.2.2.2 gX5_grant_X5_cell rfl rfl rfl (by decide +kernel) ⟨Nat.le_trans (Nat.le_of_ble_eq_true rfl) C.2.2.2.2.1, Nat.le_trans (Nat.le_of_ble_eq_true rfl) C.2.2.2.2.2⟩) rfl hl.1 rfl (Nat.le_of_ble_eq_true rfl) dX5_grant_106 (fun v9 z8 _ _ h hP hS => ?_)
    refine b_iald C hP h 3 (wM_3 cI cJ cZ ad z8) 0 rfl dX5_grant_109 (fun v10 h => ?_)
    exact hR 110 _ _ _ _ _ (Option.some.inj h).symm dX5_grant_110 hP hS
  · replace h := (ite_h h).2 c1
    refine lv_iconst (v := 0) hx hb dX5_grant_77 (by decide) ?_
    exact hR 78 _ _ _ _ _ (Option.some.inj h).symm dX5_grant_78 hP hS
set_option maxRecDepth 100000 in
set_option maxHeartbeats 4000000 in
theorem wX5_grant_19 {p : Program} {l : Launch} {e : Env} {R : Room} {s : State} {m : MethodId} {args : Array Value} {below : List Frame} {meth : Method} {c : Code} {Q : State → Prop} {D : va_G} {cI cJ cZ : ClassId} {ad : Nat → Nat} {A : Nat → Prop} (C : Cx p s m args c cX5_grant 5 wsX5_grant RX5 D vwCl (tyl cI cJ cZ) (wM cI cJ cZ ad) A R 2 42) {r : (Int32 × SH)} (hR : Ri p l e R s m args below meth c cX5_grant D vwCl (wM cI cJ cZ ad) A Q r) (x1 : Int32) (x2 : Int32) (x3 : Int32) (t0 : Int32) (z0 : SH) {H : Heap} {locs : List Loc} {ls : Array Slot} (h : fX5_grant_19 x1 x2 x3 t0 z0 = some r) (hP : va_P D vwCl (wM cI cJ cZ ad z0) H) (hS : va_S A s.heap H locs) (hl : lv_has ls 5 [(0, .ref (ad 0)), (1, .int x1), (2, .int x2), (3, .int x3)]) : W p l e R s m args below meth c H locs 0 0 Q (F0 m 19 ls [.int t0]) := by
  unfold fX5_grant_19 at h
  have hx := C.1.1
  have hb := C.1.2.1
  refine lv_istore (lv' := [(4, .int t0), (0, .ref (ad 0)), (1, .int x1), (2, .int x2), (3, .int x3)]) hx hb dX5_grant_19 hl (by decide) rfl (fun ls hl => ?_)
  refine lv_aload_n hx hb dX5_grant_21 rfl (lv_at hl 1 rfl) ?_
  refine lv_iload hx hb dX5_grant_22 (lv_at hl 0 rfl) ?_
  refine lv_if_ne (tgt := 31) hx hb dX5_grant_24 (by decide) (fun c1 => ?_) (fun c1 => ?_)
  · replace h := (ite_h h).2 c1
    refine lv_iload_n hx hb dX5_grant_31 rfl (lv_at hl 4 rfl) ?_
    refine lv_iconst (v := 1) hx hb dX5_grant_32 (by decide) ?_
    refine lv_ldc hx hb C.1.2.2.2.1 (C.1.2.2.2.2 _ kX5_grant_111) dX5_grant_33 ?_
    refine b_callSi (As := [.int x3, .int 1, .int 1000000]) (rest := [.ref (ad 0)]) C hP hS h (mX5_isIn l D cI cJ cZ ad x3 1 1000000 z0) (va_cwS 3 C.1.2.2.2.2 gX5_grant_X5_isIn rfl rfl rfl (by decide +kernel) ⟨Nat.le_trans (Nat.le_of_ble_eq_true rfl) C.2.2.2.2.1, Nat.le_trans (Nat.le_of_ble_eq_true rfl) C.2.2.2.2.2⟩) rfl hl.1 rfl (Nat.le_of_ble_eq_true rfl) dX5_grant_35 (fun v2 z1 _ _ h hP hS => ?_)
    refine lv_if_ne (tgt := 45) hx hb dX5_grant_38 (by decide) (fun c1 => ?_) (fun c1 => ?_)
    · replace h := (ite_h h).2 c1
      refine lv_aload_n hx hb dX5_grant_45 rfl (lv_at hl 1 rfl) ?_
      refine b_getr C hP iX5_grant_X5 0 (wM_0 cI cJ cZ ad z1) rfl 4 (by decide) fX5_grant_i16 rfl rfl dX5_grant_46 ?_
      refine lv_iload_n hx hb dX5_grant_49 rfl (lv_at hl 2 rfl) ?_
      refine lv_iload_n hx hb dX5_grant_50 rfl (lv_at hl 3 rfl) ?_
      refine b_callSi (As := [.int x1, .int x2]) (rest := [.ref (ad 3), .ref (ad 0)]) C hP hS h (mX5_cell l D cI cJ cZ ad x1 x2 z1) (va_cwS 2 C.1.2.2.2.2 gX5_grant_X5_cell rfl rfl rfl (by decide +kernel) ⟨Nat.le_trans (Nat.le_of_ble_eq_true rfl) C.2.2.2.2.1, Nat.le_trans (Nat.le_of_ble_eq_true rfl) C.2.2.2.2.2⟩) rfl hl.1 rfl (Nat.le_of_ble_eq_true rfl) dX5_grant_51 (fun v4 z3 _ _ h hP hS => ?_)
      refine b_iald C hP h 3 (wM_3 cI cJ cZ ad z3) 0 rfl dX5_grant_54 (fun v5 h => ?_)
      refine lv_iload_n hx hb dX5_grant_55 rfl (lv_at hl 4 rfl) ?_
      refine lv_iadd hx hb dX5_grant_56 ?_
      refine lv_ldc hx hb C.1.2.2.2.1 (C.1.2.2.2.2 _ kX5_grant_105) dX5_grant_57 ?_
      refine lv_icmp_le (tgt := 66) hx hb dX5_grant_59 (by decide) (fun c1 => ?_) (fun c1 => ?_)
      · replace h := (ite_h h).1 c1
        refine lv_iconst (v := 0) hx hb dX5_grant_66 (by decide) ?_
        exact wX5_grant_67 C hR x1 x2 x3 0 z3 h hP hS (lv_sub hl [1, 2, 3, 4] rfl)
      · replace h := (ite_h h).2 c1
        refine lv_iconst (v := 3) hx hb dX5_grant_62 (by decide) ?_
        refine lv_goto (tgt := 67) hx hb dX5_grant_63 (by decide) ?_
        exact wX5_grant_67 C hR x1 x2 x3 3 z3 h hP hS (lv_sub hl [1, 2, 3, 4] rfl)
    · replace h := (ite_h h).1 c1
      refine lv_iconst (v := 2) hx hb dX5_grant_41 (by decide) ?_
      refine lv_goto (tgt := 67) hx hb dX5_grant_42 (by decide) ?_
      exact wX5_grant_67 C hR x1 x2 x3 2 z1 h hP hS (lv_sub hl [1, 2, 3, 4] rfl)
  · replace h := (ite_h h).1 c1
    refine lv_iconst (v := 1) hx hb dX5_grant_27 (by decide) ?_
    refine lv_goto (tgt := 67) hx hb dX5_grant_28 (by decide) ?_
    exact wX5_grant_67 C hR x1 x2 x3 1 z0 h hP hS (lv_sub hl [1, 2, 3, 4] rfl)
set_option maxRecDepth 100000 in
set_option maxHeartbeats 4000000 in
theorem wX5_grant_18 {p : Program} {l : Launch} {e : Env} {R : Room} {s : State} {m : MethodId} {args : Array Value} {below : List Frame} {meth : Method} {c : Code} {Q : State → Prop} {D : va_G} {cI cJ cZ : ClassId} {ad : Nat → Nat} {A : Nat → Prop} (C : Cx p s m args c cX5_grant 5 wsX5_grant RX5 D vwCl (tyl cI cJ cZ) (wM cI cJ cZ ad) A R 2 42) {r : (Int32 × SH)} (hR : Ri p l e R s m args below meth c cX5_grant D vwCl (wM cI cJ cZ ad) A Q r) (x1 : Int32) (x2 : Int32) (x3 : Int32) (z0 : SH) {H : Heap} {locs : List Loc} {ls : Array Slot} (h : fX5_grant_18 x1 x2 x3 z0 = some r) (hP : va_P D vwCl (wM cI cJ cZ ad z0) H) (hS : va_S A s.heap H locs) (hl : lv_has ls 5 [(0, .ref (ad 0)), (1, .int x1), (2, .int x2), (3, .int x3)]) : W p l e R s m args below meth c H locs 0 0 Q (F0 m 18 ls []) := by
  unfold fX5_grant_18 at h
  have hx := C.1.1
  have hb := C.1.2.1
  refine lv_iconst (v := 0) hx hb dX5_grant_18 (by decide) ?_
  exact wX5_grant_19 C hR x1 x2 x3 0 z0 h hP hS (lv_sub hl [0, 1, 2, 3] rfl)
set_option maxRecDepth 100000 in
set_option maxHeartbeats 4000000 in
theorem wX5_grant {p : Program} {l : Launch} {e : Env} {R : Room} {s : State} {m : MethodId} {args : Array Value} {below : List Frame} {meth : Method} {c : Code} {Q : State → Prop} {D : va_G} {cI cJ cZ : ClassId} {ad : Nat → Nat} {A : Nat → Prop} (C : Cx p s m args c cX5_grant 5 wsX5_grant RX5 D vwCl (tyl cI cJ cZ) (wM cI cJ cZ ad) A R 2 42) {r : (Int32 × SH)} (hR : Ri p l e R s m args below meth c cX5_grant D vwCl (wM cI cJ cZ ad) A Q r) (a1 : Int32) (a2 : Int32) (a3 : Int32) (z0 : SH) {H : Heap} {locs : List Loc} {ls : Array Slot} (h : fX5_grant a1 a2 a3 z0 = some r) (hP : va_P D vwCl (wM cI cJ cZ ad z0) H) (hS : va_S A s.heap H locs) (hl : lv_has ls 5 [(0, .ref (ad 0)), (1, .int a1), (2, .int a2), (3, .int a3)]) : W p l e R s m args below meth c H locs 0 0 Q (F0 m 0 ls []) := by
  unfold fX5_grant at h
  have hx := C.1.1
  have hb := C.1.2.1
  refine lv_iload_n hx hb dX5_grant_0 rfl (lv_at hl 1 rfl) ?_
  refine b_callSi (As := [.int a1]) (rest := []) C hP hS h (mX5_isAccount l D cI cJ cZ ad a1 z0) (va_cwS 1 C.1.2.2.2.2 gX5_grant_X5_isAccount rfl rfl rfl (by decide +kernel) ⟨Nat.le_trans (Nat.le_of_ble_eq_true rfl) C.2.2.2.2.1, Nat.le_trans (Nat.le_of_ble_eq_true rfl) C.2.2.2.2.2⟩) rfl hl.1 rfl (Nat.le_of_ble_eq_true rfl) dX5_grant_1 (fun v2 z1 _ _ h hP hS => ?_)
  refine lv_if_eq (tgt := 18) hx hb dX5_grant_4 (by decide) (fun c1 => ?_) (fun c1 => ?_)
  · replace h := (ite_h h).1 c1
    exact wX5_grant_18 C hR a1 a2 a3 z1 h hP hS (lv_sub hl [0, 1, 2, 3] rfl)
  · replace h := (ite_h h).2 c1
    refine lv_iload_n hx hb dX5_grant_7 rfl (lv_at hl 2 rfl) ?_
    refine b_callSi (As := [.int a2]) (rest := []) C hP hS h (mX5_isSymbol l D cI cJ cZ ad a2 z1) (va_cwS 1 C.1.2.2.2.2 gX5_grant_X5_isSymbol rfl rfl rfl (by decide +kernel) ⟨Nat.le_trans (Nat.le_of_ble_eq_true rfl) C.2.2.2.2.1, Nat.le_trans (Nat.le_of_ble_eq_true rfl) C.2.2.2.2.2⟩) rfl hl.1 rfl (Nat.le_of_ble_eq_true rfl) dX5_grant_8 (fun v4 z3 _ _ h hP hS => ?_)
    refine lv_if_eq (tgt := 18) hx hb dX5_grant_11 (by decide) (fun c1 => ?_) (fun c1 => ?_)
    · replace h := (ite_h h).1 c1
      exact wX5_grant_18 C hR a1 a2 a3 z3 h hP hS (lv_sub hl [0, 1, 2, 3] rfl)
    · replace h := (ite_h h).2 c1
      refine lv_iconst (v := 1) hx hb dX5_grant_14 (by decide) ?_
      refine lv_goto (tgt := 19) hx hb dX5_grant_15 (by decide) ?_
      exact wX5_grant_19 C hR a1 a2 a3 1 z3 h hP hS (lv_sub hl [0, 1, 2, 3] rfl)
theorem mX5_grant (l : Launch) (D : va_G) (cI cJ cZ : ClassId) (ad : Nat → Nat) (a1 : Int32) (a2 : Int32) (a3 : Int32) (z0 : SH) : ∀ (q : (Int32 × SH)) (sz : Nat), fX5_grant a1 a2 a3 z0 = some q → Met l yX5_grant wsX5_grant rmX5_grant (cP D vwCl (tyl cI cJ cZ) (wM cI cJ cZ ad z0) sz [.ref (ad 0), .int a1, .int a2, .int a3]) (cQi D vwCl (wM cI cJ cZ ad) z0 sz q) 0 0 (va_A (wM cI cJ cZ ad z0) sz) := by
  intro q sz h
  refine ofW_i (cc := cX5_grant) (maxL := 5) (by decide) rfl (wM_same cI cJ cZ ad) (Nat.le_of_ble_eq_true rfl) (fun p e s m below meth c ls hsz C hR hP hl => ?_)
  exact wX5_grant C hR a1 a2 a3 z0 h hP va_S.rf hl
abbrev rmX5_isThere : Room := { frames := 0, cells := 0, slots := 0, locals := 0 }
theorem fX5_isThere_i57 : Cond.fieldLink RX5 57 (TX5 18).1 (TX5 18).2.1 (TX5 18).2.2.1 ∈ wsX5_isThere := by decide +kernel
theorem iX5_isThere_X5 : ∀ x ∈ wsX50, x ∈ wsX5_isThere := by decide +kernel
set_option maxRecDepth 100000 in
set_option maxHeartbeats 4000000 in
theorem wX5_isThere_24 {p : Program} {l : Launch} {e : Env} {R : Room} {s : State} {m : MethodId} {args : Array Value} {below : List Frame} {meth : Method} {c : Code} {Q : State → Prop} {D : va_G} {cI cJ cZ : ClassId} {ad : Nat → Nat} {A : Nat → Prop} (C : Cx p s m args c cX5_isThere 2 wsX5_isThere RX5 D vwCl (tyl cI cJ cZ) (wM cI cJ cZ ad) A R 0 0) {r : (Int32 × SH)} (hR : Rz p l e R s m args below meth c cX5_isThere D vwCl (wM cI cJ cZ ad) A Q r) (t0 : Int32) (z0 : SH) {H : Heap} {locs : List Loc} {ls : Array Slot} (h : fX5_isThere_24 t0 z0 = some r) (hP : va_P D vwCl (wM cI cJ cZ ad z0) H) (hS : va_S A s.heap H locs) (hl : lv_has ls 2 []) : W p l e R s m args below meth c H locs 0 0 Q (F0 m 24 ls [.int t0]) := by
  unfold fX5_isThere_24 at h
  have hx := C.1.1
  have hb := C.1.2.1
  exact hR 24 _ _ _ _ _ h dX5_isThere_24 hP hS
set_option maxRecDepth 100000 in
set_option maxHeartbeats 4000000 in
theorem wX5_isThere_19 {p : Program} {l : Launch} {e : Env} {R : Room} {s : State} {m : MethodId} {args : Array Value} {below : List Frame} {meth : Method} {c : Code} {Q : State → Prop} {D : va_G} {cI cJ cZ : ClassId} {ad : Nat → Nat} {A : Nat → Prop} (C : Cx p s m args c cX5_isThere 2 wsX5_isThere RX5 D vwCl (tyl cI cJ cZ) (wM cI cJ cZ ad) A R 0 0) {r : (Int32 × SH)} (hR : Rz p l e R s m args below meth c cX5_isThere D vwCl (wM cI cJ cZ ad) A Q r) (z0 : SH) {H : Heap} {locs : List Loc} {ls : Array Slot} (h : fX5_isThere_19 z0 = some r) (hP : va_P D vwCl (wM cI cJ cZ ad z0) H) (hS : va_S A s.heap H locs) (hl : lv_has ls 2 []) : W p l e R s m args below meth c H locs 0 0 Q (F0 m 19 ls []) := by
  unfold fX5_isThere_19 at h
  have hx := C.1.1
  have hb := C.1.2.1
  refine lv_iconst (v := 1) hx hb dX5_isThere_19 (by decide) ?_
  refine lv_goto (tgt := 24) hx hb dX5_isThere_20 (by decide) ?_
  exact wX5_isThere_24 C hR 1 z0 h hP hS (lv_sub hl [] rfl)
set_option maxRecDepth 100000 in
set_option maxHeartbeats 4000000 in
theorem wX5_isThere {p : Program} {l : Launch} {e : Env} {R : Room} {s : State} {m : MethodId} {args : Array Value} {below : List Frame} {meth : Method} {c : Code} {Q : State → Prop} {D : va_G} {cI cJ cZ : ClassId} {ad : Nat → Nat} {A : Nat → Prop} (C : Cx p s m args c cX5_isThere 2 wsX5_isThere RX5 D vwCl (tyl cI cJ cZ) (wM cI cJ cZ ad) A R 0 0) {r : (Int32 × SH)} (hR : Rz p l e R s m args below meth c cX5_isThere D vwCl (wM cI cJ cZ ad) A Q r) (a1 : Int32) (z0 : SH) {H : Heap} {locs : List Loc} {ls : Array Slot} (h : fX5_isThere a1 z0 = some r) (hP : va_P D vwCl (wM cI cJ cZ ad z0) H) (hS : va_S A s.heap H locs) (hl : lv_has ls 2 [(0, .ref (ad 0)), (1, .int a1)]) : W p l e R s m args below meth c H locs 0 0 Q (F0 m 0 ls []) := by
  unfold fX5_isThere at h
  have hx := C.1.1
  have hb := C.1.2.1
  refine lv_aload_n hx hb dX5_isThere_0 rfl (lv_at hl 0 rfl) ?_
  refine b_getr C hP iX5_isThere_X5 0 (wM_0 cI cJ cZ ad z0) rfl 18 (by decide) fX5_isThere_i57 rfl rfl dX5_isThere_1 ?_
  refine lv_iload_n hx hb dX5_isThere_4 rfl (lv_at hl 1 rfl) ?_
  refine b_iald C hP h 16 (wM_16 cI cJ cZ ad z0) 0 rfl dX5_isThere_5 (fun v1 h => ?_)
  refine lv_if_eq (tgt := 19) hx hb dX5_isThere_6 (by decide) (fun c1 => ?_) (fun c1 => ?_)
  · replace h := (ite_h h).1 c1
    exact wX5_isThere_19 C hR z0 h hP hS (lv_sub hl [] rfl)
  · replace h := (ite_h h).2 c1
    refine lv_aload_n hx hb dX5_isThere_9 rfl (lv_at hl 0 rfl) ?_
    refine b_getr C hP iX5_isThere_X5 0 (wM_0 cI cJ cZ ad z0) rfl 18 (by decide) fX5_isThere_i57 rfl rfl dX5_isThere_10 ?_
    refine lv_iload_n hx hb dX5_isThere_13 rfl (lv_at hl 1 rfl) ?_
    refine b_iald C hP h 16 (wM_16 cI cJ cZ ad z0) 0 rfl dX5_isThere_14 (fun v2 h => ?_)
    refine lv_iconst (v := 1) hx hb dX5_isThere_15 (by decide) ?_
    refine lv_icmp_ne (tgt := 23) hx hb dX5_isThere_16 (by decide) (fun c1 => ?_) (fun c1 => ?_)
    · replace h := (ite_h h).2 c1
      refine lv_iconst (v := 0) hx hb dX5_isThere_23 (by decide) ?_
      exact wX5_isThere_24 C hR 0 z0 h hP hS (lv_sub hl [] rfl)
    · replace h := (ite_h h).1 c1
      exact wX5_isThere_19 C hR z0 h hP hS (lv_sub hl [] rfl)
theorem mX5_isThere (l : Launch) (D : va_G) (cI cJ cZ : ClassId) (ad : Nat → Nat) (a1 : Int32) (z0 : SH) : ∀ (q : (Int32 × SH)) (sz : Nat), fX5_isThere a1 z0 = some q → Met l yX5_isThere wsX5_isThere rmX5_isThere (cP D vwCl (tyl cI cJ cZ) (wM cI cJ cZ ad z0) sz [.ref (ad 0), .int a1]) (cQi D vwCl (wM cI cJ cZ ad) z0 sz q) 0 0 (va_A (wM cI cJ cZ ad z0) sz) := by
  intro q sz h
  refine ofW_z (cc := cX5_isThere) (maxL := 2) (by decide) rfl (wM_same cI cJ cZ ad) (Nat.le_of_ble_eq_true rfl) (fun p e s m below meth c ls hsz C hR hP hl => ?_)
  exact wX5_isThere C hR a1 z0 h hP va_S.rf hl
abbrev rmX5_there : Room := { frames := 1, cells := 0, slots := 0, locals := 21 }
theorem fX5_there_i116 : Cond.fieldLink RX5 116 (TX5 9).1 (TX5 9).2.1 (TX5 9).2.2.1 ∈ wsX5_there := by decide +kernel
theorem iX5_there_X5 : ∀ x ∈ wsX50, x ∈ wsX5_there := by decide +kernel
set_option maxRecDepth 100000 in
set_option maxHeartbeats 4000000 in
theorem wX5_there_27 {p : Program} {l : Launch} {e : Env} {R : Room} {s : State} {m : MethodId} {args : Array Value} {below : List Frame} {meth : Method} {c : Code} {Q : State → Prop} {D : va_G} {cI cJ cZ : ClassId} {ad : Nat → Nat} {A : Nat → Prop} (C : Cx p s m args c cX5_there 3 wsX5_there RX5 D vwCl (tyl cI cJ cZ) (wM cI cJ cZ ad) A R 1 21) {r : (Int32 × SH)} (hR : Ri p l e R s m args below meth c cX5_there D vwCl (wM cI cJ cZ ad) A Q r) (N : Nat) (k4 : Int32 → Int32 → SH → Option (Int32 × SH)) (K4 : ∀ (x1 : Int32) (x2 : Int32) (z : SH) (H : Heap) (locs : List Loc) (ls : Array Slot), k4 x1 x2 z = some r → va_P D vwCl (wM cI cJ cZ ad z) H → va_S A s.heap H locs → lv_has ls 3 [(0, .ref (ad 0)), (1, .int x1), (2, .int x2)] → W p l e R s m args below meth c H locs 0 0 Q (F0 m 4 ls [])) (x2 : Int32) (t0 : Int32) (z0 : SH) {H : Heap} {locs : List Loc} {ls : Array Slot} (h : fX5_there_27 N k4 x2 t0 z0 = some r) (hP : va_P D vwCl (wM cI cJ cZ ad z0) H) (hS : va_S A s.heap H locs) (hl : lv_has ls 3 [(0, .ref (ad 0)), (2, .int x2)]) : W p l e R s m args below meth c H locs 0 0 Q (F0 m 27 ls [.int t0]) := by
  unfold fX5_there_27 at h
  have hx := C.1.1
  have hb := C.1.2.1
  refine lv_istore_n (lv' := [(1, .int t0), (0, .ref (ad 0)), (2, .int x2)]) hx hb dX5_there_27 rfl hl (by decide) rfl (fun ls hl => ?_)
  refine lv_iinc (v := x2 + 1) (lv' := [(2, .int (x2 + 1)), (1, .int t0), (0, .ref (ad 0))]) hx hb dX5_there_28 hl (k := 2) rfl rfl (by decide) rfl (fun ls hl => ?_)
  refine lv_goto (tgt := 4) hx hb dX5_there_31 (by decide) ?_
  exact K4 t0 (x2 + 1) z0 _ _ _ h hP hS (lv_sub hl [2, 1, 0] rfl)
set_option maxRecDepth 100000 in
set_option maxHeartbeats 4000000 in
theorem wX5_there_4 {p : Program} {l : Launch} {e : Env} {R : Room} {s : State} {m : MethodId} {args : Array Value} {below : List Frame} {meth : Method} {c : Code} {Q : State → Prop} {D : va_G} {cI cJ cZ : ClassId} {ad : Nat → Nat} {A : Nat → Prop} (C : Cx p s m args c cX5_there 3 wsX5_there RX5 D vwCl (tyl cI cJ cZ) (wM cI cJ cZ ad) A R 1 21) {r : (Int32 × SH)} (hR : Ri p l e R s m args below meth c cX5_there D vwCl (wM cI cJ cZ ad) A Q r) (N : Nat) (k4 : Int32 → Int32 → SH → Option (Int32 × SH)) (K4 : ∀ (x1 : Int32) (x2 : Int32) (z : SH) (H : Heap) (locs : List Loc) (ls : Array Slot), k4 x1 x2 z = some r → va_P D vwCl (wM cI cJ cZ ad z) H → va_S A s.heap H locs → lv_has ls 3 [(0, .ref (ad 0)), (1, .int x1), (2, .int x2)] → W p l e R s m args below meth c H locs 0 0 Q (F0 m 4 ls [])) (x1 : Int32) (x2 : Int32) (z0 : SH) {H : Heap} {locs : List Loc} {ls : Array Slot} (h : fX5_there_4 N k4 x1 x2 z0 = some r) (hP : va_P D vwCl (wM cI cJ cZ ad z0) H) (hS : va_S A s.heap H locs) (hl : lv_has ls 3 [(0, .ref (ad 0)), (1, .int x1), (2, .int x2)]) : W p l e R s m args below meth c H locs 0 0 Q (F0 m 4 ls []) := by
  unfold fX5_there_4 at h
  have hx := C.1.1
  have hb := C.1.2.1
  refine lv_iload_n hx hb dX5_there_4 rfl (lv_at hl 2 rfl) ?_
  refine lv_aload_n hx hb dX5_there_5 rfl (lv_at hl 0 rfl) ?_
  refine b_geti C hP h iX5_there_X5 0 (wM_0 cI cJ cZ ad z0) rfl 9 (by decide) fX5_there_i116 rfl rfl dX5_there_6 (fun v1 h => ?_)
  refine lv_icmp_ge (tgt := 34) hx hb dX5_there_9 (by decide) (fun c1 => ?_) (fun c1 => ?_)
  · replace h := (ite_h h).1 c1
    refine lv_iload_n hx hb dX5_there_34 rfl (lv_at hl 1 rfl) ?_
    exact hR 35 _ _ _ _ _ (Option.some.inj h).symm dX5_there_35 hP hS
  · replace h := (ite_h h).2 c1
    refine lv_aload_n hx hb dX5_there_12 rfl (lv_at hl 0 rfl) ?_
    refine lv_iload_n hx hb dX5_there_13 rfl (lv_at hl 2 rfl) ?_
    refine b_callVi (As := [.int x2]) (rest := []) C hP hS h (mX5_isThere l D cI cJ cZ ad x2 z0) (cwV 1 C.1.2.2.2.2 gX5_there_X5_isThere rfl rfl rfl (by decide +kernel) ⟨Nat.le_trans (Nat.le_of_ble_eq_true rfl) C.2.2.2.2.1, Nat.le_trans (Nat.le_of_ble_eq_true rfl) C.2.2.2.2.2⟩) (va_recv C.2.1 hP (ci := 5) (q0 := 0) rfl (wM_0 cI cJ cZ ad z0)) rfl hl.1 rfl (Nat.le_of_ble_eq_true rfl) dX5_there_14 (fun v3 z2 _ _ h hP hS => ?_)
    refine lv_if_eq (tgt := 26) hx hb dX5_there_17 (by decide) (fun c1 => ?_) (fun c1 => ?_)
    · replace h := (ite_h h).1 c1
      refine lv_iload_n hx hb dX5_there_26 rfl (lv_at hl 1 rfl) ?_
      exact wX5_there_27 C hR N k4 K4 x2 x1 z2 h hP hS (lv_sub hl [0, 2] rfl)
    · replace h := (ite_h h).2 c1
      refine lv_iload_n hx hb dX5_there_20 rfl (lv_at hl 1 rfl) ?_
      refine lv_iconst (v := 1) hx hb dX5_there_21 (by decide) ?_
      refine lv_iadd hx hb dX5_there_22 ?_
      refine lv_goto (tgt := 27) hx hb dX5_there_23 (by decide) ?_
      exact wX5_there_27 C hR N k4 K4 x2 (x1 + 1) z2 h hP hS (lv_sub hl [0, 2] rfl)
theorem wX5_there_4_L {p : Program} {l : Launch} {e : Env} {R : Room} {s : State} {m : MethodId} {args : Array Value} {below : List Frame} {meth : Method} {c : Code} {Q : State → Prop} {D : va_G} {cI cJ cZ : ClassId} {ad : Nat → Nat} {A : Nat → Prop} (C : Cx p s m args c cX5_there 3 wsX5_there RX5 D vwCl (tyl cI cJ cZ) (wM cI cJ cZ ad) A R 1 21) {r : (Int32 × SH)} (hR : Ri p l e R s m args below meth c cX5_there D vwCl (wM cI cJ cZ ad) A Q r) (N : Nat) : ∀ (n : Nat), ∀ (x1 : Int32) (x2 : Int32) (z : SH) (H : Heap) (locs : List Loc) (ls : Array Slot), fX5_there_4_L N n x1 x2 z = some r → va_P D vwCl (wM cI cJ cZ ad z) H → va_S A s.heap H locs → lv_has ls 3 [(0, .ref (ad 0)), (1, .int x1), (2, .int x2)] → W p l e R s m args below meth c H locs 0 0 Q (F0 m 4 ls []) := by
  intro n
  induction n with
  | zero => intro x1 x2 z H locs ls h; exact nomatch (show (none : Option (Int32 × SH)) = some r from h)
  | succ n ih => intro x1 x2 z H locs ls h hP hS hl; exact wX5_there_4 C hR N (fX5_there_4_L N n) ih x1 x2 z (show fX5_there_4 N (fX5_there_4_L N n) x1 x2 z = some r from h) hP hS hl
set_option maxRecDepth 100000 in
set_option maxHeartbeats 4000000 in
theorem wX5_there {p : Program} {l : Launch} {e : Env} {R : Room} {s : State} {m : MethodId} {args : Array Value} {below : List Frame} {meth : Method} {c : Code} {Q : State → Prop} {D : va_G} {cI cJ cZ : ClassId} {ad : Nat → Nat} {A : Nat → Prop} (C : Cx p s m args c cX5_there 3 wsX5_there RX5 D vwCl (tyl cI cJ cZ) (wM cI cJ cZ ad) A R 1 21) {r : (Int32 × SH)} (hR : Ri p l e R s m args below meth c cX5_there D vwCl (wM cI cJ cZ ad) A Q r) (N : Nat) (z0 : SH) {H : Heap} {locs : List Loc} {ls : Array Slot} (h : fX5_there N z0 = some r) (hP : va_P D vwCl (wM cI cJ cZ ad z0) H) (hS : va_S A s.heap H locs) (hl : lv_has ls 3 [(0, .ref (ad 0))]) : W p l e R s m args below meth c H locs 0 0 Q (F0 m 0 ls []) := by
  unfold fX5_there at h
  have hx := C.1.1
  have hb := C.1.2.1
  refine lv_iconst (v := 0) hx hb dX5_there_0 (by decide) ?_
  refine lv_istore_n (lv' := [(1, .int 0), (0, .ref (ad 0))]) hx hb dX5_there_1 rfl hl (by decide) rfl (fun ls hl => ?_)
  refine lv_iconst (v := 0) hx hb dX5_there_2 (by decide) ?_
  refine lv_istore_n (lv' := [(2, .int 0), (1, .int 0), (0, .ref (ad 0))]) hx hb dX5_there_3 rfl hl (by decide) rfl (fun ls hl => ?_)
  exact wX5_there_4_L C hR N N 0 0 z0 _ _ _ h hP hS (lv_sub hl [2, 1, 0] rfl)
theorem mX5_there (l : Launch) (D : va_G) (cI cJ cZ : ClassId) (ad : Nat → Nat) (N : Nat) (z0 : SH) : ∀ (q : (Int32 × SH)) (sz : Nat), fX5_there N z0 = some q → Met l yX5_there wsX5_there rmX5_there (cP D vwCl (tyl cI cJ cZ) (wM cI cJ cZ ad z0) sz [.ref (ad 0)]) (cQi D vwCl (wM cI cJ cZ ad) z0 sz q) 0 0 (va_A (wM cI cJ cZ ad z0) sz) := by
  intro q sz h
  refine ofW_i (cc := cX5_there) (maxL := 3) (by decide) rfl (wM_same cI cJ cZ ad) (Nat.le_of_ble_eq_true rfl) (fun p e s m below meth c ls hsz C hR hP hl => ?_)
  exact wX5_there C hR N z0 h hP va_S.rf hl
abbrev rmX5_rests : Room := { frames := 0, cells := 0, slots := 0, locals := 0 }
theorem fX5_rests_i36 : Cond.fieldLink RX5 36 (TX5 11).1 (TX5 11).2.1 (TX5 11).2.2.1 ∈ wsX5_rests := by decide +kernel
theorem fX5_rests_i39 : Cond.fieldLink RX5 39 (TX5 12).1 (TX5 12).2.1 (TX5 12).2.2.1 ∈ wsX5_rests := by decide +kernel
theorem fX5_rests_i57 : Cond.fieldLink RX5 57 (TX5 18).1 (TX5 18).2.1 (TX5 18).2.2.1 ∈ wsX5_rests := by decide +kernel
theorem iX5_rests_X5 : ∀ x ∈ wsX50, x ∈ wsX5_rests := by decide +kernel
set_option maxRecDepth 100000 in
set_option maxHeartbeats 4000000 in
theorem wX5_rests_34 {p : Program} {l : Launch} {e : Env} {R : Room} {s : State} {m : MethodId} {args : Array Value} {below : List Frame} {meth : Method} {c : Code} {Q : State → Prop} {D : va_G} {cI cJ cZ : ClassId} {ad : Nat → Nat} {A : Nat → Prop} (C : Cx p s m args c cX5_rests 4 wsX5_rests RX5 D vwCl (tyl cI cJ cZ) (wM cI cJ cZ ad) A R 0 0) {r : (Int32 × SH)} (hR : Rz p l e R s m args below meth c cX5_rests D vwCl (wM cI cJ cZ ad) A Q r) (t0 : Int32) (z0 : SH) {H : Heap} {locs : List Loc} {ls : Array Slot} (h : fX5_rests_34 t0 z0 = some r) (hP : va_P D vwCl (wM cI cJ cZ ad z0) H) (hS : va_S A s.heap H locs) (hl : lv_has ls 4 []) : W p l e R s m args below meth c H locs 0 0 Q (F0 m 34 ls [.int t0]) := by
  unfold fX5_rests_34 at h
  have hx := C.1.1
  have hb := C.1.2.1
  exact hR 34 _ _ _ _ _ h dX5_rests_34 hP hS
set_option maxRecDepth 100000 in
set_option maxHeartbeats 4000000 in
theorem wX5_rests_33 {p : Program} {l : Launch} {e : Env} {R : Room} {s : State} {m : MethodId} {args : Array Value} {below : List Frame} {meth : Method} {c : Code} {Q : State → Prop} {D : va_G} {cI cJ cZ : ClassId} {ad : Nat → Nat} {A : Nat → Prop} (C : Cx p s m args c cX5_rests 4 wsX5_rests RX5 D vwCl (tyl cI cJ cZ) (wM cI cJ cZ ad) A R 0 0) {r : (Int32 × SH)} (hR : Rz p l e R s m args below meth c cX5_rests D vwCl (wM cI cJ cZ ad) A Q r) (z0 : SH) {H : Heap} {locs : List Loc} {ls : Array Slot} (h : fX5_rests_33 z0 = some r) (hP : va_P D vwCl (wM cI cJ cZ ad z0) H) (hS : va_S A s.heap H locs) (hl : lv_has ls 4 []) : W p l e R s m args below meth c H locs 0 0 Q (F0 m 33 ls []) := by
  unfold fX5_rests_33 at h
  have hx := C.1.1
  have hb := C.1.2.1
  refine lv_iconst (v := 0) hx hb dX5_rests_33 (by decide) ?_
  exact wX5_rests_34 C hR 0 z0 h hP hS (lv_sub hl [] rfl)
set_option maxRecDepth 100000 in
set_option maxHeartbeats 4000000 in
theorem wX5_rests {p : Program} {l : Launch} {e : Env} {R : Room} {s : State} {m : MethodId} {args : Array Value} {below : List Frame} {meth : Method} {c : Code} {Q : State → Prop} {D : va_G} {cI cJ cZ : ClassId} {ad : Nat → Nat} {A : Nat → Prop} (C : Cx p s m args c cX5_rests 4 wsX5_rests RX5 D vwCl (tyl cI cJ cZ) (wM cI cJ cZ ad) A R 0 0) {r : (Int32 × SH)} (hR : Rz p l e R s m args below meth c cX5_rests D vwCl (wM cI cJ cZ ad) A Q r) (a1 : Int32) (a2 : Int32) (a3 : Int32) (z0 : SH) {H : Heap} {locs : List Loc} {ls : Array Slot} (h : fX5_rests a1 a2 a3 z0 = some r) (hP : va_P D vwCl (wM cI cJ cZ ad z0) H) (hS : va_S A s.heap H locs) (hl : lv_has ls 4 [(0, .ref (ad 0)), (1, .int a1), (2, .int a2), (3, .int a3)]) : W p l e R s m args below meth c H locs 0 0 Q (F0 m 0 ls []) := by
  unfold fX5_rests at h
  have hx := C.1.1
  have hb := C.1.2.1
  refine lv_aload_n hx hb dX5_rests_0 rfl (lv_at hl 0 rfl) ?_
  refine b_getr C hP iX5_rests_X5 0 (wM_0 cI cJ cZ ad z0) rfl 18 (by decide) fX5_rests_i57 rfl rfl dX5_rests_1 ?_
  refine lv_iload_n hx hb dX5_rests_4 rfl (lv_at hl 1 rfl) ?_
  refine b_iald C hP h 16 (wM_16 cI cJ cZ ad z0) 0 rfl dX5_rests_5 (fun v1 h => ?_)
  refine lv_if_ne (tgt := 33) hx hb dX5_rests_6 (by decide) (fun c1 => ?_) (fun c1 => ?_)
  · replace h := (ite_h h).2 c1
    exact wX5_rests_33 C hR z0 h hP hS (lv_sub hl [] rfl)
  · replace h := (ite_h h).1 c1
    refine lv_aload_n hx hb dX5_rests_9 rfl (lv_at hl 0 rfl) ?_
    refine b_getr C hP iX5_rests_X5 0 (wM_0 cI cJ cZ ad z0) rfl 11 (by decide) fX5_rests_i36 rfl rfl dX5_rests_10 ?_
    refine lv_iload_n hx hb dX5_rests_13 rfl (lv_at hl 1 rfl) ?_
    refine b_iald C hP h 9 (wM_9 cI cJ cZ ad z0) 0 rfl dX5_rests_14 (fun v2 h => ?_)
    refine lv_iload_n hx hb dX5_rests_15 rfl (lv_at hl 2 rfl) ?_
    refine lv_icmp_ne (tgt := 33) hx hb dX5_rests_16 (by decide) (fun c1 => ?_) (fun c1 => ?_)
    · replace h := (ite_h h).2 c1
      exact wX5_rests_33 C hR z0 h hP hS (lv_sub hl [] rfl)
    · replace h := (ite_h h).1 c1
      refine lv_aload_n hx hb dX5_rests_19 rfl (lv_at hl 0 rfl) ?_
      refine b_getr C hP iX5_rests_X5 0 (wM_0 cI cJ cZ ad z0) rfl 12 (by decide) fX5_rests_i39 rfl rfl dX5_rests_20 ?_
      refine lv_iload_n hx hb dX5_rests_23 rfl (lv_at hl 1 rfl) ?_
      refine b_iald C hP h 10 (wM_10 cI cJ cZ ad z0) 0 rfl dX5_rests_24 (fun v3 h => ?_)
      refine lv_iload_n hx hb dX5_rests_25 rfl (lv_at hl 3 rfl) ?_
      refine lv_icmp_ne (tgt := 33) hx hb dX5_rests_26 (by decide) (fun c1 => ?_) (fun c1 => ?_)
      · replace h := (ite_h h).2 c1
        exact wX5_rests_33 C hR z0 h hP hS (lv_sub hl [] rfl)
      · replace h := (ite_h h).1 c1
        refine lv_iconst (v := 1) hx hb dX5_rests_29 (by decide) ?_
        refine lv_goto (tgt := 34) hx hb dX5_rests_30 (by decide) ?_
        exact wX5_rests_34 C hR 1 z0 h hP hS (lv_sub hl [] rfl)
theorem mX5_rests (l : Launch) (D : va_G) (cI cJ cZ : ClassId) (ad : Nat → Nat) (a1 : Int32) (a2 : Int32) (a3 : Int32) (z0 : SH) : ∀ (q : (Int32 × SH)) (sz : Nat), fX5_rests a1 a2 a3 z0 = some q → Met l yX5_rests wsX5_rests rmX5_rests (cP D vwCl (tyl cI cJ cZ) (wM cI cJ cZ ad z0) sz [.ref (ad 0), .int a1, .int a2, .int a3]) (cQi D vwCl (wM cI cJ cZ ad) z0 sz q) 0 0 (va_A (wM cI cJ cZ ad z0) sz) := by
  intro q sz h
  refine ofW_z (cc := cX5_rests) (maxL := 4) (by decide) rfl (wM_same cI cJ cZ ad) (Nat.le_of_ble_eq_true rfl) (fun p e s m below meth c ls hsz C hR hP hl => ?_)
  exact wX5_rests C hR a1 a2 a3 z0 h hP va_S.rf hl
abbrev rmX5_isBetter : Room := { frames := 0, cells := 0, slots := 0, locals := 0 }
set_option maxRecDepth 100000 in
set_option maxHeartbeats 4000000 in
theorem wX5_isBetter_27 {p : Program} {l : Launch} {e : Env} {R : Room} {s : State} {m : MethodId} {args : Array Value} {below : List Frame} {meth : Method} {c : Code} {Q : State → Prop} {D : va_G} {cI cJ cZ : ClassId} {ad : Nat → Nat} {A : Nat → Prop} (C : Cx p s m args c cX5_isBetter 3 wsX5_isBetter RX5 D vwCl (tyl cI cJ cZ) (wM cI cJ cZ ad) A R 0 0) {r : (Int32 × SH)} (hR : Rz p l e R s m args below meth c cX5_isBetter D vwCl (wM cI cJ cZ ad) A Q r) (t0 : Int32) (z0 : SH) {H : Heap} {locs : List Loc} {ls : Array Slot} (h : fX5_isBetter_27 t0 z0 = some r) (hP : va_P D vwCl (wM cI cJ cZ ad z0) H) (hS : va_S A s.heap H locs) (hl : lv_has ls 3 []) : W p l e R s m args below meth c H locs 0 0 Q (F0 m 27 ls [.int t0]) := by
  unfold fX5_isBetter_27 at h
  have hx := C.1.1
  have hb := C.1.2.1
  exact hR 27 _ _ _ _ _ h dX5_isBetter_27 hP hS
set_option maxRecDepth 100000 in
set_option maxHeartbeats 4000000 in
theorem wX5_isBetter {p : Program} {l : Launch} {e : Env} {R : Room} {s : State} {m : MethodId} {args : Array Value} {below : List Frame} {meth : Method} {c : Code} {Q : State → Prop} {D : va_G} {cI cJ cZ : ClassId} {ad : Nat → Nat} {A : Nat → Prop} (C : Cx p s m args c cX5_isBetter 3 wsX5_isBetter RX5 D vwCl (tyl cI cJ cZ) (wM cI cJ cZ ad) A R 0 0) {r : (Int32 × SH)} (hR : Rz p l e R s m args below meth c cX5_isBetter D vwCl (wM cI cJ cZ ad) A Q r) (a1 : Int32) (a2 : Int32) (a3 : Int32) (z0 : SH) {H : Heap} {locs : List Loc} {ls : Array Slot} (h : fX5_isBetter a1 a2 a3 z0 = some r) (hP : va_P D vwCl (wM cI cJ cZ ad z0) H) (hS : va_S A s.heap H locs) (hl : lv_has ls 3 [(0, .int a1), (1, .int a2), (2, .int a3)]) : W p l e R s m args below meth c H locs 0 0 Q (F0 m 0 ls []) := by
  unfold fX5_isBetter at h
  have hx := C.1.1
  have hb := C.1.2.1
  refine lv_iload_n hx hb dX5_isBetter_0 rfl (lv_at hl 0 rfl) ?_
  refine lv_if_ne (tgt := 17) hx hb dX5_isBetter_1 (by decide) (fun c1 => ?_) (fun c1 => ?_)
  · replace h := (ite_h h).2 c1
    refine lv_iload_n hx hb dX5_isBetter_17 rfl (lv_at hl 1 rfl) ?_
    refine lv_iload_n hx hb dX5_isBetter_18 rfl (lv_at hl 2 rfl) ?_
    refine lv_icmp_ge (tgt := 26) hx hb dX5_isBetter_19 (by decide) (fun c1 => ?_) (fun c1 => ?_)
    · replace h := (ite_h h).1 c1
      refine lv_iconst (v := 0) hx hb dX5_isBetter_26 (by decide) ?_
      exact wX5_isBetter_27 C hR 0 z0 h hP hS (lv_sub hl [] rfl)
    · replace h := (ite_h h).2 c1
      refine lv_iconst (v := 1) hx hb dX5_isBetter_22 (by decide) ?_
      refine lv_goto (tgt := 27) hx hb dX5_isBetter_23 (by decide) ?_
      exact wX5_isBetter_27 C hR 1 z0 h hP hS (lv_sub hl [] rfl)
  · replace h := (ite_h h).1 c1
    refine lv_iload_n hx hb dX5_isBetter_4 rfl (lv_at hl 1 rfl) ?_
    refine lv_iload_n hx hb dX5_isBetter_5 rfl (lv_at hl 2 rfl) ?_
    refine lv_icmp_le (tgt := 13) hx hb dX5_isBetter_6 (by decide) (fun c1 => ?_) (fun c1 => ?_)
    · replace h := (ite_h h).1 c1
      refine lv_iconst (v := 0) hx hb dX5_isBetter_13 (by decide) ?_
      refine lv_goto (tgt := 27) hx hb dX5_isBetter_14 (by decide) ?_
      exact wX5_isBetter_27 C hR 0 z0 h hP hS (lv_sub hl [] rfl)
    · replace h := (ite_h h).2 c1
      refine lv_iconst (v := 1) hx hb dX5_isBetter_9 (by decide) ?_
      refine lv_goto (tgt := 27) hx hb dX5_isBetter_10 (by decide) ?_
      exact wX5_isBetter_27 C hR 1 z0 h hP hS (lv_sub hl [] rfl)
theorem mX5_isBetter (l : Launch) (D : va_G) (cI cJ cZ : ClassId) (ad : Nat → Nat) (a1 : Int32) (a2 : Int32) (a3 : Int32) (z0 : SH) : ∀ (q : (Int32 × SH)) (sz : Nat), fX5_isBetter a1 a2 a3 z0 = some q → Met l yX5_isBetter wsX5_isBetter rmX5_isBetter (cP D vwCl (tyl cI cJ cZ) (wM cI cJ cZ ad z0) sz [.int a1, .int a2, .int a3]) (cQi D vwCl (wM cI cJ cZ ad) z0 sz q) 0 0 (va_A (wM cI cJ cZ ad z0) sz) := by
  intro q sz h
  refine ofW_z (cc := cX5_isBetter) (maxL := 3) (by decide) rfl (wM_same cI cJ cZ ad) (Nat.le_of_ble_eq_true rfl) (fun p e s m below meth c ls hsz C hR hP hl => ?_)
  exact wX5_isBetter C hR a1 a2 a3 z0 h hP va_S.rf hl
abbrev rmX5_first : Room := { frames := 1, cells := 0, slots := 0, locals := 23 }
theorem fX5_first_i116 : Cond.fieldLink RX5 116 (TX5 9).1 (TX5 9).2.1 (TX5 9).2.2.1 ∈ wsX5_first := by decide +kernel
theorem fX5_first_i45 : Cond.fieldLink RX5 45 (TX5 14).1 (TX5 14).2.1 (TX5 14).2.2.1 ∈ wsX5_first := by decide +kernel
theorem fX5_first_i66 : Cond.fieldLink RX5 66 (TX5 21).1 (TX5 21).2.1 (TX5 21).2.2.1 ∈ wsX5_first := by decide +kernel
theorem iX5_first_X5 : ∀ x ∈ wsX50, x ∈ wsX5_first := by decide +kernel
set_option maxRecDepth 100000 in
set_option maxHeartbeats 4000000 in
theorem wX5_first_85 {p : Program} {l : Launch} {e : Env} {R : Room} {s : State} {m : MethodId} {args : Array Value} {below : List Frame} {meth : Method} {c : Code} {Q : State → Prop} {D : va_G} {cI cJ cZ : ClassId} {ad : Nat → Nat} {A : Nat → Prop} (C : Cx p s m args c cX5_first 5 wsX5_first RX5 D vwCl (tyl cI cJ cZ) (wM cI cJ cZ ad) A R 1 23) {r : (Int32 × SH)} (hR : Ri p l e R s m args below meth c cX5_first D vwCl (wM cI cJ cZ ad) A Q r) (N : Nat) (k5 : Int32 → Int32 → Int32 → Int32 → SH → Option (Int32 × SH)) (K5 : ∀ (x1 : Int32) (x2 : Int32) (x3 : Int32) (x4 : Int32) (z : SH) (H : Heap) (locs : List Loc) (ls : Array Slot), k5 x1 x2 x3 x4 z = some r → va_P D vwCl (wM cI cJ cZ ad z) H → va_S A s.heap H locs → lv_has ls 5 [(0, .ref (ad 0)), (1, .int x1), (2, .int x2), (3, .int x3), (4, .int x4)] → W p l e R s m args below meth c H locs 0 0 Q (F0 m 5 ls [])) (x1 : Int32) (x2 : Int32) (x3 : Int32) (x4 : Int32) (z0 : SH) {H : Heap} {locs : List Loc} {ls : Array Slot} (h : fX5_first_85 N k5 x1 x2 x3 x4 z0 = some r) (hP : va_P D vwCl (wM cI cJ cZ ad z0) H) (hS : va_S A s.heap H locs) (hl : lv_has ls 5 [(0, .ref (ad 0)), (1, .int x1), (2, .int x2), (3, .int x3), (4, .int x4)]) : W p l e R s m args below meth c H locs 0 0 Q (F0 m 85 ls []) := by
  unfold fX5_first_85 at h
  have hx := C.1.1
  have hb := C.1.2.1
  refine lv_iinc (v := x4 + 1) (lv' := [(4, .int (x4 + 1)), (0, .ref (ad 0)), (1, .int x1), (2, .int x2), (3, .int x3)]) hx hb dX5_first_85 hl (k := 4) rfl rfl (by decide) rfl (fun ls hl => ?_)
  refine lv_goto (tgt := 5) hx hb dX5_first_88 (by decide) ?_
  exact K5 x1 x2 x3 (x4 + 1) z0 _ _ _ h hP hS (lv_sub hl [1, 2, 3, 4, 0] rfl)
set_option maxRecDepth 100000 in
set_option maxHeartbeats 4000000 in
theorem wX5_first_82 {p : Program} {l : Launch} {e : Env} {R : Room} {s : State} {m : MethodId} {args : Array Value} {below : List Frame} {meth : Method} {c : Code} {Q : State → Prop} {D : va_G} {cI cJ cZ : ClassId} {ad : Nat → Nat} {A : Nat → Prop} (C : Cx p s m args c cX5_first 5 wsX5_first RX5 D vwCl (tyl cI cJ cZ) (wM cI cJ cZ ad) A R 1 23) {r : (Int32 × SH)} (hR : Ri p l e R s m args below meth c cX5_first D vwCl (wM cI cJ cZ ad) A Q r) (N : Nat) (k5 : Int32 → Int32 → Int32 → Int32 → SH → Option (Int32 × SH)) (K5 : ∀ (x1 : Int32) (x2 : Int32) (x3 : Int32) (x4 : Int32) (z : SH) (H : Heap) (locs : List Loc) (ls : Array Slot), k5 x1 x2 x3 x4 z = some r → va_P D vwCl (wM cI cJ cZ ad z) H → va_S A s.heap H locs → lv_has ls 5 [(0, .ref (ad 0)), (1, .int x1), (2, .int x2), (3, .int x3), (4, .int x4)] → W p l e R s m args below meth c H locs 0 0 Q (F0 m 5 ls [])) (x1 : Int32) (x2 : Int32) (x4 : Int32) (z0 : SH) {H : Heap} {locs : List Loc} {ls : Array Slot} (h : fX5_first_82 N k5 x1 x2 x4 z0 = some r) (hP : va_P D vwCl (wM cI cJ cZ ad z0) H) (hS : va_S A s.heap H locs) (hl : lv_has ls 5 [(0, .ref (ad 0)), (1, .int x1), (2, .int x2), (4, .int x4)]) : W p l e R s m args below meth c H locs 0 0 Q (F0 m 82 ls []) := by
  unfold fX5_first_82 at h
  have hx := C.1.1
  have hb := C.1.2.1
  refine lv_iload hx hb dX5_first_82 (lv_at hl 3 rfl) ?_
  refine lv_istore_n (lv' := [(3, .int x4), (0, .ref (ad 0)), (1, .int x1), (2, .int x2), (4, .int x4)]) hx hb dX5_first_84 rfl hl (by decide) rfl (fun ls hl => ?_)
  exact wX5_first_85 C hR N k5 K5 x1 x2 x4 x4 z0 h hP hS (lv_sub hl [1, 2, 3, 0, 4] rfl)
set_option maxRecDepth 100000 in
set_option maxHeartbeats 4000000 in
theorem wX5_first_5 {p : Program} {l : Launch} {e : Env} {R : Room} {s : State} {m : MethodId} {args : Array Value} {below : List Frame} {meth : Method} {c : Code} {Q : State → Prop} {D : va_G} {cI cJ cZ : ClassId} {ad : Nat → Nat} {A : Nat → Prop} (C : Cx p s m args c cX5_first 5 wsX5_first RX5 D vwCl (tyl cI cJ cZ) (wM cI cJ cZ ad) A R 1 23) {r : (Int32 × SH)} (hR : Ri p l e R s m args below meth c cX5_first D vwCl (wM cI cJ cZ ad) A Q r) (N : Nat) (k5 : Int32 → Int32 → Int32 → Int32 → SH → Option (Int32 × SH)) (K5 : ∀ (x1 : Int32) (x2 : Int32) (x3 : Int32) (x4 : Int32) (z : SH) (H : Heap) (locs : List Loc) (ls : Array Slot), k5 x1 x2 x3 x4 z = some r → va_P D vwCl (wM cI cJ cZ ad z) H → va_S A s.heap H locs → lv_has ls 5 [(0, .ref (ad 0)), (1, .int x1), (2, .int x2), (3, .int x3), (4, .int x4)] → W p l e R s m args below meth c H locs 0 0 Q (F0 m 5 ls [])) (x1 : Int32) (x2 : Int32) (x3 : Int32) (x4 : Int32) (z0 : SH) {H : Heap} {locs : List Loc} {ls : Array Slot} (h : fX5_first_5 N k5 x1 x2 x3 x4 z0 = some r) (hP : va_P D vwCl (wM cI cJ cZ ad z0) H) (hS : va_S A s.heap H locs) (hl : lv_has ls 5 [(0, .ref (ad 0)), (1, .int x1), (2, .int x2), (3, .int x3), (4, .int x4)]) : W p l e R s m args below meth c H locs 0 0 Q (F0 m 5 ls []) := by
  unfold fX5_first_5 at h
  have hx := C.1.1
  have hb := C.1.2.1
  refine lv_iload hx hb dX5_first_5 (lv_at hl 4 rfl) ?_
  refine lv_aload_n hx hb dX5_first_7 rfl (lv_at hl 0 rfl) ?_
  refine b_geti C hP h iX5_first_X5 0 (wM_0 cI cJ cZ ad z0) rfl 9 (by decide) fX5_first_i116 rfl rfl dX5_first_8 (fun v1 h => ?_)
  refine lv_icmp_ge (tgt := 91) hx hb dX5_first_11 (by decide) (fun c1 => ?_) (fun c1 => ?_)
  · replace h := (ite_h h).1 c1
    refine lv_iload_n hx hb dX5_first_91 rfl (lv_at hl 3 rfl) ?_
    exact hR 92 _ _ _ _ _ (Option.some.inj h).symm dX5_first_92 hP hS
  · replace h := (ite_h h).2 c1
    refine lv_aload_n hx hb dX5_first_14 rfl (lv_at hl 0 rfl) ?_
    refine lv_iload hx hb dX5_first_15 (lv_at hl 4 rfl) ?_
    refine lv_iload_n hx hb dX5_first_17 rfl (lv_at hl 1 rfl) ?_
    refine lv_iload_n hx hb dX5_first_18 rfl (lv_at hl 2 rfl) ?_
    refine b_callVi (As := [.int x4, .int x1, .int x2]) (rest := []) C hP hS h (mX5_rests l D cI cJ cZ ad x4 x1 x2 z0) (cwV 3 C.1.2.2.2.2 gX5_first_X5_rests rfl rfl rfl (by decide +kernel) ⟨Nat.le_trans (Nat.le_of_ble_eq_true rfl) C.2.2.2.2.1, Nat.le_trans (Nat.le_of_ble_eq_true rfl) C.2.2.2.2.2⟩) (va_recv C.2.1 hP (ci := 5) (q0 := 0) rfl (wM_0 cI cJ cZ ad z0)) rfl hl.1 rfl (Nat.le_of_ble_eq_true rfl) dX5_first_19 (fun v3 z2 _ _ h hP hS => ?_)
    refine lv_if_eq (tgt := 85) hx hb dX5_first_22 (by decide) (fun c1 => ?_) (fun c1 => ?_)
    · replace h := (ite_h h).1 c1
      exact wX5_first_85 C hR N k5 K5 x1 x2 x3 x4 z2 h hP hS (lv_sub hl [0, 1, 2, 3, 4] rfl)
    · replace h := (ite_h h).2 c1
      refine lv_iload_n hx hb dX5_first_25 rfl (lv_at hl 3 rfl) ?_
      refine lv_iconst (v := -1) hx hb dX5_first_26 (by decide) ?_
      refine lv_icmp_eq (tgt := 82) hx hb dX5_first_27 (by decide) (fun c1 => ?_) (fun c1 => ?_)
      · replace h := (ite_h h).1 c1
        exact wX5_first_82 C hR N k5 K5 x1 x2 x4 z2 h hP hS (lv_sub hl [0, 1, 2, 4] rfl)
      · replace h := (ite_h h).2 c1
        refine lv_iload_n hx hb dX5_first_30 rfl (lv_at hl 2 rfl) ?_
        refine lv_aload_n hx hb dX5_first_31 rfl (lv_at hl 0 rfl) ?_
        refine b_getr C hP iX5_first_X5 0 (wM_0 cI cJ cZ ad z2) rfl 14 (by decide) fX5_first_i45 rfl rfl dX5_first_32 ?_
        refine lv_iload hx hb dX5_first_35 (lv_at hl 4 rfl) ?_
        refine b_iald C hP h 12 (wM_12 cI cJ cZ ad z2) 0 rfl dX5_first_37 (fun v4 h => ?_)
        refine lv_aload_n hx hb dX5_first_38 rfl (lv_at hl 0 rfl) ?_
        refine b_getr C hP iX5_first_X5 0 (wM_0 cI cJ cZ ad z2) rfl 14 (by decide) fX5_first_i45 rfl rfl dX5_first_39 ?_
        refine lv_iload_n hx hb dX5_first_42 rfl (lv_at hl 3 rfl) ?_
        refine b_iald C hP h 12 (wM_12 cI cJ cZ ad z2) 0 rfl dX5_first_43 (fun v5 h => ?_)
        refine b_callSi (As := [.int x2, .int v4, .int v5]) (rest := []) C hP hS h (mX5_isBetter l D cI cJ cZ ad x2 v4 v5 z2) (va_cwS 3 C.1.2.2.2.2 gX5_first_X5_isBetter rfl rfl rfl (by decide +kernel) ⟨Nat.le_trans (Nat.le_of_ble_eq_true rfl) C.2.2.2.2.1, Nat.le_trans (Nat.le_of_ble_eq_true rfl) C.2.2.2.2.2⟩) rfl hl.1 rfl (Nat.le_of_ble_eq_true rfl) dX5_first_44 (fun v7 z6 _ _ h hP hS => ?_)
        refine lv_if_ne (tgt := 82) hx hb dX5_first_47 (by decide) (fun c1 => ?_) (fun c1 => ?_)
        · replace h := (ite_h h).2 c1
          exact wX5_first_82 C hR N k5 K5 x1 x2 x4 z6 h hP hS (lv_sub hl [0, 1, 2, 4] rfl)
        · replace h := (ite_h h).1 c1
          refine lv_aload_n hx hb dX5_first_50 rfl (lv_at hl 0 rfl) ?_
          refine b_getr C hP iX5_first_X5 0 (wM_0 cI cJ cZ ad z6) rfl 14 (by decide) fX5_first_i45 rfl rfl dX5_first_51 ?_
          refine lv_iload hx hb dX5_first_54 (lv_at hl 4 rfl) ?_
          refine b_iald C hP h 12 (wM_12 cI cJ cZ ad z6) 0 rfl dX5_first_56 (fun v8 h => ?_)
          refine lv_aload_n hx hb dX5_first_57 rfl (lv_at hl 0 rfl) ?_
          refine b_getr C hP iX5_first_X5 0 (wM_0 cI cJ cZ ad z6) rfl 14 (by decide) fX5_first_i45 rfl rfl dX5_first_58 ?_
          refine lv_iload_n hx hb dX5_first_61 rfl (lv_at hl 3 rfl) ?_
          refine b_iald C hP h 12 (wM_12 cI cJ cZ ad z6) 0 rfl dX5_first_62 (fun v9 h => ?_)
          refine lv_icmp_ne (tgt := 85) hx hb dX5_first_63 (by decide) (fun c1 => ?_) (fun c1 => ?_)
          · replace h := (ite_h h).2 c1
            exact wX5_first_85 C hR N k5 K5 x1 x2 x3 x4 z6 h hP hS (lv_sub hl [0, 1, 2, 3, 4] rfl)
          · replace h := (ite_h h).1 c1
            refine lv_aload_n hx hb dX5_first_66 rfl (lv_at hl 0 rfl) ?_
            refine b_getr C hP iX5_first_X5 0 (wM_0 cI cJ cZ ad z6) rfl 21 (by decide) fX5_first_i66 rfl rfl dX5_first_67 ?_
            refine lv_iload hx hb dX5_first_70 (lv_at hl 4 rfl) ?_
            refine b_iald C hP h 19 (wM_19 cI cJ cZ ad z6) 0 rfl dX5_first_72 (fun v10 h => ?_)
            refine lv_aload_n hx hb dX5_first_73 rfl (lv_at hl 0 rfl) ?_
            refine b_getr C hP iX5_first_X5 0 (wM_0 cI cJ cZ ad z6) rfl 21 (by decide) fX5_first_i66 rfl rfl dX5_first_74 ?_
            refine lv_iload_n hx hb dX5_first_77 rfl (lv_at hl 3 rfl) ?_
            refine b_iald C hP h 19 (wM_19 cI cJ cZ ad z6) 0 rfl dX5_first_78 (fun v11 h => ?_)
            refine lv_icmp_ge (tgt := 85) hx hb dX5_first_79 (by decide) (fun c1 => ?_) (fun c1 => ?_)
            · replace h := (ite_h h).1 c1
              exact wX5_first_85 C hR N k5 K5 x1 x2 x3 x4 z6 h hP hS (lv_sub hl [0, 1, 2, 3, 4] rfl)
            · replace h := (ite_h h).2 c1
              exact wX5_first_82 C hR N k5 K5 x1 x2 x4 z6 h hP hS (lv_sub hl [0, 1, 2, 4] rfl)
theorem wX5_first_5_L {p : Program} {l : Launch} {e : Env} {R : Room} {s : State} {m : MethodId} {args : Array Value} {below : List Frame} {meth : Method} {c : Code} {Q : State → Prop} {D : va_G} {cI cJ cZ : ClassId} {ad : Nat → Nat} {A : Nat → Prop} (C : Cx p s m args c cX5_first 5 wsX5_first RX5 D vwCl (tyl cI cJ cZ) (wM cI cJ cZ ad) A R 1 23) {r : (Int32 × SH)} (hR : Ri p l e R s m args below meth c cX5_first D vwCl (wM cI cJ cZ ad) A Q r) (N : Nat) : ∀ (n : Nat), ∀ (x1 : Int32) (x2 : Int32) (x3 : Int32) (x4 : Int32) (z : SH) (H : Heap) (locs : List Loc) (ls : Array Slot), fX5_first_5_L N n x1 x2 x3 x4 z = some r → va_P D vwCl (wM cI cJ cZ ad z) H → va_S A s.heap H locs → lv_has ls 5 [(0, .ref (ad 0)), (1, .int x1), (2, .int x2), (3, .int x3), (4, .int x4)] → W p l e R s m args below meth c H locs 0 0 Q (F0 m 5 ls []) := by
  intro n
  induction n with
  | zero => intro x1 x2 x3 x4 z H locs ls h; exact nomatch (show (none : Option (Int32 × SH)) = some r from h)
  | succ n ih => intro x1 x2 x3 x4 z H locs ls h hP hS hl; exact wX5_first_5 C hR N (fX5_first_5_L N n) ih x1 x2 x3 x4 z (show fX5_first_5 N (fX5_first_5_L N n) x1 x2 x3 x4 z = some r from h) hP hS hl
set_option maxRecDepth 100000 in
set_option maxHeartbeats 4000000 in
theorem wX5_first {p : Program} {l : Launch} {e : Env} {R : Room} {s : State} {m : MethodId} {args : Array Value} {below : List Frame} {meth : Method} {c : Code} {Q : State → Prop} {D : va_G} {cI cJ cZ : ClassId} {ad : Nat → Nat} {A : Nat → Prop} (C : Cx p s m args c cX5_first 5 wsX5_first RX5 D vwCl (tyl cI cJ cZ) (wM cI cJ cZ ad) A R 1 23) {r : (Int32 × SH)} (hR : Ri p l e R s m args below meth c cX5_first D vwCl (wM cI cJ cZ ad) A Q r) (N : Nat) (a1 : Int32) (a2 : Int32) (z0 : SH) {H : Heap} {locs : List Loc} {ls : Array Slot} (h : fX5_first N a1 a2 z0 = some r) (hP : va_P D vwCl (wM cI cJ cZ ad z0) H) (hS : va_S A s.heap H locs) (hl : lv_has ls 5 [(0, .ref (ad 0)), (1, .int a1), (2, .int a2)]) : W p l e R s m args below meth c H locs 0 0 Q (F0 m 0 ls []) := by
  unfold fX5_first at h
  have hx := C.1.1
  have hb := C.1.2.1
  refine lv_iconst (v := -1) hx hb dX5_first_0 (by decide) ?_
  refine lv_istore_n (lv' := [(3, .int ((-1))), (0, .ref (ad 0)), (1, .int a1), (2, .int a2)]) hx hb dX5_first_1 rfl hl (by decide) rfl (fun ls hl => ?_)
  refine lv_iconst (v := 0) hx hb dX5_first_2 (by decide) ?_
  refine lv_istore (lv' := [(4, .int 0), (3, .int ((-1))), (0, .ref (ad 0)), (1, .int a1), (2, .int a2)]) hx hb dX5_first_3 hl (by decide) rfl (fun ls hl => ?_)
  exact wX5_first_5_L C hR N N a1 a2 ((-1)) 0 z0 _ _ _ h hP hS (lv_sub hl [2, 3, 4, 1, 0] rfl)
theorem mX5_first (l : Launch) (D : va_G) (cI cJ cZ : ClassId) (ad : Nat → Nat) (N : Nat) (a1 : Int32) (a2 : Int32) (z0 : SH) : ∀ (q : (Int32 × SH)) (sz : Nat), fX5_first N a1 a2 z0 = some q → Met l yX5_first wsX5_first rmX5_first (cP D vwCl (tyl cI cJ cZ) (wM cI cJ cZ ad z0) sz [.ref (ad 0), .int a1, .int a2]) (cQi D vwCl (wM cI cJ cZ ad) z0 sz q) 0 0 (va_A (wM cI cJ cZ ad z0) sz) := by
  intro q sz h
  refine ofW_i (cc := cX5_first) (maxL := 5) (by decide) rfl (wM_same cI cJ cZ ad) (Nat.le_of_ble_eq_true rfl) (fun p e s m below meth c ls hsz C hR hP hl => ?_)
  exact wX5_first C hR N a1 a2 z0 h hP va_S.rf hl
abbrev rmX5_allows : Room := { frames := 0, cells := 0, slots := 0, locals := 0 }
theorem fX5_allows_i39 : Cond.fieldLink RX5 39 (TX5 12).1 (TX5 12).2.1 (TX5 12).2.2.1 ∈ wsX5_allows := by decide +kernel
theorem fX5_allows_i45 : Cond.fieldLink RX5 45 (TX5 14).1 (TX5 14).2.1 (TX5 14).2.2.1 ∈ wsX5_allows := by decide +kernel
theorem iX5_allows_X5 : ∀ x ∈ wsX50, x ∈ wsX5_allows := by decide +kernel
set_option maxRecDepth 100000 in
set_option maxHeartbeats 4000000 in
theorem wX5_allows_52 {p : Program} {l : Launch} {e : Env} {R : Room} {s : State} {m : MethodId} {args : Array Value} {below : List Frame} {meth : Method} {c : Code} {Q : State → Prop} {D : va_G} {cI cJ cZ : ClassId} {ad : Nat → Nat} {A : Nat → Prop} (C : Cx p s m args c cX5_allows 3 wsX5_allows RX5 D vwCl (tyl cI cJ cZ) (wM cI cJ cZ ad) A R 0 0) {r : (Int32 × SH)} (hR : Rz p l e R s m args below meth c cX5_allows D vwCl (wM cI cJ cZ ad) A Q r) (t0 : Int32) (z0 : SH) {H : Heap} {locs : List Loc} {ls : Array Slot} (h : fX5_allows_52 t0 z0 = some r) (hP : va_P D vwCl (wM cI cJ cZ ad z0) H) (hS : va_S A s.heap H locs) (hl : lv_has ls 3 []) : W p l e R s m args below meth c H locs 0 0 Q (F0 m 52 ls [.int t0]) := by
  unfold fX5_allows_52 at h
  have hx := C.1.1
  have hb := C.1.2.1
  exact hR 52 _ _ _ _ _ h dX5_allows_52 hP hS
set_option maxRecDepth 100000 in
set_option maxHeartbeats 4000000 in
theorem wX5_allows {p : Program} {l : Launch} {e : Env} {R : Room} {s : State} {m : MethodId} {args : Array Value} {below : List Frame} {meth : Method} {c : Code} {Q : State → Prop} {D : va_G} {cI cJ cZ : ClassId} {ad : Nat → Nat} {A : Nat → Prop} (C : Cx p s m args c cX5_allows 3 wsX5_allows RX5 D vwCl (tyl cI cJ cZ) (wM cI cJ cZ ad) A R 0 0) {r : (Int32 × SH)} (hR : Rz p l e R s m args below meth c cX5_allows D vwCl (wM cI cJ cZ ad) A Q r) (a1 : Int32) (a2 : Int32) (z0 : SH) {H : Heap} {locs : List Loc} {ls : Array Slot} (h : fX5_allows a1 a2 z0 = some r) (hP : va_P D vwCl (wM cI cJ cZ ad z0) H) (hS : va_S A s.heap H locs) (hl : lv_has ls 3 [(0, .ref (ad 0)), (1, .int a1), (2, .int a2)]) : W p l e R s m args below meth c H locs 0 0 Q (F0 m 0 ls []) := by
  unfold fX5_allows at h
  have hx := C.1.1
  have hb := C.1.2.1
  refine lv_aload_n hx hb dX5_allows_0 rfl (lv_at hl 0 rfl) ?_
  refine b_getr C hP iX5_allows_X5 0 (wM_0 cI cJ cZ ad z0) rfl 12 (by decide) fX5_allows_i39 rfl rfl dX5_allows_1 ?_
  refine lv_iload_n hx hb dX5_allows_4 rfl (lv_at hl 1 rfl) ?_
  refine b_iald C hP h 10 (wM_10 cI cJ cZ ad z0) 0 rfl dX5_allows_5 (fun v1 h => ?_)
  refine lv_if_ne (tgt := 32) hx hb dX5_allows_6 (by decide) (fun c1 => ?_) (fun c1 => ?_)
  · replace h := (ite_h h).2 c1
    refine lv_aload_n hx hb dX5_allows_32 rfl (lv_at hl 0 rfl) ?_
    refine b_getr C hP iX5_allows_X5 0 (wM_0 cI cJ cZ ad z0) rfl 14 (by decide) fX5_allows_i45 rfl rfl dX5_allows_33 ?_
    refine lv_iload_n hx hb dX5_allows_36 rfl (lv_at hl 2 rfl) ?_
    refine b_iald C hP h 12 (wM_12 cI cJ cZ ad z0) 0 rfl dX5_allows_37 (fun v2 h => ?_)
    refine lv_aload_n hx hb dX5_allows_38 rfl (lv_at hl 0 rfl) ?_
    refine b_getr C hP iX5_allows_X5 0 (wM_0 cI cJ cZ ad z0) rfl 14 (by decide) fX5_allows_i45 rfl rfl dX5_allows_39 ?_
    refine lv_iload_n hx hb dX5_allows_42 rfl (lv_at hl 1 rfl) ?_
    refine b_iald C hP h 12 (wM_12 cI cJ cZ ad z0) 0 rfl dX5_allows_43 (fun v3 h => ?_)
    refine lv_icmp_lt (tgt := 51) hx hb dX5_allows_44 (by decide) (fun c1 => ?_) (fun c1 => ?_)
    · replace h := (ite_h h).1 c1
      refine lv_iconst (v := 0) hx hb dX5_allows_51 (by decide) ?_
      exact wX5_allows_52 C hR 0 z0 h hP hS (lv_sub hl [] rfl)
    · replace h := (ite_h h).2 c1
      refine lv_iconst (v := 1) hx hb dX5_allows_47 (by decide) ?_
      refine lv_goto (tgt := 52) hx hb dX5_allows_48 (by decide) ?_
      exact wX5_allows_52 C hR 1 z0 h hP hS (lv_sub hl [] rfl)
  · replace h := (ite_h h).1 c1
    refine lv_aload_n hx hb dX5_allows_9 rfl (lv_at hl 0 rfl) ?_
    refine b_getr C hP iX5_allows_X5 0 (wM_0 cI cJ cZ ad z0) rfl 14 (by decide) fX5_allows_i45 rfl rfl dX5_allows_10 ?_
    refine lv_iload_n hx hb dX5_allows_13 rfl (lv_at hl 2 rfl) ?_
    refine b_iald C hP h 12 (wM_12 cI cJ cZ ad z0) 0 rfl dX5_allows_14 (fun v4 h => ?_)
    refine lv_aload_n hx hb dX5_allows_15 rfl (lv_at hl 0 rfl) ?_
    refine b_getr C hP iX5_allows_X5 0 (wM_0 cI cJ cZ ad z0) rfl 14 (by decide) fX5_allows_i45 rfl rfl dX5_allows_16 ?_
    refine lv_iload_n hx hb dX5_allows_19 rfl (lv_at hl 1 rfl) ?_
    refine b_iald C hP h 12 (wM_12 cI cJ cZ ad z0) 0 rfl dX5_allows_20 (fun v5 h => ?_)
    refine lv_icmp_gt (tgt := 28) hx hb dX5_allows_21 (by decide) (fun c1 => ?_) (fun c1 => ?_)
    · replace h := (ite_h h).1 c1
      refine lv_iconst (v := 0) hx hb dX5_allows_28 (by decide) ?_
      refine lv_goto (tgt := 52) hx hb dX5_allows_29 (by decide) ?_
      exact wX5_allows_52 C hR 0 z0 h hP hS (lv_sub hl [] rfl)
    · replace h := (ite_h h).2 c1
      refine lv_iconst (v := 1) hx hb dX5_allows_24 (by decide) ?_
      refine lv_goto (tgt := 52) hx hb dX5_allows_25 (by decide) ?_
      exact wX5_allows_52 C hR 1 z0 h hP hS (lv_sub hl [] rfl)
theorem mX5_allows (l : Launch) (D : va_G) (cI cJ cZ : ClassId) (ad : Nat → Nat) (a1 : Int32) (a2 : Int32) (z0 : SH) : ∀ (q : (Int32 × SH)) (sz : Nat), fX5_allows a1 a2 z0 = some q → Met l yX5_allows wsX5_allows rmX5_allows (cP D vwCl (tyl cI cJ cZ) (wM cI cJ cZ ad z0) sz [.ref (ad 0), .int a1, .int a2]) (cQi D vwCl (wM cI cJ cZ ad) z0 sz q) 0 0 (va_A (wM cI cJ cZ ad z0) sz) := by
  intro q sz h
  refine ofW_z (cc := cX5_allows) (maxL := 3) (by decide) rfl (wM_same cI cJ cZ ad) (Nat.le_of_ble_eq_true rfl) (fun p e s m below meth c ls hsz C hR hP hl => ?_)
  exact wX5_allows C hR a1 a2 z0 h hP va_S.rf hl
abbrev rmX5_free : Room := { frames := 1, cells := 0, slots := 0, locals := 21 }
theorem fX5_free_i13 : Cond.fieldLink RX5 13 (TX5 3).1 (TX5 3).2.1 (TX5 3).2.2.1 ∈ wsX5_free := by decide +kernel
theorem fX5_free_i20 : Cond.fieldLink RX5 20 (TX5 5).1 (TX5 5).2.1 (TX5 5).2.2.1 ∈ wsX5_free := by decide +kernel
theorem fX5_free_i33 : Cond.fieldLink RX5 33 (TX5 10).1 (TX5 10).2.1 (TX5 10).2.2.1 ∈ wsX5_free := by decide +kernel
theorem fX5_free_i36 : Cond.fieldLink RX5 36 (TX5 11).1 (TX5 11).2.1 (TX5 11).2.2.1 ∈ wsX5_free := by decide +kernel
theorem fX5_free_i39 : Cond.fieldLink RX5 39 (TX5 12).1 (TX5 12).2.1 (TX5 12).2.2.1 ∈ wsX5_free := by decide +kernel
theorem fX5_free_i45 : Cond.fieldLink RX5 45 (TX5 14).1 (TX5 14).2.1 (TX5 14).2.2.1 ∈ wsX5_free := by decide +kernel
theorem iX5_free_X5 : ∀ x ∈ wsX50, x ∈ wsX5_free := by decide +kernel
set_option maxRecDepth 100000 in
set_option maxHeartbeats 4000000 in
theorem wX5_free_57 {p : Program} {l : Launch} {e : Env} {R : Room} {s : State} {m : MethodId} {args : Array Value} {below : List Frame} {meth : Method} {c : Code} {Q : State → Prop} {D : va_G} {cI cJ cZ : ClassId} {ad : Nat → Nat} {A : Nat → Prop} (C : Cx p s m args c cX5_free 4 wsX5_free RX5 D vwCl (tyl cI cJ cZ) (wM cI cJ cZ ad) A R 1 21) {r : (Unit × SH)} (hR : Rv p l e R s m args below meth c cX5_free D vwCl (wM cI cJ cZ ad) A Q r) (z0 : SH) {H : Heap} {locs : List Loc} {ls : Array Slot} (h : fX5_free_57 z0 = some r) (hP : va_P D vwCl (wM cI cJ cZ ad z0) H) (hS : va_S A s.heap H locs) (hl : lv_has ls 4 []) : W p l e R s m args below meth c H locs 0 0 Q (F0 m 57 ls []) := by
  unfold fX5_free_57 at h
  have hx := C.1.1
  have hb := C.1.2.1
  exact hR 57 _ _ _ _ (Option.some.inj h).symm dX5_free_57 hP hS
set_option maxRecDepth 100000 in
set_option maxHeartbeats 4000000 in
theorem wX5_free {p : Program} {l : Launch} {e : Env} {R : Room} {s : State} {m : MethodId} {args : Array Value} {below : List Frame} {meth : Method} {c : Code} {Q : State → Prop} {D : va_G} {cI cJ cZ : ClassId} {ad : Nat → Nat} {A : Nat → Prop} (C : Cx p s m args c cX5_free 4 wsX5_free RX5 D vwCl (tyl cI cJ cZ) (wM cI cJ cZ ad) A R 1 21) {r : (Unit × SH)} (hR : Rv p l e R s m args below meth c cX5_free D vwCl (wM cI cJ cZ ad) A Q r) (a1 : Int32) (a2 : Int32) (z0 : SH) {H : Heap} {locs : List Loc} {ls : Array Slot} (h : fX5_free a1 a2 z0 = some r) (hP : va_P D vwCl (wM cI cJ cZ ad z0) H) (hS : va_S A s.heap H locs) (hl : lv_has ls 4 [(0, .ref (ad 0)), (1, .int a1), (2, .int a2)]) : W p l e R s m args below meth c H locs 0 0 Q (F0 m 0 ls []) := by
  unfold fX5_free at h
  have hx := C.1.1
  have hb := C.1.2.1
  refine lv_aload_n hx hb dX5_free_0 rfl (lv_at hl 0 rfl) ?_
  refine b_getr C hP iX5_free_X5 0 (wM_0 cI cJ cZ ad z0) rfl 10 (by decide) fX5_free_i33 rfl rfl dX5_free_1 ?_
  refine lv_iload_n hx hb dX5_free_4 rfl (lv_at hl 1 rfl) ?_
  refine b_iald C hP h 8 (wM_8 cI cJ cZ ad z0) 0 rfl dX5_free_5 (fun v1 h => ?_)
  refine lv_istore_n (lv' := [(3, .int v1), (0, .ref (ad 0)), (1, .int a1), (2, .int a2)]) hx hb dX5_free_6 rfl hl (by decide) rfl (fun ls hl => ?_)
  refine lv_aload_n hx hb dX5_free_7 rfl (lv_at hl 1 rfl) ?_
  refine b_getr C hP iX5_free_X5 0 (wM_0 cI cJ cZ ad z0) rfl 12 (by decide) fX5_free_i39 rfl rfl dX5_free_8 ?_
  refine lv_iload_n hx hb dX5_free_11 rfl (lv_at hl 2 rfl) ?_
  refine b_iald C hP h 10 (wM_10 cI cJ cZ ad z0) 0 rfl dX5_free_12 (fun v2 h => ?_)
  refine lv_if_ne (tgt := 38) hx hb dX5_free_13 (by decide) (fun c1 => ?_) (fun c1 => ?_)
  · replace h := (ite_h h).2 c1
    refine lv_aload_n hx hb dX5_free_38 rfl (lv_at hl 1 rfl) ?_
    refine b_getr C hP iX5_free_X5 0 (wM_0 cI cJ cZ ad z0) rfl 5 (by decide) fX5_free_i20 rfl rfl dX5_free_39 ?_
    refine lv_iload_n hx hb dX5_free_42 rfl (lv_at hl 0 rfl) ?_
    refine lv_aload_n hx hb dX5_free_43 rfl (lv_at hl 1 rfl) ?_
    refine b_getr C hP iX5_free_X5 0 (wM_0 cI cJ cZ ad z0) rfl 11 (by decide) fX5_free_i36 rfl rfl dX5_free_44 ?_
    refine lv_iload_n hx hb dX5_free_47 rfl (lv_at hl 2 rfl) ?_
    refine b_iald C hP h 9 (wM_9 cI cJ cZ ad z0) 0 rfl dX5_free_48 (fun v3 h => ?_)
    refine b_callSi (As := [.int v1, .int v3]) (rest := [.ref (ad 4)]) C hP hS h (mX5_cell l D cI cJ cZ ad v1 v3 z0) (va_cwS 2 C.1.2.2.2.2 gX5_free_X5_cell rfl rfl rfl (by decide +kernel) ⟨Nat.le_trans (Nat.le_of_ble_eq_true rfl) C.2.2.2.2.1, Nat.le_trans (Nat.le_of_ble_eq_true rfl) C.2.2.2.2.2⟩) rfl hl.1 rfl (Nat.le_of_ble_eq_true rfl) dX5_free_49 (fun v5 z4 _ _ h hP hS => ?_)
    refine lv_dup2_11 hx hb dX5_free_52 rfl rfl ?_
    refine b_iald C hP h 4 (wM_4 cI cJ cZ ad z4) 0 rfl dX5_free_53 (fun v6 h => ?_)
    refine lv_iload_n hx hb dX5_free_54 rfl (lv_at hl 3 rfl) ?_
    refine lv_isub hx hb dX5_free_55 ?_
    refine b_iast C hP hS h 4 (wM_4 cI cJ cZ ad z4) 0 rfl (wM_s4 cI cJ cZ ad z4 _ _) dX5_free_56 (fun z7 _ _ h hP hS => ?_)
    exact wX5_free_57 C hR z7 h hP hS (lv_sub hl [] rfl)
  · replace h := (ite_h h).1 c1
    refine lv_aload_n hx hb dX5_free_16 rfl (lv_at hl 1 rfl) ?_
    refine b_getr C hP iX5_free_X5 0 (wM_0 cI cJ cZ ad z0) rfl 3 (by decide) fX5_free_i13 rfl rfl dX5_free_17 ?_
    refine lv_iload_n hx hb dX5_free_20 rfl (lv_at hl 0 rfl) ?_
    refine lv_dup2_11 hx hb dX5_free_21 rfl rfl ?_
    refine b_lald C hP h 2 (wM_2 cI cJ cZ ad z0) 1 rfl dX5_free_22 (fun v8 h => ?_)
    refine lv_aload_n hx hb dX5_free_23 rfl (lv_at hl 1 rfl) ?_
    refine b_getr C hP iX5_free_X5 0 (wM_0 cI cJ cZ ad z0) rfl 14 (by decide) fX5_free_i45 rfl rfl dX5_free_24 ?_
    refine lv_iload_n hx hb dX5_free_27 rfl (lv_at hl 2 rfl) ?_
    refine b_iald C hP h 12 (wM_12 cI cJ cZ ad z0) 0 rfl dX5_free_28 (fun v9 h => ?_)
    refine lv_i2l hx hb dX5_free_29 rfl ?_
    refine lv_iload_n hx hb dX5_free_30 rfl (lv_at hl 3 rfl) ?_
    refine lv_i2l hx hb dX5_free_31 rfl ?_
    refine lv_lmul hx hb dX5_free_32 ?_
    refine lv_lsub hx hb dX5_free_33 ?_
    refine b_last C hP hS h 2 (wM_2 cI cJ cZ ad z0) 1 rfl (wM_s2 cI cJ cZ ad z0 _ _) dX5_free_34 (fun z10 _ _ h hP hS => ?_)
    refine lv_goto (tgt := 57) hx hb dX5_free_35 (by decide) ?_
    exact wX5_free_57 C hR z10 h hP hS (lv_sub hl [] rfl)
theorem mX5_free (l : Launch) (D : va_G) (cI cJ cZ : ClassId) (ad : Nat → Nat) (a1 : Int32) (a2 : Int32) (z0 : SH) : ∀ (q : (Unit × SH)) (sz : Nat), fX5_free a1 a2 z0 = some q → Met l yX5_free wsX5_free rmX5_free (cP D vwCl (tyl cI cJ cZ) (wM cI cJ cZ ad z0) sz [.ref (ad 0), .int a1, .int a2]) (cQv D vwCl (wM cI cJ cZ ad) z0 sz q) 0 0 (va_A (wM cI cJ cZ ad z0) sz) := by
  intro q sz h
  refine ofW_v (cc := cX5_free) (maxL := 4) (by decide) rfl (wM_same cI cJ cZ ad) (Nat.le_of_ble_eq_true rfl) (fun p e s m below meth c ls hsz C hR hP hl => ?_)
  exact wX5_free C hR a1 a2 z0 h hP va_S.rf hl
abbrev rmX5_cancelled : Room := { frames := 2, cells := 0, slots := 0, locals := 44 }
theorem fX5_cancelled_i48 : Cond.fieldLink RX5 48 (TX5 15).1 (TX5 15).2.1 (TX5 15).2.2.1 ∈ wsX5_cancelled := by decide +kernel
theorem fX5_cancelled_i51 : Cond.fieldLink RX5 51 (TX5 16).1 (TX5 16).2.1 (TX5 16).2.2.1 ∈ wsX5_cancelled := by decide +kernel
theorem fX5_cancelled_i57 : Cond.fieldLink RX5 57 (TX5 18).1 (TX5 18).2.1 (TX5 18).2.2.1 ∈ wsX5_cancelled := by decide +kernel
theorem iX5_cancelled_X5 : ∀ x ∈ wsX50, x ∈ wsX5_cancelled := by decide +kernel
set_option maxRecDepth 100000 in
set_option maxHeartbeats 4000000 in
theorem wX5_cancelled {p : Program} {l : Launch} {e : Env} {R : Room} {s : State} {m : MethodId} {args : Array Value} {below : List Frame} {meth : Method} {c : Code} {Q : State → Prop} {D : va_G} {cI cJ cZ : ClassId} {ad : Nat → Nat} {A : Nat → Prop} (C : Cx p s m args c cX5_cancelled 2 wsX5_cancelled RX5 D vwCl (tyl cI cJ cZ) (wM cI cJ cZ ad) A R 2 44) {r : (Unit × SH)} (hR : Rv p l e R s m args below meth c cX5_cancelled D vwCl (wM cI cJ cZ ad) A Q r) (a1 : Int32) (z0 : SH) {H : Heap} {locs : List Loc} {ls : Array Slot} (h : fX5_cancelled a1 z0 = some r) (hP : va_P D vwCl (wM cI cJ cZ ad z0) H) (hS : va_S A s.heap H locs) (hl : lv_has ls 2 [(0, .ref (ad 0)), (1, .int a1)]) : W p l e R s m args below meth c H locs 0 0 Q (F0 m 0 ls []) := by
  unfold fX5_cancelled at h
  have hx := C.1.1
  have hb := C.1.2.1
  refine lv_aload_n hx hb dX5_cancelled_0 rfl (lv_at hl 0 rfl) ?_
  refine lv_iload_n hx hb dX5_cancelled_1 rfl (lv_at hl 1 rfl) ?_
  refine lv_aload_n hx hb dX5_cancelled_2 rfl (lv_at hl 0 rfl) ?_
  refine b_getr C hP iX5_cancelled_X5 0 (wM_0 cI cJ cZ ad z0) rfl 15 (by decide) fX5_cancelled_i48 rfl rfl dX5_cancelled_3 ?_
  refine lv_iload_n hx hb dX5_cancelled_6 rfl (lv_at hl 1 rfl) ?_
  refine b_iald C hP h 13 (wM_13 cI cJ cZ ad z0) 0 rfl dX5_cancelled_7 (fun v1 h => ?_)
  refine b_callVv (As := [.int a1, .int v1]) (rest := []) C hP hS h (mX5_free l D cI cJ cZ ad a1 v1 z0) (cwV 2 C.1.2.2.2.2 gX5_cancelled_X5_free rfl rfl rfl (by decide +kernel) ⟨Nat.le_trans (Nat.le_of_ble_eq_true rfl) C.2.2.2.2.1, Nat.le_trans (Nat.le_of_ble_eq_true rfl) C.2.2.2.2.2⟩) (va_recv C.2.1 hP (ci := 5) (q0 := 0) rfl (wM_0 cI cJ cZ ad z0)) rfl hl.1 rfl (Nat.le_of_ble_eq_true rfl) dX5_cancelled_8 (fun _ z2 _ _ h hP hS => ?_)
  refine lv_aload_n hx hb dX5_cancelled_11 rfl (lv_at hl 0 rfl) ?_
  refine b_getr C hP iX5_cancelled_X5 0 (wM_0 cI cJ cZ ad z2) rfl 15 (by decide) fX5_cancelled_i48 rfl rfl dX5_cancelled_12 ?_
  refine lv_iload_n hx hb dX5_cancelled_15 rfl (lv_at hl 1 rfl) ?_
  refine lv_iconst (v := 0) hx hb dX5_cancelled_16 (by decide) ?_
  refine b_iast C hP hS h 13 (wM_13 cI cJ cZ ad z2) 0 rfl (wM_s13 cI cJ cZ ad z2 _ _) dX5_cancelled_17 (fun z3 _ _ h hP hS => ?_)
  refine lv_aload_n hx hb dX5_cancelled_18 rfl (lv_at hl 0 rfl) ?_
  refine b_getr C hP iX5_cancelled_X5 0 (wM_0 cI cJ cZ ad z3) rfl 16 (by decide) fX5_cancelled_i51 rfl rfl dX5_cancelled_19 ?_
  refine lv_iload_n hx hb dX5_cancelled_22 rfl (lv_at hl 1 rfl) ?_
  refine lv_iconst (v := 0) hx hb dX5_cancelled_23 (by decide) ?_
  refine b_iast C hP hS h 14 (wM_14 cI cJ cZ ad z3) 0 rfl (wM_s14 cI cJ cZ ad z3 _ _) dX5_cancelled_24 (fun z4 _ _ h hP hS => ?_)
  refine lv_aload_n hx hb dX5_cancelled_25 rfl (lv_at hl 0 rfl) ?_
  refine b_getr C hP iX5_cancelled_X5 0 (wM_0 cI cJ cZ ad z4) rfl 18 (by decide) fX5_cancelled_i57 rfl rfl dX5_cancelled_26 ?_
  refine lv_iload_n hx hb dX5_cancelled_29 rfl (lv_at hl 1 rfl) ?_
  refine lv_iconst (v := 3) hx hb dX5_cancelled_30 (by decide) ?_
  refine b_iast C hP hS h 16 (wM_16 cI cJ cZ ad z4) 0 rfl (wM_s16 cI cJ cZ ad z4 _ _) dX5_cancelled_31 (fun z5 _ _ h hP hS => ?_)
  exact hR 32 _ _ _ _ (Option.some.inj h).symm dX5_cancelled_32 hP hS
theorem mX5_cancelled (l : Launch) (D : va_G) (cI cJ cZ : ClassId) (ad : Nat → Nat) (a1 : Int32) (z0 : SH) : ∀ (q : (Unit × SH)) (sz : Nat), fX5_cancelled a1 z0 = some q → Met l yX5_cancelled wsX5_cancelled rmX5_cancelled (cP D vwCl (tyl cI cJ cZ) (wM cI cJ cZ ad z0) sz [.ref (ad 0), .int a1]) (cQv D vwCl (wM cI cJ cZ ad) z0 sz q) 0 0 (va_A (wM cI cJ cZ ad z0) sz) := by
  intro q sz h
  refine ofW_v (cc := cX5_cancelled) (maxL := 2) (by decide) rfl (wM_same cI cJ cZ ad) (Nat.le_of_ble_eq_true rfl) (fun p e s m below meth c ls hsz C hR hP hl => ?_)
  exact wX5_cancelled C hR a1 z0 h hP va_S.rf hl
abbrev rmX5_exchange : Room := { frames := 2, cells := 0, slots := 0, locals := 44 }
theorem fX5_exchange_i132 : Cond.fieldLink RX5 132 (TX5 26).1 (TX5 26).2.1 (TX5 26).2.2.1 ∈ wsX5_exchange := by decide +kernel
theorem fX5_exchange_i16 : Cond.fieldLink RX5 16 (TX5 4).1 (TX5 4).2.1 (TX5 4).2.2.1 ∈ wsX5_exchange := by decide +kernel
theorem fX5_exchange_i23 : Cond.fieldLink RX5 23 (TX5 6).1 (TX5 6).2.1 (TX5 6).2.2.1 ∈ wsX5_exchange := by decide +kernel
theorem fX5_exchange_i26 : Cond.fieldLink RX5 26 (TX5 7).1 (TX5 7).2.1 (TX5 7).2.2.1 ∈ wsX5_exchange := by decide +kernel
theorem fX5_exchange_i33 : Cond.fieldLink RX5 33 (TX5 10).1 (TX5 10).2.1 (TX5 10).2.2.1 ∈ wsX5_exchange := by decide +kernel
theorem fX5_exchange_i36 : Cond.fieldLink RX5 36 (TX5 11).1 (TX5 11).2.1 (TX5 11).2.2.1 ∈ wsX5_exchange := by decide +kernel
theorem fX5_exchange_i39 : Cond.fieldLink RX5 39 (TX5 12).1 (TX5 12).2.1 (TX5 12).2.2.1 ∈ wsX5_exchange := by decide +kernel
theorem fX5_exchange_i45 : Cond.fieldLink RX5 45 (TX5 14).1 (TX5 14).2.1 (TX5 14).2.2.1 ∈ wsX5_exchange := by decide +kernel
theorem fX5_exchange_i7 : Cond.fieldLink RX5 7 (TX5 2).1 (TX5 2).2.1 (TX5 2).2.2.1 ∈ wsX5_exchange := by decide +kernel
theorem fX5_exchange_i78 : Cond.fieldLink RX5 78 (TX5 27).1 (TX5 27).2.1 (TX5 27).2.2.1 ∈ wsX5_exchange := by decide +kernel
theorem fX5_exchange_i81 : Cond.fieldLink RX5 81 (TX5 28).1 (TX5 28).2.1 (TX5 28).2.2.1 ∈ wsX5_exchange := by decide +kernel
theorem fX5_exchange_i84 : Cond.fieldLink RX5 84 (TX5 29).1 (TX5 29).2.1 (TX5 29).2.2.1 ∈ wsX5_exchange := by decide +kernel
theorem fX5_exchange_i87 : Cond.fieldLink RX5 87 (TX5 30).1 (TX5 30).2.1 (TX5 30).2.2.1 ∈ wsX5_exchange := by decide +kernel
theorem fX5_exchange_i90 : Cond.fieldLink RX5 90 (TX5 31).1 (TX5 31).2.1 (TX5 31).2.2.1 ∈ wsX5_exchange := by decide +kernel
theorem iX5_exchange_X5 : ∀ x ∈ wsX50, x ∈ wsX5_exchange := by decide +kernel
set_option maxRecDepth 100000 in
set_option maxHeartbeats 4000000 in
theorem wX5_exchange_341 {p : Program} {l : Launch} {e : Env} {R : Room} {s : State} {m : MethodId} {args : Array Value} {below : List Frame} {meth : Method} {c : Code} {Q : State → Prop} {D : va_G} {cI cJ cZ : ClassId} {ad : Nat → Nat} {A : Nat → Prop} (C : Cx p s m args c cX5_exchange 8 wsX5_exchange RX5 D vwCl (tyl cI cJ cZ) (wM cI cJ cZ ad) A R 2 44) {r : (Unit × SH)} (hR : Rv p l e R s m args below meth c cX5_exchange D vwCl (wM cI cJ cZ ad) A Q r) (x3 : Int32) (x4 : Int32) (t0 : Int32) (t1 : Int32) (z0 : SH) {H : Heap} {locs : List Loc} {ls : Array Slot} (h : fX5_exchange_341 x3 x4 t0 t1 z0 = some r) (hP : va_P D vwCl (wM cI cJ cZ ad z0) H) (hS : va_S A s.heap H locs) (hl : lv_has ls 8 [(0, .ref (ad 0)), (3, .int x3), (4, .int x4)]) : W p l e R s m args below meth c H locs 0 0 Q (F0 m 341 ls [.int t0, .int t1, .ref (ad 26)]) := by
  unfold fX5_exchange_341 at h
  have hx := C.1.1
  have hb := C.1.2.1
  refine b_iast C hP hS h 26 (wM_26 cI cJ cZ ad z0) 0 rfl (wM_s26 cI cJ cZ ad z0 _ _) dX5_exchange_341 (fun z1 _ _ h hP hS => ?_)
  refine lv_aload_n hx hb dX5_exchange_342 rfl (lv_at hl 0 rfl) ?_
  refine b_getr C hP iX5_exchange_X5 0 (wM_0 cI cJ cZ ad z1) rfl 31 (by decide) fX5_exchange_i90 rfl rfl dX5_exchange_343 ?_
  refine lv_iload hx hb dX5_exchange_346 (lv_at hl 2 rfl) ?_
  refine lv_dup2_11 hx hb dX5_exchange_348 rfl rfl ?_
  refine b_iald C hP h 27 (wM_27 cI cJ cZ ad z1) 0 rfl dX5_exchange_349 (fun v2 h => ?_)
  refine lv_iload_n hx hb dX5_exchange_350 rfl (lv_at hl 1 rfl) ?_
  refine lv_iadd hx hb dX5_exchange_351 ?_
  refine b_iast C hP hS h 27 (wM_27 cI cJ cZ ad z1) 0 rfl (wM_s27 cI cJ cZ ad z1 _ _) dX5_exchange_352 (fun z3 _ _ h hP hS => ?_)
  exact hR 353 _ _ _ _ (Option.some.inj h).symm dX5_exchange_353 hP hS
set_option maxRecDepth 100000 in
set_option maxHeartbeats 4000000 in
theorem wX5_exchange_329 {p : Program} {l : Launch} {e : Env} {R : Room} {s : State} {m : MethodId} {args : Array Value} {below : List Frame} {meth : Method} {c : Code} {Q : State → Prop} {D : va_G} {cI cJ cZ : ClassId} {ad : Nat → Nat} {A : Nat → Prop} (C : Cx p s m args c cX5_exchange 8 wsX5_exchange RX5 D vwCl (tyl cI cJ cZ) (wM cI cJ cZ ad) A R 2 44) {r : (Unit × SH)} (hR : Rv p l e R s m args below meth c cX5_exchange D vwCl (wM cI cJ cZ ad) A Q r) (x3 : Int32) (x4 : Int32) (x5 : Int32) (t0 : Int32) (z0 : SH) {H : Heap} {locs : List Loc} {ls : Array Slot} (h : fX5_exchange_329 x3 x4 x5 t0 z0 = some r) (hP : va_P D vwCl (wM cI cJ cZ ad z0) H) (hS : va_S A s.heap H locs) (hl : lv_has ls 8 [(0, .ref (ad 0)), (3, .int x3), (4, .int x4), (5, .int x5)]) : W p l e R s m args below meth c H locs 0 0 Q (F0 m 329 ls [.int t0, .ref (ad 26)]) := by
  unfold fX5_exchange_329 at h
  have hx := C.1.1
  have hb := C.1.2.1
  refine lv_iload hx hb dX5_exchange_329 (lv_at hl 3 rfl) ?_
  refine lv_goto (tgt := 341) hx hb dX5_exchange_331 (by decide) ?_
  exact wX5_exchange_341 C hR x3 x4 x5 t0 z0 h hP hS (lv_sub hl [0, 1, 2] rfl)
set_option maxRecDepth 100000 in
set_option maxHeartbeats 4000000 in
theorem wX5_exchange_300 {p : Program} {l : Launch} {e : Env} {R : Room} {s : State} {m : MethodId} {args : Array Value} {below : List Frame} {meth : Method} {c : Code} {Q : State → Prop} {D : va_G} {cI cJ cZ : ClassId} {ad : Nat → Nat} {A : Nat → Prop} (C : Cx p s m args c cX5_exchange 8 wsX5_exchange RX5 D vwCl (tyl cI cJ cZ) (wM cI cJ cZ ad) A R 2 44) {r : (Unit × SH)} (hR : Rv p l e R s m args below meth c cX5_exchange D vwCl (wM cI cJ cZ ad) A Q r) (x3 : Int32) (x4 : Int32) (x5 : Int32) (t0 : Int32) (t1 : Int32) (z0 : SH) {H : Heap} {locs : List Loc} {ls : Array Slot} (h : fX5_exchange_300 x3 x4 x5 t0 t1 z0 = some r) (hP : va_P D vwCl (wM cI cJ cZ ad z0) H) (hS : va_S A s.heap H locs) (hl : lv_has ls 8 [(0, .ref (ad 0)), (3, .int x3), (4, .int x4), (5, .int x5)]) : W p l e R s m args below meth c H locs 0 0 Q (F0 m 300 ls [.int t0, .int t1, .ref (ad 25)]) := by
  unfold fX5_exchange_300 at h
  have hx := C.1.1
  have hb := C.1.2.1
  refine b_iast C hP hS h 25 (wM_25 cI cJ cZ ad z0) 0 rfl (wM_s25 cI cJ cZ ad z0 _ _) dX5_exchange_300 (fun z1 _ _ h hP hS => ?_)
  refine lv_aload_n hx hb dX5_exchange_301 rfl (lv_at hl 0 rfl) ?_
  refine b_getr C hP iX5_exchange_X5 0 (wM_0 cI cJ cZ ad z1) rfl 30 (by decide) fX5_exchange_i87 rfl rfl dX5_exchange_302 ?_
  refine lv_iload hx hb dX5_exchange_305 (lv_at hl 2 rfl) ?_
  refine lv_aload_n hx hb dX5_exchange_307 rfl (lv_at hl 0 rfl) ?_
  refine b_getr C hP iX5_exchange_X5 0 (wM_0 cI cJ cZ ad z1) rfl 30 (by decide) fX5_exchange_i87 rfl rfl dX5_exchange_308 ?_
  refine lv_iload hx hb dX5_exchange_311 (lv_at hl 2 rfl) ?_
  refine b_iald C hP h 26 (wM_26 cI cJ cZ ad z1) 0 rfl dX5_exchange_313 (fun v2 h => ?_)
  refine lv_if_eq (tgt := 329) hx hb dX5_exchange_314 (by decide) (fun c1 => ?_) (fun c1 => ?_)
  · replace h := (ite_h h).1 c1
    exact wX5_exchange_329 C hR x3 x4 x5 x4 z1 h hP hS (lv_sub hl [0, 1, 2, 3] rfl)
  · replace h := (ite_h h).2 c1
    refine lv_iload hx hb dX5_exchange_317 (lv_at hl 3 rfl) ?_
    refine lv_aload_n hx hb dX5_exchange_319 rfl (lv_at hl 0 rfl) ?_
    refine b_getr C hP iX5_exchange_X5 0 (wM_0 cI cJ cZ ad z1) rfl 30 (by decide) fX5_exchange_i87 rfl rfl dX5_exchange_320 ?_
    refine lv_iload hx hb dX5_exchange_323 (lv_at hl 2 rfl) ?_
    refine b_iald C hP h 26 (wM_26 cI cJ cZ ad z1) 0 rfl dX5_exchange_325 (fun v3 h => ?_)
    refine lv_icmp_ge (tgt := 334) hx hb dX5_exchange_326 (by decide) (fun c1 => ?_) (fun c1 => ?_)
    · replace h := (ite_h h).1 c1
      refine lv_aload_n hx hb dX5_exchange_334 rfl (lv_at hl 0 rfl) ?_
      refine b_getr C hP iX5_exchange_X5 0 (wM_0 cI cJ cZ ad z1) rfl 30 (by decide) fX5_exchange_i87 rfl rfl dX5_exchange_335 ?_
      refine lv_iload hx hb dX5_exchange_338 (lv_at hl 2 rfl) ?_
      refine b_iald C hP h 26 (wM_26 cI cJ cZ ad z1) 0 rfl dX5_exchange_340 (fun v4 h => ?_)
      exact wX5_exchange_341 C hR x3 x4 v4 x4 z1 h hP hS (lv_sub hl [0, 1, 2] rfl)
    · replace h := (ite_h h).2 c1
      exact wX5_exchange_329 C hR x3 x4 x5 x4 z1 h hP hS (lv_sub hl [0, 1, 2, 3] rfl)
set_option maxRecDepth 100000 in
set_option maxHeartbeats 4000000 in
theorem wX5_exchange_288 {p : Program} {l : Launch} {e : Env} {R : Room} {s : State} {m : MethodId} {args : Array Value} {below : List Frame} {meth : Method} {c : Code} {Q : State → Prop} {D : va_G} {cI cJ cZ : ClassId} {ad : Nat → Nat} {A : Nat → Prop} (C : Cx p s m args c cX5_exchange 8 wsX5_exchange RX5 D vwCl (tyl cI cJ cZ) (wM cI cJ cZ ad) A R 2 44) {r : (Unit × SH)} (hR : Rv p l e R s m args below meth c cX5_exchange D vwCl (wM cI cJ cZ ad) A Q r) (x3 : Int32) (x4 : Int32) (x5 : Int32) (t0 : Int32) (z0 : SH) {H : Heap} {locs : List Loc} {ls : Array Slot} (h : fX5_exchange_288 x3 x4 x5 t0 z0 = some r) (hP : va_P D vwCl (wM cI cJ cZ ad z0) H) (hS : va_S A s.heap H locs) (hl : lv_has ls 8 [(0, .ref (ad 0)), (3, .int x3), (4, .int x4), (5, .int x5)]) : W p l e R s m args below meth c H locs 0 0 Q (F0 m 288 ls [.int t0, .ref (ad 25)]) := by
  unfold fX5_exchange_288 at h
  have hx := C.1.1
  have hb := C.1.2.1
  refine lv_iload hx hb dX5_exchange_288 (lv_at hl 3 rfl) ?_
  refine lv_goto (tgt := 300) hx hb dX5_exchange_290 (by decide) ?_
  exact wX5_exchange_300 C hR x3 x4 x5 x5 t0 z0 h hP hS (lv_sub hl [0, 1, 2, 3] rfl)
set_option maxRecDepth 100000 in
set_option maxHeartbeats 4000000 in
theorem wX5_exchange_241 {p : Program} {l : Launch} {e : Env} {R : Room} {s : State} {m : MethodId} {args : Array Value} {below : List Frame} {meth : Method} {c : Code} {Q : State → Prop} {D : va_G} {cI cJ cZ : ClassId} {ad : Nat → Nat} {A : Nat → Prop} (C : Cx p s m args c cX5_exchange 8 wsX5_exchange RX5 D vwCl (tyl cI cJ cZ) (wM cI cJ cZ ad) A R 2 44) {r : (Unit × SH)} (hR : Rv p l e R s m args below meth c cX5_exchange D vwCl (wM cI cJ cZ ad) A Q r) (x3 : Int32) (x4 : Int32) (x5 : Int32) (z0 : SH) {H : Heap} {locs : List Loc} {ls : Array Slot} (h : fX5_exchange_241 x3 x4 x5 z0 = some r) (hP : va_P D vwCl (wM cI cJ cZ ad z0) H) (hS : va_S A s.heap H locs) (hl : lv_has ls 8 [(0, .ref (ad 0)), (3, .int x3), (4, .int x4), (5, .int x5)]) : W p l e R s m args below meth c H locs 0 0 Q (F0 m 241 ls []) := by
  unfold fX5_exchange_241 at h
  have hx := C.1.1
  have hb := C.1.2.1
  refine lv_aload_n hx hb dX5_exchange_241 rfl (lv_at hl 0 rfl) ?_
  refine lv_dup hx hb dX5_exchange_242 rfl ?_
  refine b_geti C hP h iX5_exchange_X5 0 (wM_0 cI cJ cZ ad z0) rfl 26 (by decide) fX5_exchange_i132 rfl rfl dX5_exchange_243 (fun v1 h => ?_)
  refine lv_iconst (v := 1) hx hb dX5_exchange_246 (by decide) ?_
  refine lv_iadd hx hb dX5_exchange_247 ?_
  refine b_puti C hP hS h iX5_exchange_X5 tyX5 tyX5_ok nmX5 0 (wM_0 cI cJ cZ ad z0) rfl 26 (by decide) fX5_exchange_i132 rfl rfl rfl (Nat.le_of_ble_eq_true rfl) (wM_si4 cI cJ cZ ad z0 _) dX5_exchange_248 (fun z2 _ _ h hP hS => ?_)
  refine lv_aload_n hx hb dX5_exchange_251 rfl (lv_at hl 0 rfl) ?_
  refine b_getr C hP iX5_exchange_X5 0 (wM_0 cI cJ cZ ad z2) rfl 28 (by decide) fX5_exchange_i81 rfl rfl dX5_exchange_252 ?_
  refine lv_iload hx hb dX5_exchange_255 (lv_at hl 2 rfl) ?_
  refine lv_iload hx hb dX5_exchange_257 (lv_at hl 3 rfl) ?_
  refine b_iast C hP hS h 24 (wM_24 cI cJ cZ ad z2) 0 rfl (wM_s24 cI cJ cZ ad z2 _ _) dX5_exchange_259 (fun z3 _ _ h hP hS => ?_)
  refine lv_aload_n hx hb dX5_exchange_260 rfl (lv_at hl 0 rfl) ?_
  refine b_getr C hP iX5_exchange_X5 0 (wM_0 cI cJ cZ ad z3) rfl 29 (by decide) fX5_exchange_i84 rfl rfl dX5_exchange_261 ?_
  refine lv_iload hx hb dX5_exchange_264 (lv_at hl 2 rfl) ?_
  refine lv_aload_n hx hb dX5_exchange_266 rfl (lv_at hl 0 rfl) ?_
  refine b_getr C hP iX5_exchange_X5 0 (wM_0 cI cJ cZ ad z3) rfl 29 (by decide) fX5_exchange_i84 rfl rfl dX5_exchange_267 ?_
  refine lv_iload hx hb dX5_exchange_270 (lv_at hl 2 rfl) ?_
  refine b_iald C hP h 25 (wM_25 cI cJ cZ ad z3) 0 rfl dX5_exchange_272 (fun v4 h => ?_)
  refine lv_if_eq (tgt := 288) hx hb dX5_exchange_273 (by decide) (fun c1 => ?_) (fun c1 => ?_)
  · replace h := (ite_h h).1 c1
    exact wX5_exchange_288 C hR x3 x4 x5 x4 z3 h hP hS (lv_sub hl [0, 1, 2, 3] rfl)
  · replace h := (ite_h h).2 c1
    refine lv_iload hx hb dX5_exchange_276 (lv_at hl 3 rfl) ?_
    refine lv_aload_n hx hb dX5_exchange_278 rfl (lv_at hl 0 rfl) ?_
    refine b_getr C hP iX5_exchange_X5 0 (wM_0 cI cJ cZ ad z3) rfl 29 (by decide) fX5_exchange_i84 rfl rfl dX5_exchange_279 ?_
    refine lv_iload hx hb dX5_exchange_282 (lv_at hl 2 rfl) ?_
    refine b_iald C hP h 25 (wM_25 cI cJ cZ ad z3) 0 rfl dX5_exchange_284 (fun v5 h => ?_)
    refine lv_icmp_le (tgt := 293) hx hb dX5_exchange_285 (by decide) (fun c1 => ?_) (fun c1 => ?_)
    · replace h := (ite_h h).1 c1
      refine lv_aload_n hx hb dX5_exchange_293 rfl (lv_at hl 0 rfl) ?_
      refine b_getr C hP iX5_exchange_X5 0 (wM_0 cI cJ cZ ad z3) rfl 29 (by decide) fX5_exchange_i84 rfl rfl dX5_exchange_294 ?_
      refine lv_iload hx hb dX5_exchange_297 (lv_at hl 2 rfl) ?_
      refine b_iald C hP h 25 (wM_25 cI cJ cZ ad z3) 0 rfl dX5_exchange_299 (fun v6 h => ?_)
      exact wX5_exchange_300 C hR x3 x4 x5 v6 x4 z3 h hP hS (lv_sub hl [0, 1, 2, 3] rfl)
    · replace h := (ite_h h).2 c1
      exact wX5_exchange_288 C hR x3 x4 x5 x4 z3 h hP hS (lv_sub hl [0, 1, 2, 3] rfl)
set_option maxRecDepth 100000 in
set_option maxHeartbeats 4000000 in
theorem wX5_exchange_66 {p : Program} {l : Launch} {e : Env} {R : Room} {s : State} {m : MethodId} {args : Array Value} {below : List Frame} {meth : Method} {c : Code} {Q : State → Prop} {D : va_G} {cI cJ cZ : ClassId} {ad : Nat → Nat} {A : Nat → Prop} (C : Cx p s m args c cX5_exchange 8 wsX5_exchange RX5 D vwCl (tyl cI cJ cZ) (wM cI cJ cZ ad) A R 2 44) {r : (Unit × SH)} (hR : Rv p l e R s m args below meth c cX5_exchange D vwCl (wM cI cJ cZ ad) A Q r) (x1 : Int32) (x2 : Int32) (x3 : Int32) (x4 : Int32) (x5 : Int32) (x6 : Int32) (t0 : Int32) (z0 : SH) {H : Heap} {locs : List Loc} {ls : Array Slot} (h : fX5_exchange_66 x1 x2 x3 x4 x5 x6 t0 z0 = some r) (hP : va_P D vwCl (wM cI cJ cZ ad z0) H) (hS : va_S A s.heap H locs) (hl : lv_has ls 8 [(0, .ref (ad 0)), (1, .int x1), (2, .int x2), (3, .int x3), (4, .int x4), (5, .int x5), (6, .int x6)]) : W p l e R s m args below meth c H locs 0 0 Q (F0 m 66 ls [.int t0]) := by
  unfold fX5_exchange_66 at h
  have hx := C.1.1
  have hb := C.1.2.1
  refine lv_istore (lv' := [(7, .int t0), (0, .ref (ad 0)), (1, .int x1), (2, .int x2), (3, .int x3), (4, .int x4), (5, .int x5), (6, .int x6)]) hx hb dX5_exchange_66 hl (by decide) rfl (fun ls hl => ?_)
  refine lv_aload_n hx hb dX5_exchange_68 rfl (lv_at hl 1 rfl) ?_
  refine lv_iload_n hx hb dX5_exchange_69 rfl (lv_at hl 2 rfl) ?_
  refine lv_iload_n hx hb dX5_exchange_70 rfl (lv_at hl 4 rfl) ?_
  refine b_callVv (As := [.int x1, .int x3]) (rest := []) C hP hS h (mX5_free l D cI cJ cZ ad x1 x3 z0) (cwV 2 C.1.2.2.2.2 gX5_exchange_X5_free rfl rfl rfl (by decide +kernel) ⟨Nat.le_trans (Nat.le_of_ble_eq_true rfl) C.2.2.2.2.1, Nat.le_trans (Nat.le_of_ble_eq_true rfl) C.2.2.2.2.2⟩) (va_recv C.2.1 hP (ci := 5) (q0 := 0) rfl (wM_0 cI cJ cZ ad z0)) rfl hl.1 rfl (Nat.le_of_ble_eq_true rfl) dX5_exchange_71 (fun _ z1 _ _ h hP hS => ?_)
  refine lv_aload_n hx hb dX5_exchange_74 rfl (lv_at hl 1 rfl) ?_
  refine lv_iload_n hx hb dX5_exchange_75 rfl (lv_at hl 3 rfl) ?_
  refine lv_iload_n hx hb dX5_exchange_76 rfl (lv_at hl 4 rfl) ?_
  refine b_callVv (As := [.int x2, .int x3]) (rest := []) C hP hS h (mX5_free l D cI cJ cZ ad x2 x3 z1) (cwV 2 C.1.2.2.2.2 gX5_exchange_X5_free rfl rfl rfl (by decide +kernel) ⟨Nat.le_trans (Nat.le_of_ble_eq_true rfl) C.2.2.2.2.1, Nat.le_trans (Nat.le_of_ble_eq_true rfl) C.2.2.2.2.2⟩) (va_recv C.2.1 hP (ci := 5) (q0 := 0) rfl (wM_0 cI cJ cZ ad z1)) rfl hl.1 rfl (Nat.le_of_ble_eq_true rfl) dX5_exchange_77 (fun _ z2 _ _ h hP hS => ?_)
  refine lv_aload_n hx hb dX5_exchange_80 rfl (lv_at hl 1 rfl) ?_
  refine b_getr C hP iX5_exchange_X5 0 (wM_0 cI cJ cZ ad z2) rfl 2 (by decide) fX5_exchange_i7 rfl rfl dX5_exchange_81 ?_
  refine lv_iload hx hb dX5_exchange_84 (lv_at hl 7 rfl) ?_
  refine lv_dup2_11 hx hb dX5_exchange_86 rfl rfl ?_
  refine b_lald C hP h 1 (wM_1 cI cJ cZ ad z2) 1 rfl dX5_exchange_87 (fun v3 h => ?_)
  refine lv_iload hx hb dX5_exchange_88 (lv_at hl 6 rfl) ?_
  refine lv_i2l hx hb dX5_exchange_90 rfl ?_
  refine lv_iload_n hx hb dX5_exchange_91 rfl (lv_at hl 4 rfl) ?_
  refine lv_i2l hx hb dX5_exchange_92 rfl ?_
  refine lv_lmul hx hb dX5_exchange_93 ?_
  refine lv_lsub hx hb dX5_exchange_94 ?_
  refine b_last C hP hS h 1 (wM_1 cI cJ cZ ad z2) 1 rfl (wM_s1 cI cJ cZ ad z2 _ _) dX5_exchange_95 (fun z4 _ _ h hP hS => ?_)
  refine lv_aload_n hx hb dX5_exchange_96 rfl (lv_at hl 1 rfl) ?_
  refine b_getr C hP iX5_exchange_X5 0 (wM_0 cI cJ cZ ad z4) rfl 2 (by decide) fX5_exchange_i7 rfl rfl dX5_exchange_97 ?_
  refine lv_iload hx hb dX5_exchange_100 (lv_at hl 0 rfl) ?_
  refine lv_dup2_11 hx hb dX5_exchange_102 rfl rfl ?_
  refine b_lald C hP h 1 (wM_1 cI cJ cZ ad z4) 1 rfl dX5_exchange_103 (fun v5 h => ?_)
  refine lv_iload hx hb dX5_exchange_104 (lv_at hl 6 rfl) ?_
  refine lv_i2l hx hb dX5_exchange_106 rfl ?_
  refine lv_iload_n hx hb dX5_exchange_107 rfl (lv_at hl 4 rfl) ?_
  refine lv_i2l hx hb dX5_exchange_108 rfl ?_
  refine lv_lmul hx hb dX5_exchange_109 ?_
  refine lv_ladd hx hb dX5_exchange_110 ?_
  refine b_last C hP hS h 1 (wM_1 cI cJ cZ ad z4) 1 rfl (wM_s1 cI cJ cZ ad z4 _ _) dX5_exchange_111 (fun z6 _ _ h hP hS => ?_)
  refine lv_aload_n hx hb dX5_exchange_112 rfl (lv_at hl 1 rfl) ?_
  refine b_getr C hP iX5_exchange_X5 0 (wM_0 cI cJ cZ ad z6) rfl 4 (by decide) fX5_exchange_i16 rfl rfl dX5_exchange_113 ?_
  refine lv_iload hx hb dX5_exchange_116 (lv_at hl 7 rfl) ?_
  refine lv_iload hx hb dX5_exchange_118 (lv_at hl 5 rfl) ?_
  refine b_callSi (As := [.int x6, .int x4]) (rest := [.ref (ad 3)]) C hP hS h (mX5_cell l D cI cJ cZ ad x6 x4 z6) (va_cwS 2 C.1.2.2.2.2 gX5_exchange_X5_cell rfl rfl rfl (by decide +kernel) ⟨Nat.le_trans (Nat.le_of_ble_eq_true rfl) C.2.2.2.2.1, Nat.le_trans (Nat.le_of_ble_eq_true rfl) C.2.2.2.2.2⟩) rfl hl.1 rfl (Nat.le_of_ble_eq_true rfl) dX5_exchange_120 (fun v8 z7 _ _ h hP hS => ?_)
  refine lv_dup2_11 hx hb dX5_exchange_123 rfl rfl ?_
  refine b_iald C hP h 3 (wM_3 cI cJ cZ ad z7) 0 rfl dX5_exchange_124 (fun v9 h => ?_)
  refine lv_iload_n hx hb dX5_exchange_125 rfl (lv_at hl 4 rfl) ?_
  refine lv_iadd hx hb dX5_exchange_126 ?_
  refine b_iast C hP hS h 3 (wM_3 cI cJ cZ ad z7) 0 rfl (wM_s3 cI cJ cZ ad z7 _ _) dX5_exchange_127 (fun z10 _ _ h hP hS => ?_)
  refine lv_aload_n hx hb dX5_exchange_128 rfl (lv_at hl 1 rfl) ?_
  refine b_getr C hP iX5_exchange_X5 0 (wM_0 cI cJ cZ ad z10) rfl 4 (by decide) fX5_exchange_i16 rfl rfl dX5_exchange_129 ?_
  refine lv_iload hx hb dX5_exchange_132 (lv_at hl 0 rfl) ?_
  refine lv_iload hx hb dX5_exchange_134 (lv_at hl 5 rfl) ?_
  refine b_callSi (As := [.int t0, .int x4]) (rest := [.ref (ad 3)]) C hP hS h (mX5_cell l D cI cJ cZ ad t0 x4 z10) (va_cwS 2 C.1.2.2.2.2 gX5_exchange_X5_cell rfl rfl rfl (by decide +kernel) ⟨Nat.le_trans (Nat.le_of_ble_eq_true rfl) C.2.2.2.2.1, Nat.le_trans (Nat.le_of_ble_eq_true rfl) C.2.2.2.2.2⟩) rfl hl.1 rfl (Nat.le_of_ble_eq_true rfl) dX5_exchange_136 (fun v12 z11 _ _ h hP hS => ?_)
  refine lv_dup2_11 hx hb dX5_exchange_139 rfl rfl ?_
  refine b_iald C hP h 3 (wM_3 cI cJ cZ ad z11) 0 rfl dX5_exchange_140 (fun v13 h => ?_)
  refine lv_iload_n hx hb dX5_exchange_141 rfl (lv_at hl 4 rfl) ?_
  refine lv_isub hx hb dX5_exchange_142 ?_
  refine b_iast C hP hS h 3 (wM_3 cI cJ cZ ad z11) 0 rfl (wM_s3 cI cJ cZ ad z11 _ _) dX5_exchange_143 (fun z14 _ _ h hP hS => ?_)
  refine lv_aload_n hx hb dX5_exchange_144 rfl (lv_at hl 1 rfl) ?_
  refine b_getr C hP iX5_exchange_X5 0 (wM_0 cI cJ cZ ad z14) rfl 6 (by decide) fX5_exchange_i23 rfl rfl dX5_exchange_145 ?_
  refine lv_iload hx hb dX5_exchange_148 (lv_at hl 7 rfl) ?_
  refine lv_iload hx hb dX5_exchange_150 (lv_at hl 5 rfl) ?_
  refine b_callSi (As := [.int x6, .int x4]) (rest := [.ref (ad 5)]) C hP hS h (mX5_cell l D cI cJ cZ ad x6 x4 z14) (va_cwS 2 C.1.2.2.2.2 gX5_exchange_X5_cell rfl rfl rfl (by decide +kernel) ⟨Nat.le_trans (Nat.le_of_ble_eq_true rfl) C.2.2.2.2.1, Nat.le_trans (Nat.le_of_ble_eq_true rfl) C.2.2.2.2.2⟩) rfl hl.1 rfl (Nat.le_of_ble_eq_true rfl) dX5_exchange_152 (fun v16 z15 _ _ h hP hS => ?_)
  refine lv_dup2_11 hx hb dX5_exchange_155 rfl rfl ?_
  refine b_iald C hP h 5 (wM_5 cI cJ cZ ad z15) 0 rfl dX5_exchange_156 (fun v17 h => ?_)
  refine lv_iload_n hx hb dX5_exchange_157 rfl (lv_at hl 4 rfl) ?_
  refine lv_iadd hx hb dX5_exchange_158 ?_
  refine b_iast C hP hS h 5 (wM_5 cI cJ cZ ad z15) 0 rfl (wM_s5 cI cJ cZ ad z15 _ _) dX5_exchange_159 (fun z18 _ _ h hP hS => ?_)
  refine lv_aload_n hx hb dX5_exchange_160 rfl (lv_at hl 1 rfl) ?_
  refine b_getr C hP iX5_exchange_X5 0 (wM_0 cI cJ cZ ad z18) rfl 7 (by decide) fX5_exchange_i26 rfl rfl dX5_exchange_161 ?_
  refine lv_iload hx hb dX5_exchange_164 (lv_at hl 0 rfl) ?_
  refine lv_iload hx hb dX5_exchange_166 (lv_at hl 5 rfl) ?_
  refine b_callSi (As := [.int t0, .int x4]) (rest := [.ref (ad 6)]) C hP hS h (mX5_cell l D cI cJ cZ ad t0 x4 z18) (va_cwS 2 C.1.2.2.2.2 gX5_exchange_X5_cell rfl rfl rfl (by decide +kernel) ⟨Nat.le_trans (Nat.le_of_ble_eq_true rfl) C.2.2.2.2.1, Nat.le_trans (Nat.le_of_ble_eq_true rfl) C.2.2.2.2.2⟩) rfl hl.1 rfl (Nat.le_of_ble_eq_true rfl) dX5_exchange_168 (fun v20 z19 _ _ h hP hS => ?_)
  refine lv_dup2_11 hx hb dX5_exchange_171 rfl rfl ?_
  refine b_iald C hP h 6 (wM_6 cI cJ cZ ad z19) 0 rfl dX5_exchange_172 (fun v21 h => ?_)
  refine lv_iload_n hx hb dX5_exchange_173 rfl (lv_at hl 4 rfl) ?_
  refine lv_iadd hx hb dX5_exchange_174 ?_
  refine b_iast C hP hS h 6 (wM_6 cI cJ cZ ad z19) 0 rfl (wM_s6 cI cJ cZ ad z19 _ _) dX5_exchange_175 (fun z22 _ _ h hP hS => ?_)
  refine lv_aload_n hx hb dX5_exchange_176 rfl (lv_at hl 1 rfl) ?_
  refine b_geti C hP h iX5_exchange_X5 0 (wM_0 cI cJ cZ ad z22) rfl 26 (by decide) fX5_exchange_i132 rfl rfl dX5_exchange_177 (fun v23 h => ?_)
  refine lv_sipush (v := 300) hx hb dX5_exchange_180 (by decide) ?_
  refine lv_icmp_ge (tgt := 241) hx hb dX5_exchange_183 (by decide) (fun c1 => ?_) (fun c1 => ?_)
  · replace h := (ite_h h).1 c1
    exact wX5_exchange_241 C hR x3 x4 x5 z22 h hP hS (lv_sub hl [1, 4, 5, 6] rfl)
  · replace h := (ite_h h).2 c1
    refine lv_aload_n hx hb dX5_exchange_186 rfl (lv_at hl 1 rfl) ?_
    refine b_getr C hP iX5_exchange_X5 0 (wM_0 cI cJ cZ ad z22) rfl 27 (by decide) fX5_exchange_i78 rfl rfl dX5_exchange_187 ?_
    refine lv_iconst (v := 4) hx hb dX5_exchange_190 (by decide) ?_
    refine lv_aload_n hx hb dX5_exchange_191 rfl (lv_at hl 1 rfl) ?_
    refine b_geti C hP h iX5_exchange_X5 0 (wM_0 cI cJ cZ ad z22) rfl 26 (by decide) fX5_exchange_i132 rfl rfl dX5_exchange_192 (fun v24 h => ?_)
    refine lv_imul hx hb dX5_exchange_195 ?_
    refine lv_iload_n hx hb dX5_exchange_196 rfl (lv_at hl 2 rfl) ?_
    refine b_iast C hP hS h 23 (wM_23 cI cJ cZ ad z22) 0 rfl (wM_s23 cI cJ cZ ad z22 _ _) dX5_exchange_197 (fun z25 _ _ h hP hS => ?_)
    refine lv_aload_n hx hb dX5_exchange_198 rfl (lv_at hl 1 rfl) ?_
    refine b_getr C hP iX5_exchange_X5 0 (wM_0 cI cJ cZ ad z25) rfl 27 (by decide) fX5_exchange_i78 rfl rfl dX5_exchange_199 ?_
    refine lv_iconst (v := 4) hx hb dX5_exchange_202 (by decide) ?_
    refine lv_aload_n hx hb dX5_exchange_203 rfl (lv_at hl 1 rfl) ?_
    refine b_geti C hP h iX5_exchange_X5 0 (wM_0 cI cJ cZ ad z25) rfl 26 (by decide) fX5_exchange_i132 rfl rfl dX5_exchange_204 (fun v26 h => ?_)
    refine lv_imul hx hb dX5_exchange_207 ?_
    refine lv_iconst (v := 1) hx hb dX5_exchange_208 (by decide) ?_
    refine lv_iadd hx hb dX5_exchange_209 ?_
    refine lv_iload_n hx hb dX5_exchange_210 rfl (lv_at hl 3 rfl) ?_
    refine b_iast C hP hS h 23 (wM_23 cI cJ cZ ad z25) 0 rfl (wM_s23 cI cJ cZ ad z25 _ _) dX5_exchange_211 (fun z27 _ _ h hP hS => ?_)
    refine lv_aload_n hx hb dX5_exchange_212 rfl (lv_at hl 1 rfl) ?_
    refine b_getr C hP iX5_exchange_X5 0 (wM_0 cI cJ cZ ad z27) rfl 27 (by decide) fX5_exchange_i78 rfl rfl dX5_exchange_213 ?_
    refine lv_iconst (v := 4) hx hb dX5_exchange_216 (by decide) ?_
    refine lv_aload_n hx hb dX5_exchange_217 rfl (lv_at hl 1 rfl) ?_
    refine b_geti C hP h iX5_exchange_X5 0 (wM_0 cI cJ cZ ad z27) rfl 26 (by decide) fX5_exchange_i132 rfl rfl dX5_exchange_218 (fun v28 h => ?_)
    refine lv_imul hx hb dX5_exchange_221 ?_
    refine lv_iconst (v := 2) hx hb dX5_exchange_222 (by decide) ?_
    refine lv_iadd hx hb dX5_exchange_223 ?_
    refine lv_iload hx hb dX5_exchange_224 (lv_at hl 6 rfl) ?_
    refine b_iast C hP hS h 23 (wM_23 cI cJ cZ ad z27) 0 rfl (wM_s23 cI cJ cZ ad z27 _ _) dX5_exchange_226 (fun z29 _ _ h hP hS => ?_)
    refine lv_aload_n hx hb dX5_exchange_227 rfl (lv_at hl 1 rfl) ?_
    refine b_getr C hP iX5_exchange_X5 0 (wM_0 cI cJ cZ ad z29) rfl 27 (by decide) fX5_exchange_i78 rfl rfl dX5_exchange_228 ?_
    refine lv_iconst (v := 4) hx hb dX5_exchange_231 (by decide) ?_
    refine lv_aload_n hx hb dX5_exchange_232 rfl (lv_at hl 1 rfl) ?_
    refine b_geti C hP h iX5_exchange_X5 0 (wM_0 cI cJ cZ ad z29) rfl 26 (by decide) fX5_exchange_i132 rfl rfl dX5_exchange_233 (fun v30 h => ?_)
    refine lv_imul hx hb dX5_exchange_236 ?_
    refine lv_iconst (v := 3) hx hb dX5_exchange_237 (by decide) ?_
    refine lv_iadd hx hb dX5_exchange_238 ?_
    refine lv_iload_n hx hb dX5_exchange_239 rfl (lv_at hl 4 rfl) ?_
    refine b_iast C hP hS h 23 (wM_23 cI cJ cZ ad z29) 0 rfl (wM_s23 cI cJ cZ ad z29 _ _) dX5_exchange_240 (fun z31 _ _ h hP hS => ?_)
    exact wX5_exchange_241 C hR x3 x4 x5 z31 h hP hS (lv_sub hl [1, 4, 5, 6] rfl)
set_option maxRecDepth 100000 in
set_option maxHeartbeats 4000000 in
theorem wX5_exchange_40 {p : Program} {l : Launch} {e : Env} {R : Room} {s : State} {m : MethodId} {args : Array Value} {below : List Frame} {meth : Method} {c : Code} {Q : State → Prop} {D : va_G} {cI cJ cZ : ClassId} {ad : Nat → Nat} {A : Nat → Prop} (C : Cx p s m args c cX5_exchange 8 wsX5_exchange RX5 D vwCl (tyl cI cJ cZ) (wM cI cJ cZ ad) A R 2 44) {r : (Unit × SH)} (hR : Rv p l e R s m args below meth c cX5_exchange D vwCl (wM cI cJ cZ ad) A Q r) (x1 : Int32) (x2 : Int32) (x3 : Int32) (x4 : Int32) (x5 : Int32) (t0 : Int32) (z0 : SH) {H : Heap} {locs : List Loc} {ls : Array Slot} (h : fX5_exchange_40 x1 x2 x3 x4 x5 t0 z0 = some r) (hP : va_P D vwCl (wM cI cJ cZ ad z0) H) (hS : va_S A s.heap H locs) (hl : lv_has ls 8 [(0, .ref (ad 0)), (1, .int x1), (2, .int x2), (3, .int x3), (4, .int x4), (5, .int x5)]) : W p l e R s m args below meth c H locs 0 0 Q (F0 m 40 ls [.int t0]) := by
  unfold fX5_exchange_40 at h
  have hx := C.1.1
  have hb := C.1.2.1
  refine lv_istore (lv' := [(6, .int t0), (0, .ref (ad 0)), (1, .int x1), (2, .int x2), (3, .int x3), (4, .int x4), (5, .int x5)]) hx hb dX5_exchange_40 hl (by decide) rfl (fun ls hl => ?_)
  refine lv_aload_n hx hb dX5_exchange_42 rfl (lv_at hl 1 rfl) ?_
  refine b_getr C hP iX5_exchange_X5 0 (wM_0 cI cJ cZ ad z0) rfl 12 (by decide) fX5_exchange_i39 rfl rfl dX5_exchange_43 ?_
  refine lv_iload_n hx hb dX5_exchange_46 rfl (lv_at hl 2 rfl) ?_
  refine b_iald C hP h 10 (wM_10 cI cJ cZ ad z0) 0 rfl dX5_exchange_47 (fun v1 h => ?_)
  refine lv_if_ne (tgt := 60) hx hb dX5_exchange_48 (by decide) (fun c1 => ?_) (fun c1 => ?_)
  · replace h := (ite_h h).2 c1
    refine lv_aload_n hx hb dX5_exchange_60 rfl (lv_at hl 1 rfl) ?_
    refine b_getr C hP iX5_exchange_X5 0 (wM_0 cI cJ cZ ad z0) rfl 10 (by decide) fX5_exchange_i33 rfl rfl dX5_exchange_61 ?_
    refine lv_iload_n hx hb dX5_exchange_64 rfl (lv_at hl 2 rfl) ?_
    refine b_iald C hP h 8 (wM_8 cI cJ cZ ad z0) 0 rfl dX5_exchange_65 (fun v2 h => ?_)
    exact wX5_exchange_66 C hR x1 x2 x3 x4 x5 t0 v2 z0 h hP hS (lv_sub hl [1, 2, 3, 4, 5, 6, 0] rfl)
  · replace h := (ite_h h).1 c1
    refine lv_aload_n hx hb dX5_exchange_51 rfl (lv_at hl 1 rfl) ?_
    refine b_getr C hP iX5_exchange_X5 0 (wM_0 cI cJ cZ ad z0) rfl 10 (by decide) fX5_exchange_i33 rfl rfl dX5_exchange_52 ?_
    refine lv_iload_n hx hb dX5_exchange_55 rfl (lv_at hl 3 rfl) ?_
    refine b_iald C hP h 8 (wM_8 cI cJ cZ ad z0) 0 rfl dX5_exchange_56 (fun v3 h => ?_)
    refine lv_goto (tgt := 66) hx hb dX5_exchange_57 (by decide) ?_
    exact wX5_exchange_66 C hR x1 x2 x3 x4 x5 t0 v3 z0 h hP hS (lv_sub hl [1, 2, 3, 4, 5, 6, 0] rfl)
set_option maxRecDepth 100000 in
set_option maxHeartbeats 4000000 in
theorem wX5_exchange {p : Program} {l : Launch} {e : Env} {R : Room} {s : State} {m : MethodId} {args : Array Value} {below : List Frame} {meth : Method} {c : Code} {Q : State → Prop} {D : va_G} {cI cJ cZ : ClassId} {ad : Nat → Nat} {A : Nat → Prop} (C : Cx p s m args c cX5_exchange 8 wsX5_exchange RX5 D vwCl (tyl cI cJ cZ) (wM cI cJ cZ ad) A R 2 44) {r : (Unit × SH)} (hR : Rv p l e R s m args below meth c cX5_exchange D vwCl (wM cI cJ cZ ad) A Q r) (a1 : Int32) (a2 : Int32) (a3 : Int32) (z0 : SH) {H : Heap} {locs : List Loc} {ls : Array Slot} (h : fX5_exchange a1 a2 a3 z0 = some r) (hP : va_P D vwCl (wM cI cJ cZ ad z0) H) (hS : va_S A s.heap H locs) (hl : lv_has ls 8 [(0, .ref (ad 0)), (1, .int a1), (2, .int a2), (3, .int a3)]) : W p l e R s m args below meth c H locs 0 0 Q (F0 m 0 ls []) := by
  unfold fX5_exchange at h
  have hx := C.1.1
  have hb := C.1.2.1
  refine lv_aload_n hx hb dX5_exchange_0 rfl (lv_at hl 0 rfl) ?_
  refine b_getr C hP iX5_exchange_X5 0 (wM_0 cI cJ cZ ad z0) rfl 11 (by decide) fX5_exchange_i36 rfl rfl dX5_exchange_1 ?_
  refine lv_iload_n hx hb dX5_exchange_4 rfl (lv_at hl 1 rfl) ?_
  refine b_iald C hP h 9 (wM_9 cI cJ cZ ad z0) 0 rfl dX5_exchange_5 (fun v1 h => ?_)
  refine lv_istore (lv' := [(4, .int v1), (0, .ref (ad 0)), (1, .int a1), (2, .int a2), (3, .int a3)]) hx hb dX5_exchange_6 hl (by decide) rfl (fun ls hl => ?_)
  refine lv_aload_n hx hb dX5_exchange_8 rfl (lv_at hl 1 rfl) ?_
  refine b_getr C hP iX5_exchange_X5 0 (wM_0 cI cJ cZ ad z0) rfl 14 (by decide) fX5_exchange_i45 rfl rfl dX5_exchange_9 ?_
  refine lv_iload_n hx hb dX5_exchange_12 rfl (lv_at hl 3 rfl) ?_
  refine b_iald C hP h 12 (wM_12 cI cJ cZ ad z0) 0 rfl dX5_exchange_13 (fun v2 h => ?_)
  refine lv_istore (lv' := [(5, .int v2), (4, .int v1), (0, .ref (ad 0)), (1, .int a1), (2, .int a2), (3, .int a3)]) hx hb dX5_exchange_14 hl (by decide) rfl (fun ls hl => ?_)
  refine lv_aload_n hx hb dX5_exchange_16 rfl (lv_at hl 2 rfl) ?_
  refine b_getr C hP iX5_exchange_X5 0 (wM_0 cI cJ cZ ad z0) rfl 12 (by decide) fX5_exchange_i39 rfl rfl dX5_exchange_17 ?_
  refine lv_iload_n hx hb dX5_exchange_20 rfl (lv_at hl 3 rfl) ?_
  refine b_iald C hP h 10 (wM_10 cI cJ cZ ad z0) 0 rfl dX5_exchange_21 (fun v3 h => ?_)
  refine lv_if_ne (tgt := 34) hx hb dX5_exchange_22 (by decide) (fun c1 => ?_) (fun c1 => ?_)
  · replace h := (ite_h h).2 c1
    refine lv_aload_n hx hb dX5_exchange_34 rfl (lv_at hl 2 rfl) ?_
    refine b_getr C hP iX5_exchange_X5 0 (wM_0 cI cJ cZ ad z0) rfl 10 (by decide) fX5_exchange_i33 rfl rfl dX5_exchange_35 ?_
    refine lv_iload_n hx hb dX5_exchange_38 rfl (lv_at hl 4 rfl) ?_
    refine b_iald C hP h 8 (wM_8 cI cJ cZ ad z0) 0 rfl dX5_exchange_39 (fun v4 h => ?_)
    exact wX5_exchange_40 C hR a1 a2 a3 v1 v2 v4 z0 h hP hS (lv_sub hl [2, 3, 4, 5, 1, 0] rfl)
  · replace h := (ite_h h).1 c1
    refine lv_aload_n hx hb dX5_exchange_25 rfl (lv_at hl 2 rfl) ?_
    refine b_getr C hP iX5_exchange_X5 0 (wM_0 cI cJ cZ ad z0) rfl 10 (by decide) fX5_exchange_i33 rfl rfl dX5_exchange_26 ?_
    refine lv_iload_n hx hb dX5_exchange_29 rfl (lv_at hl 3 rfl) ?_
    refine b_iald C hP h 8 (wM_8 cI cJ cZ ad z0) 0 rfl dX5_exchange_30 (fun v5 h => ?_)
    refine lv_goto (tgt := 40) hx hb dX5_exchange_31 (by decide) ?_
    exact wX5_exchange_40 C hR a1 a2 a3 v1 v2 v5 z0 h hP hS (lv_sub hl [2, 3, 4, 5, 1, 0] rfl)
theorem mX5_exchange (l : Launch) (D : va_G) (cI cJ cZ : ClassId) (ad : Nat → Nat) (a1 : Int32) (a2 : Int32) (a3 : Int32) (z0 : SH) : ∀ (q : (Unit × SH)) (sz : Nat), fX5_exchange a1 a2 a3 z0 = some q → Met l yX5_exchange wsX5_exchange rmX5_exchange (cP D vwCl (tyl cI cJ cZ) (wM cI cJ cZ ad z0) sz [.ref (ad 0), .int a1, .int a2, .int a3]) (cQv D vwCl (wM cI cJ cZ ad) z0 sz q) 0 0 (va_A (wM cI cJ cZ ad z0) sz) := by
  intro q sz h
  refine ofW_v (cc := cX5_exchange) (maxL := 8) (by decide) rfl (wM_same cI cJ cZ ad) (Nat.le_of_ble_eq_true rfl) (fun p e s m below meth c ls hsz C hR hP hl => ?_)
  exact wX5_exchange C hR a1 a2 a3 z0 h hP va_S.rf hl
