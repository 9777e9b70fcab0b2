abbrev rmX0_drop : Room := { frames := 1, cells := 0, slots := 0, locals := 21 }
theorem fX0_drop_i15 : Cond.fieldLink RX0 15 (TX0 2).1 (TX0 2).2.1 (TX0 2).2.2.1 ∈ wsX0_drop := by decide +kernel
theorem fX0_drop_i18 : Cond.fieldLink RX0 18 (TX0 0).1 (TX0 0).2.1 (TX0 0).2.2.1 ∈ wsX0_drop := by decide +kernel
theorem fX0_drop_i22 : Cond.fieldLink RX0 22 (TX2 1).1 (TX2 1).2.1 (TX2 1).2.2.1 ∈ wsX0_drop := by decide +kernel
theorem fX0_drop_i27 : Cond.fieldLink RX0 27 (TX2 2).1 (TX2 2).2.1 (TX2 2).2.2.1 ∈ wsX0_drop := by decide +kernel
theorem fX0_drop_i9 : Cond.fieldLink RX0 9 (TX0 1).1 (TX0 1).2.1 (TX0 1).2.2.1 ∈ wsX0_drop := by decide +kernel
theorem iX0_drop_X0 : ∀ x ∈ wsX00, x ∈ wsX0_drop := by decide +kernel
theorem iX0_drop_X2 : ∀ x ∈ wsX20, x ∈ wsX0_drop := by decide +kernel
set_option maxRecDepth 100000 in
set_option maxHeartbeats 4000000 in
theorem wX0_drop_77 {p : Program} {l : Launch} {e : Env} {R : Room} {s : State} {m : MethodId} {args : Array Value} {below : List Frame} {meth : Method} {c : Code} {Q : State → Prop} {D : va_G} {cI cJ cZ : ClassId} {ad : Nat → Nat} {A : Nat → Prop} (C : Cx p s m args c cX0_drop 7 wsX0_drop RX0 D vwCl (tyl cI cJ cZ) (wH cI cJ cZ ad) A R 1 21) {r : (Unit × SH)} (hR : Rv p l e R s m args below meth c cX0_drop D vwCl (wH cI cJ cZ ad) A Q r) (N : Nat) (k77 : Int32 → Int32 → Int32 → SH → Option (Unit × SH)) (K77 : ∀ (x2 : Int32) (x4 : Int32) (x6 : Int32) (z : SH) (H : Heap) (locs : List Loc) (ls : Array Slot), k77 x2 x4 x6 z = some r → va_P D vwCl (wH cI cJ cZ ad z) H → va_S A s.heap H locs → lv_has ls 7 [(0, .ref (ad 3)), (2, .int x2), (4, .int x4), (6, .int x6)] → W p l e R s m args below meth c H locs 0 0 Q (F0 m 77 ls [])) (x2 : Int32) (x4 : Int32) (x6 : Int32) (z0 : SH) {H : Heap} {locs : List Loc} {ls : Array Slot} (h : fX0_drop_77 N k77 x2 x4 x6 z0 = some r) (hP : va_P D vwCl (wH cI cJ cZ ad z0) H) (hS : va_S A s.heap H locs) (hl : lv_has ls 7 [(0, .ref (ad 3)), (2, .int x2), (4, .int x4), (6, .int x6)]) : W p l e R s m args below meth c H locs 0 0 Q (F0 m 77 ls []) := by
  unfold fX0_drop_77 at h
  have hx := C.1.1
  have hb := C.1.2.1
  refine lv_iload hx hb dX0_drop_77 (lv_at hl 3 rfl) ?_
  refine lv_iload hx hb dX0_drop_79 (lv_at hl 2 rfl) ?_
  refine lv_icmp_ge (tgt := 106) hx hb dX0_drop_81 (by decide) (fun c1 => ?_) (fun c1 => ?_)
  · replace h := (ite_h h).1 c1
    refine lv_aload_n hx hb dX0_drop_106 rfl (lv_at hl 0 rfl) ?_
    refine b_getr C hP iX0_drop_X0 3 (wH_3 cI cJ cZ ad z0) rfl 2 (by decide) fX0_drop_i15 rfl rfl dX0_drop_107 ?_
    refine lv_iload_n hx hb dX0_drop_110 rfl (lv_at hl 1 rfl) ?_
    refine lv_dup2_11 hx hb dX0_drop_111 rfl rfl ?_
    refine b_iald C hP h 24 (wH_24 cI cJ cZ ad z0) 0 rfl dX0_drop_112 (fun v1 h => ?_)
    refine lv_iconst (v := 1) hx hb dX0_drop_113 (by decide) ?_
    refine lv_isub hx hb dX0_drop_114 ?_
    refine b_iast C hP hS h 24 (wH_24 cI cJ cZ ad z0) 0 rfl (wH_s24 cI cJ cZ ad z0 _ _) dX0_drop_115 (fun z2 _ _ h hP hS => ?_)
    exact hR 116 _ _ _ _ (Option.some.inj h).symm dX0_drop_116 hP hS
  · replace h := (ite_h h).2 c1
    refine lv_aload_n hx hb dX0_drop_84 rfl (lv_at hl 0 rfl) ?_
    refine b_getr C hP iX0_drop_X0 3 (wH_3 cI cJ cZ ad z0) rfl 1 (by decide) fX0_drop_i9 rfl rfl dX0_drop_85 ?_
    refine lv_iload hx hb dX0_drop_88 (lv_at hl 3 rfl) ?_
    refine lv_aload_n hx hb dX0_drop_90 rfl (lv_at hl 0 rfl) ?_
    refine b_getr C hP iX0_drop_X0 3 (wH_3 cI cJ cZ ad z0) rfl 1 (by decide) fX0_drop_i9 rfl rfl dX0_drop_91 ?_
    refine lv_iload hx hb dX0_drop_94 (lv_at hl 3 rfl) ?_
    refine lv_iconst (v := 1) hx hb dX0_drop_96 (by decide) ?_
    refine lv_iadd hx hb dX0_drop_97 ?_
    refine b_iald C hP h 23 (wH_23 cI cJ cZ ad z0) 0 rfl dX0_drop_98 (fun v3 h => ?_)
    refine b_iast C hP hS h 23 (wH_23 cI cJ cZ ad z0) 0 rfl (wH_s23 cI cJ cZ ad z0 _ _) dX0_drop_99 (fun z4 _ _ h hP hS => ?_)
    refine lv_iinc (v := x6 + 1) (lv' := [(6, .int (x6 + 1)), (0, .ref (ad 3)), (2, .int x2), (4, .int x4)]) hx hb dX0_drop_100 hl (k := 3) rfl rfl (by decide) rfl (fun ls hl => ?_)
    refine lv_goto (tgt := 77) hx hb dX0_drop_103 (by decide) ?_
    exact K77 x2 x4 (x6 + 1) z4 _ _ _ h hP hS (lv_sub hl [1, 2, 3, 0] rfl)
theorem wX0_drop_77_L {p : Program} {l : Launch} {e : Env} {R : Room} {s : State} {m : MethodId} {args : Array Value} {below : List Frame} {meth : Method} {c : Code} {Q : State → Prop} {D : va_G} {cI cJ cZ : ClassId} {ad : Nat → Nat} {A : Nat → Prop} (C : Cx p s m args c cX0_drop 7 wsX0_drop RX0 D vwCl (tyl cI cJ cZ) (wH cI cJ cZ ad) A R 1 21) {r : (Unit × SH)} (hR : Rv p l e R s m args below meth c cX0_drop D vwCl (wH cI cJ cZ ad) A Q r) (N : Nat) : ∀ (n : Nat), ∀ (x2 : Int32) (x4 : Int32) (x6 : Int32) (z : SH) (H : Heap) (locs : List Loc) (ls : Array Slot), fX0_drop_77_L N n x2 x4 x6 z = some r → va_P D vwCl (wH cI cJ cZ ad z) H → va_S A s.heap H locs → lv_has ls 7 [(0, .ref (ad 3)), (2, .int x2), (4, .int x4), (6, .int x6)] → W p l e R s m args below meth c H locs 0 0 Q (F0 m 77 ls []) := by
  intro n
  induction n with
  | zero => intro x2 x4 x6 z H locs ls h; exact nomatch (show (none : Option (Unit × SH)) = some r from h)
  | succ n ih => intro x2 x4 x6 z H locs ls h hP hS hl; exact wX0_drop_77 C hR N (fX0_drop_77_L N n) ih x2 x4 x6 z (show fX0_drop_77 N (fX0_drop_77_L N n) x2 x4 x6 z = some r from h) hP hS hl
set_option maxRecDepth 100000 in
set_option maxHeartbeats 4000000 in
theorem wX0_drop_66 {p : Program} {l : Launch} {e : Env} {R : Room} {s : State} {m : MethodId} {args : Array Value} {below : List Frame} {meth : Method} {c : Code} {Q : State → Prop} {D : va_G} {cI cJ cZ : ClassId} {ad : Nat → Nat} {A : Nat → Prop} (C : Cx p s m args c cX0_drop 7 wsX0_drop RX0 D vwCl (tyl cI cJ cZ) (wH cI cJ cZ ad) A R 1 21) {r : (Unit × SH)} (hR : Rv p l e R s m args below meth c cX0_drop D vwCl (wH cI cJ cZ ad) A Q r) (N : Nat) (x2 : Int32) (x3 : Int32) (x4 : Int32) (x5 : Int32) (z0 : SH) {H : Heap} {locs : List Loc} {ls : Array Slot} (h : fX0_drop_66 N x2 x3 x4 x5 z0 = some r) (hP : va_P D vwCl (wH cI cJ cZ ad z0) H) (hS : va_S A s.heap H locs) (hl : lv_has ls 7 [(0, .ref (ad 3)), (2, .int x2), (3, .int x3), (4, .int x4), (5, .int x5)]) : W p l e R s m args below meth c H locs 0 0 Q (F0 m 66 ls []) := by
  unfold fX0_drop_66 at h
  have hx := C.1.1
  have hb := C.1.2.1
  refine lv_iload hx hb dX0_drop_66 (lv_at hl 4 rfl) ?_
  refine lv_iload_n hx hb dX0_drop_68 rfl (lv_at hl 2 rfl) ?_
  refine lv_icmp_ge (tgt := 73) hx hb dX0_drop_69 (by decide) (fun c1 => ?_) (fun c1 => ?_)
  · replace h := (ite_h h).1 c1
    refine lv_iload hx hb dX0_drop_73 (lv_at hl 4 rfl) ?_
    refine lv_istore (lv' := [(6, .int x5), (0, .ref (ad 3)), (2, .int x2), (3, .int x3), (4, .int x4), (5, .int x5)]) hx hb dX0_drop_75 hl (by decide) rfl (fun ls hl => ?_)
    exact wX0_drop_77_L C hR N N x2 x4 x5 z0 _ _ _ h hP hS (lv_sub hl [1, 2, 4, 0] rfl)
  · replace h := (ite_h h).2 c1
    exact hR 72 _ _ _ _ (Option.some.inj h).symm dX0_drop_72 hP hS
set_option maxRecDepth 100000 in
set_option maxHeartbeats 4000000 in
theorem wX0_drop_43 {p : Program} {l : Launch} {e : Env} {R : Room} {s : State} {m : MethodId} {args : Array Value} {below : List Frame} {meth : Method} {c : Code} {Q : State → Prop} {D : va_G} {cI cJ cZ : ClassId} {ad : Nat → Nat} {A : Nat → Prop} (C : Cx p s m args c cX0_drop 7 wsX0_drop RX0 D vwCl (tyl cI cJ cZ) (wH cI cJ cZ ad) A R 1 21) {r : (Unit × SH)} (hR : Rv p l e R s m args below meth c cX0_drop D vwCl (wH cI cJ cZ ad) A Q r) (N : Nat) (k43 : Int32 → Int32 → Int32 → Int32 → Int32 → SH → Option (Unit × SH)) (K43 : ∀ (x1 : Int32) (x2 : Int32) (x3 : Int32) (x4 : Int32) (x5 : Int32) (z : SH) (H : Heap) (locs : List Loc) (ls : Array Slot), k43 x1 x2 x3 x4 x5 z = some r → va_P D vwCl (wH cI cJ cZ ad z) H → va_S A s.heap H locs → lv_has ls 7 [(0, .ref (ad 3)), (1, .int x1), (2, .int x2), (3, .int x3), (4, .int x4), (5, .int x5)] → W p l e R s m args below meth c H locs 0 0 Q (F0 m 43 ls [])) (x1 : Int32) (x2 : Int32) (x3 : Int32) (x4 : Int32) (x5 : Int32) (z0 : SH) {H : Heap} {locs : List Loc} {ls : Array Slot} (h : fX0_drop_43 N k43 x1 x2 x3 x4 x5 z0 = some r) (hP : va_P D vwCl (wH cI cJ cZ ad z0) H) (hS : va_S A s.heap H locs) (hl : lv_has ls 7 [(0, .ref (ad 3)), (1, .int x1), (2, .int x2), (3, .int x3), (4, .int x4), (5, .int x5)]) : W p l e R s m args below meth c H locs 0 0 Q (F0 m 43 ls []) := by
  unfold fX0_drop_43 at h
  have hx := C.1.1
  have hb := C.1.2.1
  refine lv_iload hx hb dX0_drop_43 (lv_at hl 5 rfl) ?_
  refine lv_iload_n hx hb dX0_drop_45 rfl (lv_at hl 3 rfl) ?_
  refine lv_icmp_lt (tgt := 66) hx hb dX0_drop_46 (by decide) (fun c1 => ?_) (fun c1 => ?_)
  · replace h := (ite_h h).1 c1
    exact wX0_drop_66 C hR N x2 x3 x4 x5 z0 h hP hS (lv_sub hl [0, 2, 3, 4, 5] rfl)
  · replace h := (ite_h h).2 c1
    refine lv_aload_n hx hb dX0_drop_49 rfl (lv_at hl 0 rfl) ?_
    refine b_getr C hP iX0_drop_X0 3 (wH_3 cI cJ cZ ad z0) rfl 1 (by decide) fX0_drop_i9 rfl rfl dX0_drop_50 ?_
    refine lv_iload hx hb dX0_drop_53 (lv_at hl 5 rfl) ?_
    refine b_iald C hP h 23 (wH_23 cI cJ cZ ad z0) 0 rfl dX0_drop_55 (fun v1 h => ?_)
    refine lv_iload_n hx hb dX0_drop_56 rfl (lv_at hl 1 rfl) ?_
    refine lv_icmp_eq (tgt := 66) hx hb dX0_drop_57 (by decide) (fun c1 => ?_) (fun c1 => ?_)
    · replace h := (ite_h h).1 c1
      exact wX0_drop_66 C hR N x2 x3 x4 x5 z0 h hP hS (lv_sub hl [0, 2, 3, 4, 5] rfl)
    · replace h := (ite_h h).2 c1
      refine lv_iinc (v := x5 + (-1)) (lv' := [(5, .int (x5 + (-1))), (0, .ref (ad 3)), (1, .int x1), (2, .int x2), (3, .int x3), (4, .int x4)]) hx hb dX0_drop_60 hl (k := 5) rfl rfl (by decide) rfl (fun ls hl => ?_)
      refine lv_goto (tgt := 43) hx hb dX0_drop_63 (by decide) ?_
      exact K43 x1 x2 x3 x4 (x5 + (-1)) z0 _ _ _ h hP hS (lv_sub hl [1, 2, 3, 4, 5, 0] rfl)
theorem wX0_drop_43_L {p : Program} {l : Launch} {e : Env} {R : Room} {s : State} {m : MethodId} {args : Array Value} {below : List Frame} {meth : Method} {c : Code} {Q : State → Prop} {D : va_G} {cI cJ cZ : ClassId} {ad : Nat → Nat} {A : Nat → Prop} (C : Cx p s m args c cX0_drop 7 wsX0_drop RX0 D vwCl (tyl cI cJ cZ) (wH cI cJ cZ ad) A R 1 21) {r : (Unit × SH)} (hR : Rv p l e R s m args below meth c cX0_drop D vwCl (wH cI cJ cZ ad) A Q r) (N : Nat) : ∀ (n : Nat), ∀ (x1 : Int32) (x2 : Int32) (x3 : Int32) (x4 : Int32) (x5 : Int32) (z : SH) (H : Heap) (locs : List Loc) (ls : Array Slot), fX0_drop_43_L N n x1 x2 x3 x4 x5 z = some r → va_P D vwCl (wH cI cJ cZ ad z) H → va_S A s.heap H locs → lv_has ls 7 [(0, .ref (ad 3)), (1, .int x1), (2, .int x2), (3, .int x3), (4, .int x4), (5, .int x5)] → W p l e R s m args below meth c H locs 0 0 Q (F0 m 43 ls []) := by
  intro n
  induction n with
  | zero => intro x1 x2 x3 x4 x5 z H locs ls h; exact nomatch (show (none : Option (Unit × SH)) = some r from h)
  | succ n ih => intro x1 x2 x3 x4 x5 z H locs ls h hP hS hl; exact wX0_drop_43 C hR N (fX0_drop_43_L N n) ih x1 x2 x3 x4 x5 z (show fX0_drop_43 N (fX0_drop_43_L N n) x1 x2 x3 x4 x5 z = some r from h) hP hS hl
set_option maxRecDepth 100000 in
set_option maxHeartbeats 4000000 in
theorem wX0_drop {p : Program} {l : Launch} {e : Env} {R : Room} {s : State} {m : MethodId} {args : Array Value} {below : List Frame} {meth : Method} {c : Code} {Q : State → Prop} {D : va_G} {cI cJ cZ : ClassId} {ad : Nat → Nat} {A : Nat → Prop} (C : Cx p s m args c cX0_drop 7 wsX0_drop RX0 D vwCl (tyl cI cJ cZ) (wH cI cJ cZ ad) A R 1 21) {r : (Unit × SH)} (hR : Rv p l e R s m args below meth c cX0_drop D vwCl (wH cI cJ cZ ad) A Q r) (N : Nat) (a1 : Int32) (z0 : SH) {H : Heap} {locs : List Loc} {ls : Array Slot} (h : fX0_drop N a1 z0 = some r) (hP : va_P D vwCl (wH cI cJ cZ ad z0) H) (hS : va_S A s.heap H locs) (hl : lv_has ls 7 [(0, .ref (ad 3)), (1, .int a1)]) : W p l e R s m args below meth c H locs 0 0 Q (F0 m 0 ls []) := by
  unfold fX0_drop at h
  have hx := C.1.1
  have hb := C.1.2.1
  refine lv_aload_n hx hb dX0_drop_0 rfl (lv_at hl 0 rfl) ?_
  refine b_getr C hP iX0_drop_X0 3 (wH_3 cI cJ cZ ad z0) rfl 0 (by decide) fX0_drop_i18 rfl rfl dX0_drop_1 ?_
  refine b_getr C hP iX0_drop_X2 2 (wH_2 cI cJ cZ ad z0) rfl 1 (by decide) fX0_drop_i22 rfl rfl dX0_drop_4 ?_
  refine lv_iload_n hx hb dX0_drop_7 rfl (lv_at hl 1 rfl) ?_
  refine b_iald C hP h 13 (wH_13 cI cJ cZ ad z0) 0 rfl dX0_drop_8 (fun v1 h => ?_)
  refine lv_aload_n hx hb dX0_drop_9 rfl (lv_at hl 0 rfl) ?_
  refine b_getr C hP iX0_drop_X0 3 (wH_3 cI cJ cZ ad z0) rfl 0 (by decide) fX0_drop_i18 rfl rfl dX0_drop_10 ?_
  refine b_getr C hP iX0_drop_X2 2 (wH_2 cI cJ cZ ad z0) rfl 2 (by decide) fX0_drop_i27 rfl rfl dX0_drop_13 ?_
  refine lv_iload_n hx hb dX0_drop_16 rfl (lv_at hl 1 rfl) ?_
  refine b_iald C hP h 14 (wH_14 cI cJ cZ ad z0) 0 rfl dX0_drop_17 (fun v2 h => ?_)
  refine b_callSi (As := [.int v1, .int v2]) (rest := []) C hP hS h (mX0_bookOf l D cI cJ cZ ad v1 v2 z0) (va_cwS 2 C.1.2.2.2.2 gX0_drop_X0_bookOf rfl rfl rfl (by decide +kernel) ⟨Nat.le_trans (Nat.le_of_ble_eq_true rfl) C.2.2.2.2.1, Nat.le_trans (Nat.le_of_ble_eq_true rfl) C.2.2.2.2.2⟩) rfl hl.1 rfl (Nat.le_of_ble_eq_true rfl) dX0_drop_18 (fun v4 z3 _ _ h hP hS => ?_)
  refine lv_istore_n (lv' := [(2, .int v4), (0, .ref (ad 3)), (1, .int a1)]) hx hb dX0_drop_21 rfl hl (by decide) rfl (fun ls hl => ?_)
  refine lv_iload_n hx hb dX0_drop_22 rfl (lv_at hl 0 rfl) ?_
  refine lv_bipush (v := 100) hx hb dX0_drop_23 (by decide) ?_
  refine lv_imul hx hb dX0_drop_25 ?_
  refine lv_istore_n (lv' := [(3, .int (v4 * 100)), (2, .int v4), (0, .ref (ad 3)), (1, .int a1)]) hx hb dX0_drop_26 rfl hl (by decide) rfl (fun ls hl => ?_)
  refine lv_iload_n hx hb dX0_drop_27 rfl (lv_at hl 0 rfl) ?_
  refine lv_aload_n hx hb dX0_drop_28 rfl (lv_at hl 2 rfl) ?_
  refine b_getr C hP iX0_drop_X0 3 (wH_3 cI cJ cZ ad z3) rfl 2 (by decide) fX0_drop_i15 rfl rfl dX0_drop_29 ?_
  refine lv_iload_n hx hb dX0_drop_32 rfl (lv_at hl 1 rfl) ?_
  refine b_iald C hP h 24 (wH_24 cI cJ cZ ad z3) 0 rfl dX0_drop_33 (fun v5 h => ?_)
  refine lv_iadd hx hb dX0_drop_34 ?_
  refine lv_iconst (v := 1) hx hb dX0_drop_35 (by decide) ?_
  refine lv_isub hx hb dX0_drop_36 ?_
  refine lv_istore (lv' := [(4, .int (((v4 * 100) + v5) - 1)), (3, .int (v4 * 100)), (2, .int v4), (0, .ref (ad 3)), (1, .int a1)]) hx hb dX0_drop_37 hl (by decide) rfl (fun ls hl => ?_)
  refine lv_iload hx hb dX0_drop_39 (lv_at hl 0 rfl) ?_
  refine lv_istore (lv' := [(5, .int (((v4 * 100) + v5) - 1)), (4, .int (((v4 * 100) + v5) - 1)), (3, .int (v4 * 100)), (2, .int v4), (0, .ref (ad 3)), (1, .int a1)]) hx hb dX0_drop_41 hl (by decide) rfl (fun ls hl => ?_)
  exact wX0_drop_43_L C hR N N a1 v4 (v4 * 100) (((v4 * 100) + v5) - 1) (((v4 * 100) + v5) - 1) z3 _ _ _ h hP hS (lv_sub hl [4, 5, 3, 2, 1, 0] rfl)
theorem mX0_drop (l : Launch) (D : va_G) (cI cJ cZ : ClassId) (ad : Nat → Nat) (N : Nat) (a1 : Int32) (z0 : SH) : ∀ (q : (Unit × SH)) (sz : Nat), fX0_drop N a1 z0 = some q → Met l yX0_drop wsX0_drop rmX0_drop (cP D vwCl (tyl cI cJ cZ) (wH cI cJ cZ ad z0) sz [.ref (ad 3), .int a1]) (cQv D vwCl (wH cI cJ cZ ad) z0 sz q) 0 0 (va_A (wH cI cJ cZ ad z0) sz) := by
  intro q sz h
  refine ofW_v (cc := cX0_drop) (maxL := 7) (by decide) rfl (wH_same cI cJ cZ ad) (Nat.le_of_ble_eq_true rfl) (fun p e s m below meth c ls hsz C hR hP hl => ?_)
  exact wX0_drop C hR N a1 z0 h hP va_S.rf hl
abbrev rmX4_showLess : Room := { frames := 3, cells := 0, slots := 0, locals := 69 }
theorem fX4_showLess_i126 : Cond.fieldLink RX4 126 (TX2 6).1 (TX2 6).2.1 (TX2 6).2.2.1 ∈ wsX4_showLess := by decide +kernel
theorem fX4_showLess_i139 : Cond.fieldLink RX4 139 (TX2 7).1 (TX2 7).2.1 (TX2 7).2.2.1 ∈ wsX4_showLess := by decide +kernel
theorem fX4_showLess_i19 : Cond.fieldLink RX4 19 (TX4 1).1 (TX4 1).2.1 (TX4 1).2.2.1 ∈ wsX4_showLess := by decide +kernel
theorem fX4_showLess_i28 : Cond.fieldLink RX4 28 (TX4 2).1 (TX4 2).2.1 (TX4 2).2.2.1 ∈ wsX4_showLess := by decide +kernel
theorem iX4_showLess_X2 : ∀ x ∈ wsX20, x ∈ wsX4_showLess := by decide +kernel
theorem iX4_showLess_X4 : ∀ x ∈ wsX40, x ∈ wsX4_showLess := by decide +kernel
set_option maxRecDepth 100000 in
set_option maxHeartbeats 4000000 in
theorem wX4_showLess_60 {p : Program} {l : Launch} {e : Env} {R : Room} {s : State} {m : MethodId} {args : Array Value} {below : List Frame} {meth : Method} {c : Code} {Q : State → Prop} {D : va_G} {cI cJ cZ : ClassId} {ad : Nat → Nat} {A : Nat → Prop} (C : Cx p s m args c cX4_showLess 3 wsX4_showLess RX4 D vwCl (tyl cI cJ cZ) (wH cI cJ cZ ad) A R 3 69) {r : (Unit × SH)} (hR : Rv p l e R s m args below meth c cX4_showLess D vwCl (wH cI cJ cZ ad) A Q r) (N : Nat) (z0 : SH) {H : Heap} {locs : List Loc} {ls : Array Slot} (h : fX4_showLess_60 N z0 = some r) (hP : va_P D vwCl (wH cI cJ cZ ad z0) H) (hS : va_S A s.heap H locs) (hl : lv_has ls 3 []) : W p l e R s m args below meth c H locs 0 0 Q (F0 m 60 ls []) := by
  unfold fX4_showLess_60 at h
  have hx := C.1.1
  have hb := C.1.2.1
  exact hR 60 _ _ _ _ (Option.some.inj h).symm dX4_showLess_60 hP hS
set_option maxRecDepth 100000 in
set_option maxHeartbeats 4000000 in
theorem wX4_showLess {p : Program} {l : Launch} {e : Env} {R : Room} {s : State} {m : MethodId} {args : Array Value} {below : List Frame} {meth : Method} {c : Code} {Q : State → Prop} {D : va_G} {cI cJ cZ : ClassId} {ad : Nat → Nat} {A : Nat → Prop} (C : Cx p s m args c cX4_showLess 3 wsX4_showLess RX4 D vwCl (tyl cI cJ cZ) (wH cI cJ cZ ad) A R 3 69) {r : (Unit × SH)} (hR : Rv p l e R s m args below meth c cX4_showLess D vwCl (wH cI cJ cZ ad) A Q r) (N : Nat) (a1 : Int32) (a2 : Int32) (z0 : SH) {H : Heap} {locs : List Loc} {ls : Array Slot} (h : fX4_showLess N a1 a2 z0 = some r) (hP : va_P D vwCl (wH cI cJ cZ ad z0) H) (hS : va_S A s.heap H locs) (hl : lv_has ls 3 [(0, .ref (ad 0)), (1, .int a1), (2, .int a2)]) : W p l e R s m args below meth c H locs 0 0 Q (F0 m 0 ls []) := by
  unfold fX4_showLess at h
  have hx := C.1.1
  have hb := C.1.2.1
  refine lv_aload_n hx hb dX4_showLess_0 rfl (lv_at hl 0 rfl) ?_
  refine b_getr C hP iX4_showLess_X4 0 (wH_0 cI cJ cZ ad z0) rfl 1 (by decide) fX4_showLess_i19 rfl rfl dX4_showLess_1 ?_
  refine b_getr C hP iX4_showLess_X2 2 (wH_2 cI cJ cZ ad z0) rfl 7 (by decide) fX4_showLess_i139 rfl rfl dX4_showLess_4 ?_
  refine lv_iload_n hx hb dX4_showLess_7 rfl (lv_at hl 1 rfl) ?_
  refine lv_dup2_11 hx hb dX4_showLess_8 rfl rfl ?_
  refine b_iald C hP h 19 (wH_19 cI cJ cZ ad z0) 0 rfl dX4_showLess_9 (fun v1 h => ?_)
  refine lv_iload_n hx hb dX4_showLess_10 rfl (lv_at hl 2 rfl) ?_
  refine lv_isub hx hb dX4_showLess_11 ?_
  refine b_iast C hP hS h 19 (wH_19 cI cJ cZ ad z0) 0 rfl (wH_s19 cI cJ cZ ad z0 _ _) dX4_showLess_12 (fun z2 _ _ h hP hS => ?_)
  refine lv_aload_n hx hb dX4_showLess_13 rfl (lv_at hl 0 rfl) ?_
  refine b_getr C hP iX4_showLess_X4 0 (wH_0 cI cJ cZ ad z2) rfl 1 (by decide) fX4_showLess_i19 rfl rfl dX4_showLess_14 ?_
  refine b_getr C hP iX4_showLess_X2 2 (wH_2 cI cJ cZ ad z2) rfl 7 (by decide) fX4_showLess_i139 rfl rfl dX4_showLess_17 ?_
  refine lv_iload_n hx hb dX4_showLess_20 rfl (lv_at hl 1 rfl) ?_
  refine b_iald C hP h 19 (wH_19 cI cJ cZ ad z2) 0 rfl dX4_showLess_21 (fun v3 h => ?_)
  refine lv_if_le (tgt := 26) hx hb dX4_showLess_22 (by decide) (fun c1 => ?_) (fun c1 => ?_)
  · replace h := (ite_h h).1 c1
    refine lv_aload_n hx hb dX4_showLess_26 rfl (lv_at hl 0 rfl) ?_
    refine b_getr C hP iX4_showLess_X4 0 (wH_0 cI cJ cZ ad z2) rfl 2 (by decide) fX4_showLess_i28 rfl rfl dX4_showLess_27 ?_
    refine lv_iload_n hx hb dX4_showLess_30 rfl (lv_at hl 1 rfl) ?_
    refine b_callVv (As := [.int a1]) (rest := []) C hP hS h (mX0_drop l D cI cJ cZ ad N a1 z2) (cwV 1 C.1.2.2.2.2 gX4_showLess_X0_drop rfl rfl rfl (by decide +kernel) ⟨Nat.le_trans (Nat.le_of_ble_eq_true rfl) C.2.2.2.2.1, Nat.le_trans (Nat.le_of_ble_eq_true rfl) C.2.2.2.2.2⟩) (va_recv C.2.1 hP (ci := 0) (q0 := 3) rfl (wH_3 cI cJ cZ ad z2)) rfl hl.1 rfl (Nat.le_of_ble_eq_true rfl) dX4_showLess_31 (fun _ z4 _ _ h hP hS => ?_)
    refine lv_aload_n hx hb dX4_showLess_34 rfl (lv_at hl 0 rfl) ?_
    refine b_getr C hP iX4_showLess_X4 0 (wH_0 cI cJ cZ ad z4) rfl 1 (by decide) fX4_showLess_i19 rfl rfl dX4_showLess_35 ?_
    refine b_getr C hP iX4_showLess_X2 2 (wH_2 cI cJ cZ ad z4) rfl 6 (by decide) fX4_showLess_i126 rfl rfl dX4_showLess_38 ?_
    refine lv_iload_n hx hb dX4_showLess_41 rfl (lv_at hl 1 rfl) ?_
    refine b_iald C hP h 18 (wH_18 cI cJ cZ ad z4) 0 rfl dX4_showLess_42 (fun v5 h => ?_)
    refine lv_if_ne (tgt := 55) hx hb dX4_showLess_43 (by decide) (fun c1 => ?_) (fun c1 => ?_)
    · replace h := (ite_h h).2 c1
      refine lv_aload_n hx hb dX4_showLess_55 rfl (lv_at hl 0 rfl) ?_
      refine lv_iload_n hx hb dX4_showLess_56 rfl (lv_at hl 1 rfl) ?_
      refine b_callVv (As := [.int a1]) (rest := []) C hP hS h (mX4_rest l D cI cJ cZ ad N a1 z4) (cwV 1 C.1.2.2.2.2 gX4_showLess_X4_rest rfl rfl rfl (by decide +kernel) ⟨Nat.le_trans (Nat.le_of_ble_eq_true rfl) C.2.2.2.2.1, Nat.le_trans (Nat.le_of_ble_eq_true rfl) C.2.2.2.2.2⟩) (va_recv C.2.1 hP (ci := 4) (q0 := 0) rfl (wH_0 cI cJ cZ ad z4)) rfl hl.1 rfl (Nat.le_of_ble_eq_true rfl) dX4_showLess_57 (fun _ z6 _ _ h hP hS => ?_)
      exact wX4_showLess_60 C hR N z6 h hP hS (lv_sub hl [] rfl)
    · replace h := (ite_h h).1 c1
      refine lv_aload_n hx hb dX4_showLess_46 rfl (lv_at hl 0 rfl) ?_
      refine lv_iload_n hx hb dX4_showLess_47 rfl (lv_at hl 1 rfl) ?_
      refine lv_iconst (v := 2) hx hb dX4_showLess_48 (by decide) ?_
      refine b_callVv (As := [.int a1, .int 2]) (rest := []) C hP hS h (mX4_close l D cI cJ cZ ad a1 2 z4) (cwV 2 C.1.2.2.2.2 gX4_showLess_X4_close rfl rfl rfl (by decide +kernel) ⟨Nat.le_trans (Nat.le_of_ble_eq_true rfl) C.2.2.2.2.1, Nat.le_trans (Nat.le_of_ble_eq_true rfl) C.2.2.2.2.2⟩) (va_recv C.2.1 hP (ci := 4) (q0 := 0) rfl (wH_0 cI cJ cZ ad z4)) rfl hl.1 rfl (Nat.le_of_ble_eq_true rfl) dX4_showLess_49 (fun _ z7 _ _ h hP hS => ?_)
      refine lv_goto (tgt := 60) hx hb dX4_showLess_52 (by decide) ?_
      exact wX4_showLess_60 C hR N z7 h hP hS (lv_sub hl [] rfl)
  · replace h := (ite_h h).2 c1
    exact hR 25 _ _ _ _ (Option.some.inj h).symm dX4_showLess_25 hP hS
theorem mX4_showLess (l : Launch) (D : va_G) (cI cJ cZ : ClassId) (ad : Nat → Nat) (N : Nat) (a1 : Int32) (a2 : Int32) (z0 : SH) : ∀ (q : (Unit × SH)) (sz : Nat), fX4_showLess N a1 a2 z0 = some q → Met l yX4_showLess wsX4_showLess rmX4_showLess (cP D vwCl (tyl cI cJ cZ) (wH cI cJ cZ ad z0) sz [.ref (ad 0), .int a1, .int a2]) (cQv D vwCl (wH cI cJ cZ ad) z0 sz q) 0 0 (va_A (wH cI cJ cZ ad z0) sz) := by
  intro q sz h
  refine ofW_v (cc := cX4_showLess) (maxL := 3) (by decide) rfl (wH_same cI cJ cZ ad) (Nat.le_of_ble_eq_true rfl) (fun p e s m below meth c ls hsz C hR hP hl => ?_)
  exact wX4_showLess C hR N a1 a2 z0 h hP va_S.rf hl
abbrev rmX4_tradeUntilStopped : Room := { frames := 4, cells := 0, slots := 0, locals := 91 }
theorem fX4_tradeUntilStopped_i126 : Cond.fieldLink RX4 126 (TX2 6).1 (TX2 6).2.1 (TX2 6).2.2.1 ∈ wsX4_tradeUntilStopped := by decide +kernel
theorem fX4_tradeUntilStopped_i139 : Cond.fieldLink RX4 139 (TX2 7).1 (TX2 7).2.1 (TX2 7).2.2.1 ∈ wsX4_tradeUntilStopped := by decide +kernel
theorem fX4_tradeUntilStopped_i19 : Cond.fieldLink RX4 19 (TX4 1).1 (TX4 1).2.1 (TX4 1).2.2.1 ∈ wsX4_tradeUntilStopped := by decide +kernel
theorem fX4_tradeUntilStopped_i198 : Cond.fieldLink RX4 198 (TX2 0).1 (TX2 0).2.1 (TX2 0).2.2.1 ∈ wsX4_tradeUntilStopped := by decide +kernel
theorem fX4_tradeUntilStopped_i28 : Cond.fieldLink RX4 28 (TX4 2).1 (TX4 2).2.1 (TX4 2).2.2.1 ∈ wsX4_tradeUntilStopped := by decide +kernel
theorem iX4_tradeUntilStopped_X2 : ∀ x ∈ wsX20, x ∈ wsX4_tradeUntilStopped := by decide +kernel
theorem iX4_tradeUntilStopped_X4 : ∀ x ∈ wsX40, x ∈ wsX4_tradeUntilStopped := by decide +kernel
theorem lX4_tradeUntilStopped_142 : Cond.methodLink RX4 142 Lib.Math.min.name ∈ wsX4_tradeUntilStopped := by decide +kernel
theorem lcX4_tradeUntilStopped_min : Cond.code Lib.Math.min.name Lib.Math.min.code 2 (some .int) ∈ wsX4_tradeUntilStopped := by decide +kernel
theorem liX4_tradeUntilStopped : Cond.initialized "java/lang/Math" ∈ wsX4_tradeUntilStopped := by decide +kernel
theorem lsX4_tradeUntilStopped_min : Cond.static Lib.Math.min.name ∈ wsX4_tradeUntilStopped := by decide +kernel
set_option maxRecDepth 100000 in
set_option maxHeartbeats 4000000 in
theorem wX4_tradeUntilStopped_133 {p : Program} {l : Launch} {e : Env} {R : Room} {s : State} {m : MethodId} {args : Array Value} {below : List Frame} {meth : Method} {c : Code} {Q : State → Prop} {D : va_G} {cI cJ cZ : ClassId} {ad : Nat → Nat} {A : Nat → Prop} (C : Cx p s m args c cX4_tradeUntilStopped 6 wsX4_tradeUntilStopped RX4 D vwCl (tyl cI cJ cZ) (wH cI cJ cZ ad) A R 4 91) {r : (Int32 × SH)} (hR : Rz p l e R s m args below meth c cX4_tradeUntilStopped D vwCl (wH cI cJ cZ ad) A Q r) (N : Nat) (z0 : SH) {H : Heap} {locs : List Loc} {ls : Array Slot} (h : fX4_tradeUntilStopped_133 N z0 = some r) (hP : va_P D vwCl (wH cI cJ cZ ad z0) H) (hS : va_S A s.heap H locs) (hl : lv_has ls 6 []) : W p l e R s m args below meth c H locs 0 0 Q (F0 m 133 ls []) := by
  unfold fX4_tradeUntilStopped_133 at h
  have hx := C.1.1
  have hb := C.1.2.1
  refine lv_iconst (v := 0) hx hb dX4_tradeUntilStopped_133 (by decide) ?_
  exact hR 134 _ _ _ _ _ h dX4_tradeUntilStopped_134 hP hS
set_option maxRecDepth 100000 in
set_option maxHeartbeats 4000000 in
theorem wX4_tradeUntilStopped_60 {p : Program} {l : Launch} {e : Env} {R : Room} {s : State} {m : MethodId} {args : Array Value} {below : List Frame} {meth : Method} {c : Code} {Q : State → Prop} {D : va_G} {cI cJ cZ : ClassId} {ad : Nat → Nat} {A : Nat → Prop} (C : Cx p s m args c cX4_tradeUntilStopped 6 wsX4_tradeUntilStopped RX4 D vwCl (tyl cI cJ cZ) (wH cI cJ cZ ad) A R 4 91) {r : (Int32 × SH)} (hR : Rz p l e R s m args below meth c cX4_tradeUntilStopped D vwCl (wH cI cJ cZ ad) A Q r) (N : Nat) (z0 : SH) {H : Heap} {locs : List Loc} {ls : Array Slot} (h : fX4_tradeUntilStopped_60 N z0 = some r) (hP : va_P D vwCl (wH cI cJ cZ ad z0) H) (hS : va_S A s.heap H locs) (hl : lv_has ls 6 []) : W p l e R s m args below meth c H locs 0 0 Q (F0 m 60 ls []) := by
  unfold fX4_tradeUntilStopped_60 at h
  have hx := C.1.1
  have hb := C.1.2.1
  refine lv_iconst (v := 0) hx hb dX4_tradeUntilStopped_60 (by decide) ?_
  exact hR 61 _ _ _ _ _ h dX4_tradeUntilStopped_61 hP hS
set_option maxRecDepth 100000 in
set_option maxHeartbeats 4000000 in
theorem wX4_tradeUntilStopped_11 {p : Program} {l : Launch} {e : Env} {R : Room} {s : State} {m : MethodId} {args : Array Value} {below : List Frame} {meth : Method} {c : Code} {Q : State → Prop} {D : va_G} {cI cJ cZ : ClassId} {ad : Nat → Nat} {A : Nat → Prop} (C : Cx p s m args c cX4_tradeUntilStopped 6 wsX4_tradeUntilStopped RX4 D vwCl (tyl cI cJ cZ) (wH cI cJ cZ ad) A R 4 91) {r : (Int32 × SH)} (hR : Rz p l e R s m args below meth c cX4_tradeUntilStopped D vwCl (wH cI cJ cZ ad) A Q r) (N : Nat) (k11 : Int32 → Int32 → Int32 → SH → Option (Int32 × SH)) (K11 : ∀ (x1 : Int32) (x2 : Int32) (x3 : Int32) (z : SH) (H : Heap) (locs : List Loc) (ls : Array Slot), k11 x1 x2 x3 z = some r → va_P D vwCl (wH cI cJ cZ ad z) H → va_S A s.heap H locs → lv_has ls 6 [(0, .ref (ad 0)), (1, .int x1), (2, .int x2), (3, .int x3)] → W p l e R s m args below meth c H locs 0 0 Q (F0 m 11 ls [])) (x1 : Int32) (x2 : Int32) (x3 : Int32) (z0 : SH) {H : Heap} {locs : List Loc} {ls : Array Slot} (h : fX4_tradeUntilStopped_11 N k11 x1 x2 x3 z0 = some r) (hP : va_P D vwCl (wH cI cJ cZ ad z0) H) (hS : va_S A s.heap H locs) (hl : lv_has ls 6 [(0, .ref (ad 0)), (1, .int x1), (2, .int x2), (3, .int x3)]) : W p l e R s m args below meth c H locs 0 0 Q (F0 m 11 ls []) := by
  unfold fX4_tradeUntilStopped_11 at h
  have hx := C.1.1
  have hb := C.1.2.1
  refine lv_iload_n hx hb dX4_tradeUntilStopped_11 rfl (lv_at hl 3 rfl) ?_
  refine lv_sipush (v := 10000) hx hb dX4_tradeUntilStopped_12 (by decide) ?_
  refine lv_icmp_ge (tgt := 133) hx hb dX4_tradeUntilStopped_15 (by decide) (fun c1 => ?_) (fun c1 => ?_)
  · replace h := (ite_h h).1 c1
    exact wX4_tradeUntilStopped_133 C hR N z0 h hP hS (lv_sub hl [] rfl)
  · replace h := (ite_h h).2 c1
    refine lv_aload_n hx hb dX4_tradeUntilStopped_18 rfl (lv_at hl 0 rfl) ?_
    refine b_getr C hP iX4_tradeUntilStopped_X4 0 (wH_0 cI cJ cZ ad z0) rfl 1 (by decide) fX4_tradeUntilStopped_i19 rfl rfl dX4_tradeUntilStopped_19 ?_
    refine b_getr C hP iX4_tradeUntilStopped_X2 2 (wH_2 cI cJ cZ ad z0) rfl 6 (by decide) fX4_tradeUntilStopped_i126 rfl rfl dX4_tradeUntilStopped_22 ?_
    refine lv_iload_n hx hb dX4_tradeUntilStopped_25 rfl (lv_at hl 1 rfl) ?_
    refine b_iald C hP h 18 (wH_18 cI cJ cZ ad z0) 0 rfl dX4_tradeUntilStopped_26 (fun v1 h => ?_)
    refine lv_if_le (tgt := 133) hx hb dX4_tradeUntilStopped_27 (by decide) (fun c1 => ?_) (fun c1 => ?_)
    · replace h := (ite_h h).1 c1
      exact wX4_tradeUntilStopped_133 C hR N z0 h hP hS (lv_sub hl [] rfl)
    · replace h := (ite_h h).2 c1
      refine lv_aload_n hx hb dX4_tradeUntilStopped_30 rfl (lv_at hl 0 rfl) ?_
      refine b_getr C hP iX4_tradeUntilStopped_X4 0 (wH_0 cI cJ cZ ad z0) rfl 2 (by decide) fX4_tradeUntilStopped_i28 rfl rfl dX4_tradeUntilStopped_31 ?_
      refine lv_iload_n hx hb dX4_tradeUntilStopped_34 rfl (lv_at hl 2 rfl) ?_
      refine lv_iconst (v := 0) hx hb dX4_tradeUntilStopped_35 (by decide) ?_
      refine b_callVi (As := [.int x2, .int 0]) (rest := []) C hP hS h (mX0_orderAt l D cI cJ cZ ad x2 0 z0) (cwV 2 C.1.2.2.2.2 gX4_tradeUntilStopped_X0_orderAt rfl rfl rfl (by decide +kernel) ⟨Nat.le_trans (Nat.le_of_ble_eq_true rfl) C.2.2.2.2.1, Nat.le_trans (Nat.le_of_ble_eq_true rfl) C.2.2.2.2.2⟩) (va_recv C.2.1 hP (ci := 0) (q0 := 3) rfl (wH_3 cI cJ cZ ad z0)) rfl hl.1 rfl (Nat.le_of_ble_eq_true rfl) dX4_tradeUntilStopped_36 (fun v3 z2 _ _ h hP hS => ?_)
      refine lv_istore (lv' := [(4, .int v3), (0, .ref (ad 0)), (1, .int x1), (2, .int x2), (3, .int x3)]) hx hb dX4_tradeUntilStopped_39 hl (by decide) rfl (fun ls hl => ?_)
      refine lv_iload hx hb dX4_tradeUntilStopped_41 (lv_at hl 0 rfl) ?_
      refine lv_iconst (v := -1) hx hb dX4_tradeUntilStopped_43 (by decide) ?_
      refine lv_icmp_eq (tgt := 60) hx hb dX4_tradeUntilStopped_44 (by decide) (fun c1 => ?_) (fun c1 => ?_)
      · replace h := (ite_h h).1 c1
        exact wX4_tradeUntilStopped_60 C hR N z2 h hP hS (lv_sub hl [] rfl)
      · replace h := (ite_h h).2 c1
        refine lv_aload_n hx hb dX4_tradeUntilStopped_47 rfl (lv_at hl 1 rfl) ?_
        refine b_getr C hP iX4_tradeUntilStopped_X4 0 (wH_0 cI cJ cZ ad z2) rfl 1 (by decide) fX4_tradeUntilStopped_i19 rfl rfl dX4_tradeUntilStopped_48 ?_
        refine lv_iload_n hx hb dX4_tradeUntilStopped_51 rfl (lv_at hl 2 rfl) ?_
        refine lv_iload hx hb dX4_tradeUntilStopped_52 (lv_at hl 0 rfl) ?_
        refine b_callVi (As := [.int x1, .int v3]) (rest := []) C hP hS h (mX2_pricesAllow l D cI cJ cZ ad x1 v3 z2) (cwV 2 C.1.2.2.2.2 gX4_tradeUntilStopped_X2_pricesAllow rfl rfl rfl (by decide +kernel) ⟨Nat.le_trans (Nat.le_of_ble_eq_true rfl) C.2.2.2.2.1, Nat.le_trans (Nat.le_of_ble_eq_true rfl) C.2.2.2.2.2⟩) (va_recv C.2.1 hP (ci := 2) (q0 := 2) rfl (wH_2 cI cJ cZ ad z2)) rfl hl.1 rfl (Nat.le_of_ble_eq_true rfl) dX4_tradeUntilStopped_54 (fun v5 z4 _ _ h hP hS => ?_)
        refine lv_if_ne (tgt := 62) hx hb dX4_tradeUntilStopped_57 (by decide) (fun c1 => ?_) (fun c1 => ?_)
        · replace h := (ite_h h).2 c1
          refine lv_aload_n hx hb dX4_tradeUntilStopped_62 rfl (lv_at hl 1 rfl) ?_
          refine b_getr C hP iX4_tradeUntilStopped_X4 0 (wH_0 cI cJ cZ ad z4) rfl 1 (by decide) fX4_tradeUntilStopped_i19 rfl rfl dX4_tradeUntilStopped_63 ?_
          refine b_getr C hP iX4_tradeUntilStopped_X2 2 (wH_2 cI cJ cZ ad z4) rfl 0 (by decide) fX4_tradeUntilStopped_i198 rfl rfl dX4_tradeUntilStopped_66 ?_
          refine lv_iload hx hb dX4_tradeUntilStopped_69 (lv_at hl 0 rfl) ?_
          refine b_iald C hP h 12 (wH_12 cI cJ cZ ad z4) 0 rfl dX4_tradeUntilStopped_71 (fun v6 h => ?_)
          refine lv_aload_n hx hb dX4_tradeUntilStopped_72 rfl (lv_at hl 1 rfl) ?_
          refine b_getr C hP iX4_tradeUntilStopped_X4 0 (wH_0 cI cJ cZ ad z4) rfl 1 (by decide) fX4_tradeUntilStopped_i19 rfl rfl dX4_tradeUntilStopped_73 ?_
          refine b_getr C hP iX4_tradeUntilStopped_X2 2 (wH_2 cI cJ cZ ad z4) rfl 0 (by decide) fX4_tradeUntilStopped_i198 rfl rfl dX4_tradeUntilStopped_76 ?_
          refine lv_iload_n hx hb dX4_tradeUntilStopped_79 rfl (lv_at hl 2 rfl) ?_
          refine b_iald C hP h 12 (wH_12 cI cJ cZ ad z4) 0 rfl dX4_tradeUntilStopped_80 (fun v7 h => ?_)
          refine lv_icmp_ne (tgt := 86) hx hb dX4_tradeUntilStopped_81 (by decide) (fun c1 => ?_) (fun c1 => ?_)
          · replace h := (ite_h h).2 c1
            refine lv_aload_n hx hb dX4_tradeUntilStopped_86 rfl (lv_at hl 1 rfl) ?_
            refine b_getr C hP iX4_tradeUntilStopped_X4 0 (wH_0 cI cJ cZ ad z4) rfl 1 (by decide) fX4_tradeUntilStopped_i19 rfl rfl dX4_tradeUntilStopped_87 ?_
            refine b_getr C hP iX4_tradeUntilStopped_X2 2 (wH_2 cI cJ cZ ad z4) rfl 6 (by decide) fX4_tradeUntilStopped_i126 rfl rfl dX4_tradeUntilStopped_90 ?_
            refine lv_iload_n hx hb dX4_tradeUntilStopped_93 rfl (lv_at hl 2 rfl) ?_
            refine b_iald C hP h 18 (wH_18 cI cJ cZ ad z4) 0 rfl dX4_tradeUntilStopped_94 (fun v8 h => ?_)
            refine lv_aload_n hx hb dX4_tradeUntilStopped_95 rfl (lv_at hl 1 rfl) ?_
            refine b_getr C hP iX4_tradeUntilStopped_X4 0 (wH_0 cI cJ cZ ad z4) rfl 1 (by decide) fX4_tradeUntilStopped_i19 rfl rfl dX4_tradeUntilStopped_96 ?_
            refine b_getr C hP iX4_tradeUntilStopped_X2 2 (wH_2 cI cJ cZ ad z4) rfl 7 (by decide) fX4_tradeUntilStopped_i139 rfl rfl dX4_tradeUntilStopped_99 ?_
            refine lv_iload hx hb dX4_tradeUntilStopped_102 (lv_at hl 0 rfl) ?_
            refine b_iald C hP h 19 (wH_19 cI cJ cZ ad z4) 0 rfl dX4_tradeUntilStopped_104 (fun v9 h => ?_)
            refine va_mmin hx hb (C.1.2.2.1.trans hl.1.symm) C.1.2.2.2.1 (C.1.2.2.2.2 _ lX4_tradeUntilStopped_142) (C.1.2.2.2.2 _ lsX4_tradeUntilStopped_min) (C.1.2.2.2.2 _ liX4_tradeUntilStopped) (C.1.2.2.2.2 _ lcX4_tradeUntilStopped_min) (Nat.le_trans (Nat.le_of_ble_eq_true rfl) C.2.2.2.2.1) (Nat.le_trans (Nat.le_of_ble_eq_true rfl) C.2.2.2.2.2) (Nat.zero_le _) (Nat.zero_le _) dX4_tradeUntilStopped_105 ?_
            refine lv_istore (lv' := [(5, .int (if v9 < v8 then v9 else v8)), (4, .int v3), (0, .ref (ad 0)), (1, .int x1), (2, .int x2), (3, .int x3)]) hx hb dX4_tradeUntilStopped_108 hl (by decide) rfl (fun ls hl => ?_)
            refine lv_aload_n hx hb dX4_tradeUntilStopped_110 rfl (lv_at hl 2 rfl) ?_
            refine lv_iload_n hx hb dX4_tradeUntilStopped_111 rfl (lv_at hl 3 rfl) ?_
            refine lv_iload hx hb dX4_tradeUntilStopped_112 (lv_at hl 1 rfl) ?_
            refine lv_iload hx hb dX4_tradeUntilStopped_114 (lv_at hl 0 rfl) ?_
            refine b_callVv (As := [.int x1, .int v3, .int (if v9 < v8 then v9 else v8)]) (rest := []) C hP hS h (mX4_makeTrade l D cI cJ cZ ad x1 v3 (if v9 < v8 then v9 else v8) z4) (cwV 3 C.1.2.2.2.2 gX4_tradeUntilStopped_X4_makeTrade rfl rfl rfl (by decide +kernel) ⟨Nat.le_trans (Nat.le_of_ble_eq_true rfl) C.2.2.2.2.1, Nat.le_trans (Nat.le_of_ble_eq_true rfl) C.2.2.2.2.2⟩) (va_recv C.2.1 hP (ci := 4) (q0 := 0) rfl (wH_0 cI cJ cZ ad z4)) rfl hl.1 rfl (Nat.le_of_ble_eq_true rfl) dX4_tradeUntilStopped_116 (fun _ z10 _ _ h hP hS => ?_)
            refine lv_aload_n hx hb dX4_tradeUntilStopped_119 rfl (lv_at hl 2 rfl) ?_
            refine lv_iload hx hb dX4_tradeUntilStopped_120 (lv_at hl 1 rfl) ?_
            refine lv_iload hx hb dX4_tradeUntilStopped_122 (lv_at hl 0 rfl) ?_
            refine b_callVv (As := [.int v3, .int (if v9 < v8 then v9 else v8)]) (rest := []) C hP hS h (mX4_showLess l D cI cJ cZ ad N v3 (if v9 < v8 then v9 else v8) z10) (cwV 2 C.1.2.2.2.2 gX4_tradeUntilStopped_X4_showLess rfl rfl rfl (by decide +kernel) ⟨Nat.le_trans (Nat.le_of_ble_eq_true rfl) C.2.2.2.2.1, Nat.le_trans (Nat.le_of_ble_eq_true rfl) C.2.2.2.2.2⟩) (va_recv C.2.1 hP (ci := 4) (q0 := 0) rfl (wH_0 cI cJ cZ ad z10)) rfl hl.1 rfl (Nat.le_of_ble_eq_true rfl) dX4_tradeUntilStopped_124 (fun _ z11 _ _ h hP hS => ?_)
            refine lv_iinc (v := x3 + 1) (lv' := [(3, .int (x3 + 1)), (5, .int (if v9 < v8 then v9 else v8)), (4, .int v3), (0, .ref (ad 0)), (1, .int x1), (2, .int x2)]) hx hb dX4_tradeUntilStopped_127 hl (k := 5) rfl rfl (by decide) rfl (fun ls hl => ?_)
            refine lv_goto (tgt := 11) hx hb dX4_tradeUntilStopped_130 (by decide) ?_
            exact K11 x1 x2 (x3 + 1) z11 _ _ _ h hP hS (lv_sub hl [3, 4, 5, 0] rfl)
          · replace h := (ite_h h).1 c1
            refine lv_iconst (v := 1) hx hb dX4_tradeUntilStopped_84 (by decide) ?_
            exact hR 85 _ _ _ _ _ h dX4_tradeUntilStopped_85 hP hS
        · replace h := (ite_h h).1 c1
          exact wX4_tradeUntilStopped_60 C hR N z4 h hP hS (lv_sub hl [] rfl)
theorem wX4_tradeUntilStopped_11_L {p : Program} {l : Launch} {e : Env} {R : Room} {s : State} {m : MethodId} {args : Array Value} {below : List Frame} {meth : Method} {c : Code} {Q : State → Prop} {D : va_G} {cI cJ cZ : ClassId} {ad : Nat → Nat} {A : Nat → Prop} (C : Cx p s m args c cX4_tradeUntilStopped 6 wsX4_tradeUntilStopped RX4 D vwCl (tyl cI cJ cZ) (wH cI cJ cZ ad) A R 4 91) {r : (Int32 × SH)} (hR : Rz p l e R s m args below meth c cX4_tradeUntilStopped D vwCl (wH cI cJ cZ ad) A Q r) (N : Nat) : ∀ (n : Nat), ∀ (x1 : Int32) (x2 : Int32) (x3 : Int32) (z : SH) (H : Heap) (locs : List Loc) (ls : Array Slot), fX4_tradeUntilStopped_11_L N n x1 x2 x3 z = some r → va_P D vwCl (wH cI cJ cZ ad z) H → va_S A s.heap H locs → lv_has ls 6 [(0, .ref (ad 0)), (1, .int x1), (2, .int x2), (3, .int x3)] → W p l e R s m args below meth c H locs 0 0 Q (F0 m 11 ls []) := by
  intro n
  induction n with
  | zero => intro x1 x2 x3 z H locs ls h; exact nomatch (show (none : Option (Int32 × SH)) = some r from h)
  | succ n ih => intro x1 x2 x3 z H locs ls h hP hS hl; exact wX4_tradeUntilStopped_11 C hR N (fX4_tradeUntilStopped_11_L N n) ih x1 x2 x3 z (show fX4_tradeUntilStopped_11 N (fX4_tradeUntilStopped_11_L N n) x1 x2 x3 z = some r from h) hP hS hl
set_option maxRecDepth 100000 in
set_option maxHeartbeats 4000000 in
theorem wX4_tradeUntilStopped {p : Program} {l : Launch} {e : Env} {R : Room} {s : State} {m : MethodId} {args : Array Value} {below : List Frame} {meth : Method} {c : Code} {Q : State → Prop} {D : va_G} {cI cJ cZ : ClassId} {ad : Nat → Nat} {A : Nat → Prop} (C : Cx p s m args c cX4_tradeUntilStopped 6 wsX4_tradeUntilStopped RX4 D vwCl (tyl cI cJ cZ) (wH cI cJ cZ ad) A R 4 91) {r : (Int32 × SH)} (hR : Rz p l e R s m args below meth c cX4_tradeUntilStopped D vwCl (wH cI cJ cZ ad) A Q r) (N : Nat) (a1 : Int32) (z0 : SH) {H : Heap} {locs : List Loc} {ls : Array Slot} (h : fX4_tradeUntilStopped N a1 z0 = some r) (hP : va_P D vwCl (wH cI cJ cZ ad z0) H) (hS : va_S A s.heap H locs) (hl : lv_has ls 6 [(0, .ref (ad 0)), (1, .int a1)]) : W p l e R s m args below meth c H locs 0 0 Q (F0 m 0 ls []) := by
  unfold fX4_tradeUntilStopped at h
  have hx := C.1.1
  have hb := C.1.2.1
  refine lv_aload_n hx hb dX4_tradeUntilStopped_0 rfl (lv_at hl 0 rfl) ?_
  refine b_getr C hP iX4_tradeUntilStopped_X4 0 (wH_0 cI cJ cZ ad z0) rfl 2 (by decide) fX4_tradeUntilStopped_i28 rfl rfl dX4_tradeUntilStopped_1 ?_
  refine lv_iload_n hx hb dX4_tradeUntilStopped_4 rfl (lv_at hl 1 rfl) ?_
  refine b_callVi (As := [.int a1]) (rest := []) C hP hS h (mX0_facing l D cI cJ cZ ad a1 z0) (cwV 1 C.1.2.2.2.2 gX4_tradeUntilStopped_X0_facing rfl rfl rfl (by decide +kernel) ⟨Nat.le_trans (Nat.le_of_ble_eq_true rfl) C.2.2.2.2.1, Nat.le_trans (Nat.le_of_ble_eq_true rfl) C.2.2.2.2.2⟩) (va_recv C.2.1 hP (ci := 0) (q0 := 3) rfl (wH_3 cI cJ cZ ad z0)) rfl hl.1 rfl (Nat.le_of_ble_eq_true rfl) dX4_tradeUntilStopped_5 (fun v2 z1 _ _ h hP hS => ?_)
  refine lv_istore_n (lv' := [(2, .int v2), (0, .ref (ad 0)), (1, .int a1)]) hx hb dX4_tradeUntilStopped_8 rfl hl (by decide) rfl (fun ls hl => ?_)
  refine lv_iconst (v := 0) hx hb dX4_tradeUntilStopped_9 (by decide) ?_
  refine lv_istore_n (lv' := [(3, .int 0), (2, .int v2), (0, .ref (ad 0)), (1, .int a1)]) hx hb dX4_tradeUntilStopped_10 rfl hl (by decide) rfl (fun ls hl => ?_)
  exact wX4_tradeUntilStopped_11_L C hR N N a1 v2 0 z1 _ _ _ h hP hS (lv_sub hl [2, 3, 1, 0] rfl)
theorem mX4_tradeUntilStopped (l : Launch) (D : va_G) (cI cJ cZ : ClassId) (ad : Nat → Nat) (N : Nat) (a1 : Int32) (z0 : SH) : ∀ (q : (Int32 × SH)) (sz : Nat), fX4_tradeUntilStopped N a1 z0 = some q → Met l yX4_tradeUntilStopped wsX4_tradeUntilStopped rmX4_tradeUntilStopped (cP D vwCl (tyl cI cJ cZ) (wH cI cJ cZ ad z0) sz [.ref (ad 0), .int a1]) (cQi D vwCl (wH cI cJ cZ ad) z0 sz q) 0 0 (va_A (wH cI cJ cZ ad z0) sz) := by
  intro q sz h
  refine ofW_z (cc := cX4_tradeUntilStopped) (maxL := 6) (by decide) rfl (wH_same cI cJ cZ ad) (Nat.le_of_ble_eq_true rfl) (fun p e s m below meth c ls hsz C hR hP hl => ?_)
  exact wX4_tradeUntilStopped C hR N a1 z0 h hP va_S.rf hl
abbrev rmX4_wouldTradeWholly : Room := { frames := 2, cells := 0, slots := 0, locals := 42 }
theorem fX4_wouldTradeWholly_i126 : Cond.fieldLink RX4 126 (TX2 6).1 (TX2 6).2.1 (TX2 6).2.2.1 ∈ wsX4_wouldTradeWholly := by decide +kernel
theorem fX4_wouldTradeWholly_i139 : Cond.fieldLink RX4 139 (TX2 7).1 (TX2 7).2.1 (TX2 7).2.2.1 ∈ wsX4_wouldTradeWholly := by decide +kernel
theorem fX4_wouldTradeWholly_i169 : Cond.fieldLink RX4 169 (TX2 4).1 (TX2 4).2.1 (TX2 4).2.2.1 ∈ wsX4_wouldTradeWholly := by decide +kernel
theorem fX4_wouldTradeWholly_i19 : Cond.fieldLink RX4 19 (TX4 1).1 (TX4 1).2.1 (TX4 1).2.2.1 ∈ wsX4_wouldTradeWholly := by decide +kernel
theorem fX4_wouldTradeWholly_i198 : Cond.fieldLink RX4 198 (TX2 0).1 (TX2 0).2.1 (TX2 0).2.2.1 ∈ wsX4_wouldTradeWholly := by decide +kernel
theorem fX4_wouldTradeWholly_i28 : Cond.fieldLink RX4 28 (TX4 2).1 (TX4 2).2.1 (TX4 2).2.2.1 ∈ wsX4_wouldTradeWholly := by decide +kernel
theorem fX4_wouldTradeWholly_i319 : Cond.fieldLink RX4 319 (TX0 2).1 (TX0 2).2.1 (TX0 2).2.2.1 ∈ wsX4_wouldTradeWholly := by decide +kernel
theorem iX4_wouldTradeWholly_X0 : ∀ x ∈ wsX00, x ∈ wsX4_wouldTradeWholly := by decide +kernel
theorem iX4_wouldTradeWholly_X2 : ∀ x ∈ wsX20, x ∈ wsX4_wouldTradeWholly := by decide +kernel
theorem iX4_wouldTradeWholly_X4 : ∀ x ∈ wsX40, x ∈ wsX4_wouldTradeWholly := by decide +kernel
set_option maxRecDepth 100000 in
set_option maxHeartbeats 4000000 in
theorem wX4_wouldTradeWholly_210 {p : Program} {l : Launch} {e : Env} {R : Room} {s : State} {m : MethodId} {args : Array Value} {below : List Frame} {meth : Method} {c : Code} {Q : State → Prop} {D : va_G} {cI cJ cZ : ClassId} {ad : Nat → Nat} {A : Nat → Prop} (C : Cx p s m args c cX4_wouldTradeWholly 9 wsX4_wouldTradeWholly RX4 D vwCl (tyl cI cJ cZ) (wH cI cJ cZ ad) A R 2 42) {r : (Int32 × SH)} (hR : Rz p l e R s m args below meth c cX4_wouldTradeWholly D vwCl (wH cI cJ cZ ad) A Q r) (N : Nat) (t0 : Int32) (z0 : SH) {H : Heap} {locs : List Loc} {ls : Array Slot} (h : fX4_wouldTradeWholly_210 N t0 z0 = some r) (hP : va_P D vwCl (wH cI cJ cZ ad z0) H) (hS : va_S A s.heap H locs) (hl : lv_has ls 9 []) : W p l e R s m args below meth c H locs 0 0 Q (F0 m 210 ls [.int t0]) := by
  unfold fX4_wouldTradeWholly_210 at h
  have hx := C.1.1
  have hb := C.1.2.1
  exact hR 210 _ _ _ _ _ h dX4_wouldTradeWholly_210 hP hS
set_option maxRecDepth 100000 in
set_option maxHeartbeats 4000000 in
theorem wX4_wouldTradeWholly_189 {p : Program} {l : Launch} {e : Env} {R : Room} {s : State} {m : MethodId} {args : Array Value} {below : List Frame} {meth : Method} {c : Code} {Q : State → Prop} {D : va_G} {cI cJ cZ : ClassId} {ad : Nat → Nat} {A : Nat → Prop} (C : Cx p s m args c cX4_wouldTradeWholly 9 wsX4_wouldTradeWholly RX4 D vwCl (tyl cI cJ cZ) (wH cI cJ cZ ad) A R 2 42) {r : (Int32 × SH)} (hR : Rz p l e R s m args below meth c cX4_wouldTradeWholly D vwCl (wH cI cJ cZ ad) A Q r) (N : Nat) (x1 : Int32) (x3 : Int32) (x4 : Int32) (z0 : SH) {H : Heap} {locs : List Loc} {ls : Array Slot} (h : fX4_wouldTradeWholly_189 N x1 x3 x4 z0 = some r) (hP : va_P D vwCl (wH cI cJ cZ ad z0) H) (hS : va_S A s.heap H locs) (hl : lv_has ls 9 [(0, .ref (ad 0)), (1, .int x1), (3, .int x3), (4, .int x4)]) : W p l e R s m args below meth c H locs 0 0 Q (F0 m 189 ls []) := by
  unfold fX4_wouldTradeWholly_189 at h
  have hx := C.1.1
  have hb := C.1.2.1
  refine lv_iload_n hx hb dX4_wouldTradeWholly_189 rfl (lv_at hl 2 rfl) ?_
  refine lv_iload hx hb dX4_wouldTradeWholly_190 (lv_at hl 3 rfl) ?_
  refine lv_iadd hx hb dX4_wouldTradeWholly_192 ?_
  refine lv_aload_n hx hb dX4_wouldTradeWholly_193 rfl (lv_at hl 0 rfl) ?_
  refine b_getr C hP iX4_wouldTradeWholly_X4 0 (wH_0 cI cJ cZ ad z0) rfl 1 (by decide) fX4_wouldTradeWholly_i19 rfl rfl dX4_wouldTradeWholly_194 ?_
  refine b_getr C hP iX4_wouldTradeWholly_X2 2 (wH_2 cI cJ cZ ad z0) rfl 6 (by decide) fX4_wouldTradeWholly_i126 rfl rfl dX4_wouldTradeWholly_197 ?_
  refine lv_iload_n hx hb dX4_wouldTradeWholly_200 rfl (lv_at hl 1 rfl) ?_
  refine b_iald C hP h 18 (wH_18 cI cJ cZ ad z0) 0 rfl dX4_wouldTradeWholly_201 (fun v1 h => ?_)
  refine lv_icmp_lt (tgt := 209) hx hb dX4_wouldTradeWholly_202 (by decide) (fun c1 => ?_) (fun c1 => ?_)
  · replace h := (ite_h h).1 c1
    refine lv_iconst (v := 0) hx hb dX4_wouldTradeWholly_209 (by decide) ?_
    exact wX4_wouldTradeWholly_210 C hR N 0 z0 h hP hS (lv_sub hl [] rfl)
  · replace h := (ite_h h).2 c1
    refine lv_iconst (v := 1) hx hb dX4_wouldTradeWholly_205 (by decide) ?_
    refine lv_goto (tgt := 210) hx hb dX4_wouldTradeWholly_206 (by decide) ?_
    exact wX4_wouldTradeWholly_210 C hR N 1 z0 h hP hS (lv_sub hl [] rfl)
set_option maxRecDepth 100000 in
set_option maxHeartbeats 4000000 in
theorem wX4_wouldTradeWholly_152 {p : Program} {l : Launch} {e : Env} {R : Room} {s : State} {m : MethodId} {args : Array Value} {below : List Frame} {meth : Method} {c : Code} {Q : State → Prop} {D : va_G} {cI cJ cZ : ClassId} {ad : Nat → Nat} {A : Nat → Prop} (C : Cx p s m args c cX4_wouldTradeWholly 9 wsX4_wouldTradeWholly RX4 D vwCl (tyl cI cJ cZ) (wH cI cJ cZ ad) A R 2 42) {r : (Int32 × SH)} (hR : Rz p l e R s m args below meth c cX4_wouldTradeWholly D vwCl (wH cI cJ cZ ad) A Q r) (N : Nat) (t0 : Int32) (z0 : SH) {H : Heap} {locs : List Loc} {ls : Array Slot} (h : fX4_wouldTradeWholly_152 N t0 z0 = some r) (hP : va_P D vwCl (wH cI cJ cZ ad z0) H) (hS : va_S A s.heap H locs) (hl : lv_has ls 9 []) : W p l e R s m args below meth c H locs 0 0 Q (F0 m 152 ls [.int t0]) := by
  unfold fX4_wouldTradeWholly_152 at h
  have hx := C.1.1
  have hb := C.1.2.1
  exact hR 152 _ _ _ _ _ h dX4_wouldTradeWholly_152 hP hS
set_option maxRecDepth 100000 in
set_option maxHeartbeats 4000000 in
theorem wX4_wouldTradeWholly_109 {p : Program} {l : Launch} {e : Env} {R : Room} {s : State} {m : MethodId} {args : Array Value} {below : List Frame} {meth : Method} {c : Code} {Q : State → Prop} {D : va_G} {cI cJ cZ : ClassId} {ad : Nat → Nat} {A : Nat → Prop} (C : Cx p s m args c cX4_wouldTradeWholly 9 wsX4_wouldTradeWholly RX4 D vwCl (tyl cI cJ cZ) (wH cI cJ cZ ad) A R 2 42) {r : (Int32 × SH)} (hR : Rz p l e R s m args below meth c cX4_wouldTradeWholly D vwCl (wH cI cJ cZ ad) A Q r) (N : Nat) (k23 : Int32 → Int32 → Int32 → Int32 → Int32 → Int32 → Int32 → SH → Option (Int32 × SH)) (K23 : ∀ (x1 : Int32) (x2 : Int32) (x3 : Int32) (x4 : Int32) (x5 : Int32) (x6 : Int32) (x7 : Int32) (z : SH) (H : Heap) (locs : List Loc) (ls : Array Slot), k23 x1 x2 x3 x4 x5 x6 x7 z = some r → va_P D vwCl (wH cI cJ cZ ad z) H → va_S A s.heap H locs → lv_has ls 9 [(0, .ref (ad 0)), (1, .int x1), (2, .int x2), (3, .int x3), (4, .int x4), (5, .int x5), (6, .int x6), (7, .int x7)] → W p l e R s m args below meth c H locs 0 0 Q (F0 m 23 ls [])) (x1 : Int32) (x2 : Int32) (x3 : Int32) (x4 : Int32) (x5 : Int32) (x6 : Int32) (x7 : Int32) (x8 : Int32) (z0 : SH) {H : Heap} {locs : List Loc} {ls : Array Slot} (h : fX4_wouldTradeWholly_109 N k23 x1 x2 x3 x4 x5 x6 x7 x8 z0 = some r) (hP : va_P D vwCl (wH cI cJ cZ ad z0) H) (hS : va_S A s.heap H locs) (hl : lv_has ls 9 [(0, .ref (ad 0)), (1, .int x1), (2, .int x2), (3, .int x3), (4, .int x4), (5, .int x5), (6, .int x6), (7, .int x7), (8, .int x8)]) : W p l e R s m args below meth c H locs 0 0 Q (F0 m 109 ls []) := by
  unfold fX4_wouldTradeWholly_109 at h
  have hx := C.1.1
  have hb := C.1.2.1
  refine lv_aload_n hx hb dX4_wouldTradeWholly_109 rfl (lv_at hl 0 rfl) ?_
  refine b_getr C hP iX4_wouldTradeWholly_X4 0 (wH_0 cI cJ cZ ad z0) rfl 1 (by decide) fX4_wouldTradeWholly_i19 rfl rfl dX4_wouldTradeWholly_110 ?_
  refine b_getr C hP iX4_wouldTradeWholly_X2 2 (wH_2 cI cJ cZ ad z0) rfl 0 (by decide) fX4_wouldTradeWholly_i198 rfl rfl dX4_wouldTradeWholly_113 ?_
  refine lv_iload hx hb dX4_wouldTradeWholly_116 (lv_at hl 8 rfl) ?_
  refine b_iald C hP h 12 (wH_12 cI cJ cZ ad z0) 0 rfl dX4_wouldTradeWholly_118 (fun v1 h => ?_)
  refine lv_aload_n hx hb dX4_wouldTradeWholly_119 rfl (lv_at hl 0 rfl) ?_
  refine b_getr C hP iX4_wouldTradeWholly_X4 0 (wH_0 cI cJ cZ ad z0) rfl 1 (by decide) fX4_wouldTradeWholly_i19 rfl rfl dX4_wouldTradeWholly_120 ?_
  refine b_getr C hP iX4_wouldTradeWholly_X2 2 (wH_2 cI cJ cZ ad z0) rfl 0 (by decide) fX4_wouldTradeWholly_i198 rfl rfl dX4_wouldTradeWholly_123 ?_
  refine lv_iload_n hx hb dX4_wouldTradeWholly_126 rfl (lv_at hl 1 rfl) ?_
  refine b_iald C hP h 12 (wH_12 cI cJ cZ ad z0) 0 rfl dX4_wouldTradeWholly_127 (fun v2 h => ?_)
  refine lv_icmp_ne (tgt := 153) hx hb dX4_wouldTradeWholly_128 (by decide) (fun c1 => ?_) (fun c1 => ?_)
  · replace h := (ite_h h).2 c1
    refine lv_iload hx hb dX4_wouldTradeWholly_153 (lv_at hl 4 rfl) ?_
    refine lv_aload_n hx hb dX4_wouldTradeWholly_155 rfl (lv_at hl 0 rfl) ?_
    refine b_getr C hP iX4_wouldTradeWholly_X4 0 (wH_0 cI cJ cZ ad z0) rfl 1 (by decide) fX4_wouldTradeWholly_i19 rfl rfl dX4_wouldTradeWholly_156 ?_
    refine b_getr C hP iX4_wouldTradeWholly_X2 2 (wH_2 cI cJ cZ ad z0) rfl 6 (by decide) fX4_wouldTradeWholly_i126 rfl rfl dX4_wouldTradeWholly_159 ?_
    refine lv_iload hx hb dX4_wouldTradeWholly_162 (lv_at hl 8 rfl) ?_
    refine b_iald C hP h 18 (wH_18 cI cJ cZ ad z0) 0 rfl dX4_wouldTradeWholly_164 (fun v3 h => ?_)
    refine lv_iadd hx hb dX4_wouldTradeWholly_165 ?_
    refine lv_istore (lv' := [(4, .int (x4 + v3)), (0, .ref (ad 0)), (1, .int x1), (2, .int x2), (3, .int x3), (5, .int x5), (6, .int x6), (7, .int x7), (8, .int x8)]) hx hb dX4_wouldTradeWholly_166 hl (by decide) rfl (fun ls hl => ?_)
    refine lv_iload hx hb dX4_wouldTradeWholly_168 (lv_at hl 5 rfl) ?_
    refine lv_aload_n hx hb dX4_wouldTradeWholly_170 rfl (lv_at hl 1 rfl) ?_
    refine b_getr C hP iX4_wouldTradeWholly_X4 0 (wH_0 cI cJ cZ ad z0) rfl 1 (by decide) fX4_wouldTradeWholly_i19 rfl rfl dX4_wouldTradeWholly_171 ?_
    refine b_getr C hP iX4_wouldTradeWholly_X2 2 (wH_2 cI cJ cZ ad z0) rfl 7 (by decide) fX4_wouldTradeWholly_i139 rfl rfl dX4_wouldTradeWholly_174 ?_
    refine lv_iload hx hb dX4_wouldTradeWholly_177 (lv_at hl 8 rfl) ?_
    refine b_iald C hP h 19 (wH_19 cI cJ cZ ad z0) 0 rfl dX4_wouldTradeWholly_179 (fun v4 h => ?_)
    refine lv_iadd hx hb dX4_wouldTradeWholly_180 ?_
    refine lv_istore (lv' := [(5, .int (x5 + v4)), (4, .int (x4 + v3)), (0, .ref (ad 0)), (1, .int x1), (2, .int x2), (3, .int x3), (6, .int x6), (7, .int x7), (8, .int x8)]) hx hb dX4_wouldTradeWholly_181 hl (by decide) rfl (fun ls hl => ?_)
    refine lv_iinc (v := x7 + 1) (lv' := [(7, .int (x7 + 1)), (5, .int (x5 + v4)), (4, .int (x4 + v3)), (0, .ref (ad 0)), (1, .int x1), (2, .int x2), (3, .int x3), (6, .int x6), (8, .int x8)]) hx hb dX4_wouldTradeWholly_183 hl (k := 7) rfl rfl (by decide) rfl (fun ls hl => ?_)
    refine lv_goto (tgt := 23) hx hb dX4_wouldTradeWholly_186 (by decide) ?_
    exact K23 x1 x2 x3 (x4 + v3) (x5 + v4) x6 (x7 + 1) z0 _ _ _ h hP hS (lv_sub hl [3, 4, 5, 6, 2, 1, 7, 0] rfl)
  · replace h := (ite_h h).1 c1
    refine lv_iload_n hx hb dX4_wouldTradeWholly_131 rfl (lv_at hl 3 rfl) ?_
    refine lv_iload hx hb dX4_wouldTradeWholly_132 (lv_at hl 5 rfl) ?_
    refine lv_iadd hx hb dX4_wouldTradeWholly_134 ?_
    refine lv_aload_n hx hb dX4_wouldTradeWholly_135 rfl (lv_at hl 0 rfl) ?_
    refine b_getr C hP iX4_wouldTradeWholly_X4 0 (wH_0 cI cJ cZ ad z0) rfl 1 (by decide) fX4_wouldTradeWholly_i19 rfl rfl dX4_wouldTradeWholly_136 ?_
    refine b_getr C hP iX4_wouldTradeWholly_X2 2 (wH_2 cI cJ cZ ad z0) rfl 6 (by decide) fX4_wouldTradeWholly_i126 rfl rfl dX4_wouldTradeWholly_139 ?_
    refine lv_iload_n hx hb dX4_wouldTradeWholly_142 rfl (lv_at hl 1 rfl) ?_
    refine b_iald C hP h 18 (wH_18 cI cJ cZ ad z0) 0 rfl dX4_wouldTradeWholly_143 (fun v5 h => ?_)
    refine lv_icmp_lt (tgt := 151) hx hb dX4_wouldTradeWholly_144 (by decide) (fun c1 => ?_) (fun c1 => ?_)
    · replace h := (ite_h h).1 c1
      refine lv_iconst (v := 0) hx hb dX4_wouldTradeWholly_151 (by decide) ?_
      exact wX4_wouldTradeWholly_152 C hR N 0 z0 h hP hS (lv_sub hl [] rfl)
    · replace h := (ite_h h).2 c1
      refine lv_iconst (v := 1) hx hb dX4_wouldTradeWholly_147 (by decide) ?_
      refine lv_goto (tgt := 152) hx hb dX4_wouldTradeWholly_148 (by decide) ?_
      exact wX4_wouldTradeWholly_152 C hR N 1 z0 h hP hS (lv_sub hl [] rfl)
set_option maxRecDepth 100000 in
set_option maxHeartbeats 4000000 in
theorem wX4_wouldTradeWholly_23 {p : Program} {l : Launch} {e : Env} {R : Room} {s : State} {m : MethodId} {args : Array Value} {below : List Frame} {meth : Method} {c : Code} {Q : State → Prop} {D : va_G} {cI cJ cZ : ClassId} {ad : Nat → Nat} {A : Nat → Prop} (C : Cx p s m args c cX4_wouldTradeWholly 9 wsX4_wouldTradeWholly RX4 D vwCl (tyl cI cJ cZ) (wH cI cJ cZ ad) A R 2 42) {r : (Int32 × SH)} (hR : Rz p l e R s m args below meth c cX4_wouldTradeWholly D vwCl (wH cI cJ cZ ad) A Q r) (N : Nat) (k23 : Int32 → Int32 → Int32 → Int32 → Int32 → Int32 → Int32 → SH → Option (Int32 × SH)) (K23 : ∀ (x1 : Int32) (x2 : Int32) (x3 : Int32) (x4 : Int32) (x5 : Int32) (x6 : Int32) (x7 : Int32) (z : SH) (H : Heap) (locs : List Loc) (ls : Array Slot), k23 x1 x2 x3 x4 x5 x6 x7 z = some r → va_P D vwCl (wH cI cJ cZ ad z) H → va_S A s.heap H locs → lv_has ls 9 [(0, .ref (ad 0)), (1, .int x1), (2, .int x2), (3, .int x3), (4, .int x4), (5, .int x5), (6, .int x6), (7, .int x7)] → W p l e R s m args below meth c H locs 0 0 Q (F0 m 23 ls [])) (x1 : Int32) (x2 : Int32) (x3 : Int32) (x4 : Int32) (x5 : Int32) (x6 : Int32) (x7 : Int32) (z0 : SH) {H : Heap} {locs : List Loc} {ls : Array Slot} (h : fX4_wouldTradeWholly_23 N k23 x1 x2 x3 x4 x5 x6 x7 z0 = some r) (hP : va_P D vwCl (wH cI cJ cZ ad z0) H) (hS : va_S A s.heap H locs) (hl : lv_has ls 9 [(0, .ref (ad 0)), (1, .int x1), (2, .int x2), (3, .int x3), (4, .int x4), (5, .int x5), (6, .int x6), (7, .int x7)]) : W p l e R s m args below meth c H locs 0 0 Q (F0 m 23 ls []) := by
  unfold fX4_wouldTradeWholly_23 at h
  have hx := C.1.1
  have hb := C.1.2.1
  refine lv_iload hx hb dX4_wouldTradeWholly_23 (lv_at hl 7 rfl) ?_
  refine lv_aload_n hx hb dX4_wouldTradeWholly_25 rfl (lv_at hl 0 rfl) ?_
  refine b_getr C hP iX4_wouldTradeWholly_X4 0 (wH_0 cI cJ cZ ad z0) rfl 2 (by decide) fX4_wouldTradeWholly_i28 rfl rfl dX4_wouldTradeWholly_26 ?_
  refine b_getr C hP iX4_wouldTradeWholly_X0 3 (wH_3 cI cJ cZ ad z0) rfl 2 (by decide) fX4_wouldTradeWholly_i319 rfl rfl dX4_wouldTradeWholly_29 ?_
  refine lv_iload_n hx hb dX4_wouldTradeWholly_32 rfl (lv_at hl 2 rfl) ?_
  refine b_iald C hP h 24 (wH_24 cI cJ cZ ad z0) 0 rfl dX4_wouldTradeWholly_33 (fun v1 h => ?_)
  refine lv_icmp_ge (tgt := 189) hx hb dX4_wouldTradeWholly_34 (by decide) (fun c1 => ?_) (fun c1 => ?_)
  · replace h := (ite_h h).1 c1
    exact wX4_wouldTradeWholly_189 C hR N x1 x3 x4 z0 h hP hS (lv_sub hl [0, 1, 3, 4] rfl)
  · replace h := (ite_h h).2 c1
    refine lv_aload_n hx hb dX4_wouldTradeWholly_37 rfl (lv_at hl 0 rfl) ?_
    refine b_getr C hP iX4_wouldTradeWholly_X4 0 (wH_0 cI cJ cZ ad z0) rfl 2 (by decide) fX4_wouldTradeWholly_i28 rfl rfl dX4_wouldTradeWholly_38 ?_
    refine lv_iload_n hx hb dX4_wouldTradeWholly_41 rfl (lv_at hl 2 rfl) ?_
    refine lv_iload hx hb dX4_wouldTradeWholly_42 (lv_at hl 7 rfl) ?_
    refine b_callVi (As := [.int x2, .int x7]) (rest := []) C hP hS h (mX0_orderAt l D cI cJ cZ ad x2 x7 z0) (cwV 2 C.1.2.2.2.2 gX4_wouldTradeWholly_X0_orderAt rfl rfl rfl (by decide +kernel) ⟨Nat.le_trans (Nat.le_of_ble_eq_true rfl) C.2.2.2.2.1, Nat.le_trans (Nat.le_of_ble_eq_true rfl) C.2.2.2.2.2⟩) (va_recv C.2.1 hP (ci := 0) (q0 := 3) rfl (wH_3 cI cJ cZ ad z0)) rfl hl.1 rfl (Nat.le_of_ble_eq_true rfl) dX4_wouldTradeWholly_44 (fun v3 z2 _ _ h hP hS => ?_)
    refine lv_istore (lv' := [(8, .int v3), (0, .ref (ad 0)), (1, .int x1), (2, .int x2), (3, .int x3), (4, .int x4), (5, .int x5), (6, .int x6), (7, .int x7)]) hx hb dX4_wouldTradeWholly_47 hl (by decide) rfl (fun ls hl => ?_)
    refine lv_iload hx hb dX4_wouldTradeWholly_49 (lv_at hl 0 rfl) ?_
    refine lv_iconst (v := -1) hx hb dX4_wouldTradeWholly_51 (by decide) ?_
    refine lv_icmp_eq (tgt := 189) hx hb dX4_wouldTradeWholly_52 (by decide) (fun c1 => ?_) (fun c1 => ?_)
    · replace h := (ite_h h).1 c1
      exact wX4_wouldTradeWholly_189 C hR N x1 x3 x4 z2 h hP hS (lv_sub hl [1, 2, 4, 5] rfl)
    · replace h := (ite_h h).2 c1
      refine lv_aload_n hx hb dX4_wouldTradeWholly_55 rfl (lv_at hl 1 rfl) ?_
      refine b_getr C hP iX4_wouldTradeWholly_X4 0 (wH_0 cI cJ cZ ad z2) rfl 1 (by decide) fX4_wouldTradeWholly_i19 rfl rfl dX4_wouldTradeWholly_56 ?_
      refine lv_iload_n hx hb dX4_wouldTradeWholly_59 rfl (lv_at hl 2 rfl) ?_
      refine lv_iload hx hb dX4_wouldTradeWholly_60 (lv_at hl 0 rfl) ?_
      refine b_callVi (As := [.int x1, .int v3]) (rest := []) C hP hS h (mX2_pricesAllow l D cI cJ cZ ad x1 v3 z2) (cwV 2 C.1.2.2.2.2 gX4_wouldTradeWholly_X2_pricesAllow rfl rfl rfl (by decide +kernel) ⟨Nat.le_trans (Nat.le_of_ble_eq_true rfl) C.2.2.2.2.1, Nat.le_trans (Nat.le_of_ble_eq_true rfl) C.2.2.2.2.2⟩) (va_recv C.2.1 hP (ci := 2) (q0 := 2) rfl (wH_2 cI cJ cZ ad z2)) rfl hl.1 rfl (Nat.le_of_ble_eq_true rfl) dX4_wouldTradeWholly_62 (fun v5 z4 _ _ h hP hS => ?_)
      refine lv_if_ne (tgt := 71) hx hb dX4_wouldTradeWholly_65 (by decide) (fun c1 => ?_) (fun c1 => ?_)
      · replace h := (ite_h h).2 c1
        refine lv_aload_n hx hb dX4_wouldTradeWholly_71 rfl (lv_at hl 1 rfl) ?_
        refine b_getr C hP iX4_wouldTradeWholly_X4 0 (wH_0 cI cJ cZ ad z4) rfl 1 (by decide) fX4_wouldTradeWholly_i19 rfl rfl dX4_wouldTradeWholly_72 ?_
        refine b_getr C hP iX4_wouldTradeWholly_X2 2 (wH_2 cI cJ cZ ad z4) rfl 4 (by decide) fX4_wouldTradeWholly_i169 rfl rfl dX4_wouldTradeWholly_75 ?_
        refine lv_iload hx hb dX4_wouldTradeWholly_78 (lv_at hl 0 rfl) ?_
        refine b_iald C hP h 16 (wH_16 cI cJ cZ ad z4) 0 rfl dX4_wouldTradeWholly_80 (fun v6 h => ?_)
        refine lv_iload hx hb dX4_wouldTradeWholly_81 (lv_at hl 7 rfl) ?_
        refine lv_icmp_eq (tgt := 109) hx hb dX4_wouldTradeWholly_83 (by decide) (fun c1 => ?_) (fun c1 => ?_)
        · replace h := (ite_h h).1 c1
          exact wX4_wouldTradeWholly_109 C hR N k23 K23 x1 x2 x3 x4 x5 x6 x7 v3 z4 h hP hS (lv_sub hl [1, 2, 3, 4, 5, 6, 7, 8, 0] rfl)
        · replace h := (ite_h h).2 c1
          refine lv_iload_n hx hb dX4_wouldTradeWholly_86 rfl (lv_at hl 4 rfl) ?_
          refine lv_iload hx hb dX4_wouldTradeWholly_87 (lv_at hl 5 rfl) ?_
          refine lv_iadd hx hb dX4_wouldTradeWholly_89 ?_
          refine lv_istore_n (lv' := [(3, .int (x3 + x4)), (8, .int v3), (0, .ref (ad 0)), (1, .int x1), (2, .int x2), (4, .int x4), (5, .int x5), (6, .int x6), (7, .int x7)]) hx hb dX4_wouldTradeWholly_90 rfl hl (by decide) rfl (fun ls hl => ?_)
          refine lv_iconst (v := 0) hx hb dX4_wouldTradeWholly_91 (by decide) ?_
          refine lv_istore (lv' := [(4, .int 0), (3, .int (x3 + x4)), (8, .int v3), (0, .ref (ad 0)), (1, .int x1), (2, .int x2), (5, .int x5), (6, .int x6), (7, .int x7)]) hx hb dX4_wouldTradeWholly_92 hl (by decide) rfl (fun ls hl => ?_)
          refine lv_iconst (v := 0) hx hb dX4_wouldTradeWholly_94 (by decide) ?_
          refine lv_istore (lv' := [(5, .int 0), (4, .int 0), (3, .int (x3 + x4)), (8, .int v3), (0, .ref (ad 0)), (1, .int x1), (2, .int x2), (6, .int x6), (7, .int x7)]) hx hb dX4_wouldTradeWholly_95 hl (by decide) rfl (fun ls hl => ?_)
          refine lv_aload_n hx hb dX4_wouldTradeWholly_97 rfl (lv_at hl 4 rfl) ?_
          refine b_getr C hP iX4_wouldTradeWholly_X4 0 (wH_0 cI cJ cZ ad z4) rfl 1 (by decide) fX4_wouldTradeWholly_i19 rfl rfl dX4_wouldTradeWholly_98 ?_
          refine b_getr C hP iX4_wouldTradeWholly_X2 2 (wH_2 cI cJ cZ ad z4) rfl 4 (by decide) fX4_wouldTradeWholly_i169 rfl rfl dX4_wouldTradeWholly_101 ?_
          refine lv_iload hx hb dX4_wouldTradeWholly_104 (lv_at hl 3 rfl) ?_
          refine b_iald C hP h 16 (wH_16 cI cJ cZ ad z4) 0 rfl dX4_wouldTradeWholly_106 (fun v7 h => ?_)
          refine lv_istore (lv' := [(6, .int v7), (5, .int 0), (4, .int 0), (3, .int (x3 + x4)), (8, .int v3), (0, .ref (ad 0)), (1, .int x1), (2, .int x2), (7, .int x7)]) hx hb dX4_wouldTradeWholly_107 hl (by decide) rfl (fun ls hl => ?_)
          exact wX4_wouldTradeWholly_109 C hR N k23 K23 x1 x2 (x3 + x4) 0 0 v7 x7 v3 z4 h hP hS (lv_sub hl [5, 6, 7, 3, 2, 1, 0, 8, 4] rfl)
      · replace h := (ite_h h).1 c1
        refine lv_goto (tgt := 189) hx hb dX4_wouldTradeWholly_68 (by decide) ?_
        exact wX4_wouldTradeWholly_189 C hR N x1 x3 x4 z4 h hP hS (lv_sub hl [1, 2, 4, 5] rfl)
theorem wX4_wouldTradeWholly_23_L {p : Program} {l : Launch} {e : Env} {R : Room} {s : State} {m : MethodId} {args : Array Value} {below : List Frame} {meth : Method} {c : Code} {Q : State → Prop} {D : va_G} {cI cJ cZ : ClassId} {ad : Nat → Nat} {A : Nat → Prop} (C : Cx p s m args c cX4_wouldTradeWholly 9 wsX4_wouldTradeWholly RX4 D vwCl (tyl cI cJ cZ) (wH cI cJ cZ ad) A R 2 42) {r : (Int32 × SH)} (hR : Rz p l e R s m args below meth c cX4_wouldTradeWholly D vwCl (wH cI cJ cZ ad) A Q r) (N : Nat) : ∀ (n : Nat), ∀ (x1 : Int32) (x2 : Int32) (x3 : Int32) (x4 : Int32) (x5 : Int32) (x6 : Int32) (x7 : Int32) (z : SH) (H : Heap) (locs : List Loc) (ls : Array Slot), fX4_wouldTradeWholly_23_L N n x1 x2 x3 x4 x5 x6 x7 z = some r → va_P D vwCl (wH cI cJ cZ ad z) H → va_S A s.heap H locs → lv_has ls 9 [(0, .ref (ad 0)), (1, .int x1), (2, .int x2), (3, .int x3), (4, .int x4), (5, .int x5), (6, .int x6), (7, .int x7)] → W p l e R s m args below meth c H locs 0 0 Q (F0 m 23 ls []) := by
  intro n
  induction n with
  | zero => intro x1 x2 x3 x4 x5 x6 x7 z H locs ls h; exact nomatch (show (none : Option (Int32 × SH)) = some r from h)
  | succ n ih => intro x1 x2 x3 x4 x5 x6 x7 z H locs ls h hP hS hl; exact wX4_wouldTradeWholly_23 C hR N (fX4_wouldTradeWholly_23_L N n) ih x1 x2 x3 x4 x5 x6 x7 z (show fX4_wouldTradeWholly_23 N (fX4_wouldTradeWholly_23_L N n) x1 x2 x3 x4 x5 x6 x7 z = some r from h) hP hS hl
set_option maxRecDepth 100000 in
set_option maxHeartbeats 4000000 in
theorem wX4_wouldTradeWholly {p : Program} {l : Launch} {e : Env} {R : Room} {s : State} {m : MethodId} {args : Array Value} {below : List Frame} {meth : Method} {c : Code} {Q : State → Prop} {D : va_G} {cI cJ cZ : ClassId} {ad : Nat → Nat} {A : Nat → Prop} (C : Cx p s m args c cX4_wouldTradeWholly 9 wsX4_wouldTradeWholly RX4 D vwCl (tyl cI cJ cZ) (wH cI cJ cZ ad) A R 2 42) {r : (Int32 × SH)} (hR : Rz p l e R s m args below meth c cX4_wouldTradeWholly D vwCl (wH cI cJ cZ ad) A Q r) (N : Nat) (a1 : Int32) (z0 : SH) {H : Heap} {locs : List Loc} {ls : Array Slot} (h : fX4_wouldTradeWholly N a1 z0 = some r) (hP : va_P D vwCl (wH cI cJ cZ ad z0) H) (hS : va_S A s.heap H locs) (hl : lv_has ls 9 [(0, .ref (ad 0)), (1, .int a1)]) : W p l e R s m args below meth c H locs 0 0 Q (F0 m 0 ls []) := by
  unfold fX4_wouldTradeWholly at h
  have hx := C.1.1
  have hb := C.1.2.1
  refine lv_aload_n hx hb dX4_wouldTradeWholly_0 rfl (lv_at hl 0 rfl) ?_
  refine b_getr C hP iX4_wouldTradeWholly_X4 0 (wH_0 cI cJ cZ ad z0) rfl 2 (by decide) fX4_wouldTradeWholly_i28 rfl rfl dX4_wouldTradeWholly_1 ?_
  refine lv_iload_n hx hb dX4_wouldTradeWholly_4 rfl (lv_at hl 1 rfl) ?_
  refine b_callVi (As := [.int a1]) (rest := []) C hP hS h (mX0_facing l D cI cJ cZ ad a1 z0) (cwV 1 C.1.2.2.2.2 gX4_wouldTradeWholly_X0_facing rfl rfl rfl (by decide +kernel) ⟨Nat.le_trans (Nat.le_of_ble_eq_true rfl) C.2.2.2.2.1, Nat.le_trans (Nat.le_of_ble_eq_true rfl) C.2.2.2.2.2⟩) (va_recv C.2.1 hP (ci := 0) (q0 := 3) rfl (wH_3 cI cJ cZ ad z0)) rfl hl.1 rfl (Nat.le_of_ble_eq_true rfl) dX4_wouldTradeWholly_5 (fun v2 z1 _ _ h hP hS => ?_)
  refine lv_istore_n (lv' := [(2, .int v2), (0, .ref (ad 0)), (1, .int a1)]) hx hb dX4_wouldTradeWholly_8 rfl hl (by decide) rfl (fun ls hl => ?_)
  refine lv_iconst (v := 0) hx hb dX4_wouldTradeWholly_9 (by decide) ?_
  refine lv_istore_n (lv' := [(3, .int 0), (2, .int v2), (0, .ref (ad 0)), (1, .int a1)]) hx hb dX4_wouldTradeWholly_10 rfl hl (by decide) rfl (fun ls hl => ?_)
  refine lv_iconst (v := 0) hx hb dX4_wouldTradeWholly_11 (by decide) ?_
  refine lv_istore (lv' := [(4, .int 0), (3, .int 0), (2, .int v2), (0, .ref (ad 0)), (1, .int a1)]) hx hb dX4_wouldTradeWholly_12 hl (by decide) rfl (fun ls hl => ?_)
  refine lv_iconst (v := 0) hx hb dX4_wouldTradeWholly_14 (by decide) ?_
  refine lv_istore (lv' := [(5, .int 0), (4, .int 0), (3, .int 0), (2, .int v2), (0, .ref (ad 0)), (1, .int a1)]) hx hb dX4_wouldTradeWholly_15 hl (by decide) rfl (fun ls hl => ?_)
  refine lv_iconst (v := 0) hx hb dX4_wouldTradeWholly_17 (by decide) ?_
  refine lv_istore (lv' := [(6, .int 0), (5, .int 0), (4, .int 0), (3, .int 0), (2, .int v2), (0, .ref (ad 0)), (1, .int a1)]) hx hb dX4_wouldTradeWholly_18 hl (by decide) rfl (fun ls hl => ?_)
  refine lv_iconst (v := 0) hx hb dX4_wouldTradeWholly_20 (by decide) ?_
  refine lv_istore (lv' := [(7, .int 0), (6, .int 0), (5, .int 0), (4, .int 0), (3, .int 0), (2, .int v2), (0, .ref (ad 0)), (1, .int a1)]) hx hb dX4_wouldTradeWholly_21 hl (by decide) rfl (fun ls hl => ?_)
  exact wX4_wouldTradeWholly_23_L C hR N N a1 v2 0 0 0 0 0 z1 _ _ _ h hP hS (lv_sub hl [6, 7, 5, 4, 3, 2, 1, 0] rfl)
theorem mX4_wouldTradeWholly (l : Launch) (D : va_G) (cI cJ cZ : ClassId) (ad : Nat → Nat) (N : Nat) (a1 : Int32) (z0 : SH) : ∀ (q : (Int32 × SH)) (sz : Nat), fX4_wouldTradeWholly N a1 z0 = some q → Met l yX4_wouldTradeWholly wsX4_wouldTradeWholly rmX4_wouldTradeWholly (cP D vwCl (tyl cI cJ cZ) (wH cI cJ cZ ad z0) sz [.ref (ad 0), .int a1]) (cQi D vwCl (wH cI cJ cZ ad) z0 sz q) 0 0 (va_A (wH cI cJ cZ ad z0) sz) := by
  intro q sz h
  refine ofW_z (cc := cX4_wouldTradeWholly) (maxL := 9) (by decide) rfl (wH_same cI cJ cZ ad) (Nat.le_of_ble_eq_true rfl) (fun p e s m below meth c ls hsz C hR hP hl => ?_)
  exact wX4_wouldTradeWholly C hR N a1 z0 h hP va_S.rf hl
abbrev rmX4_actByKind : Room := { frames := 5, cells := 0, slots := 0, locals := 116 }
theorem fX4_actByKind_i126 : Cond.fieldLink RX4 126 (TX2 6).1 (TX2 6).2.1 (TX2 6).2.2.1 ∈ wsX4_actByKind := by decide +kernel
theorem fX4_actByKind_i19 : Cond.fieldLink RX4 19 (TX4 1).1 (TX4 1).2.1 (TX4 1).2.2.1 ∈ wsX4_actByKind := by decide +kernel
theorem fX4_actByKind_i291 : Cond.fieldLink RX4 291 (TX2 3).1 (TX2 3).2.1 (TX2 3).2.2.1 ∈ wsX4_actByKind := by decide +kernel
theorem iX4_actByKind_X2 : ∀ x ∈ wsX20, x ∈ wsX4_actByKind := by decide +kernel
theorem iX4_actByKind_X4 : ∀ x ∈ wsX40, x ∈ wsX4_actByKind := by decide +kernel
set_option maxRecDepth 100000 in
set_option maxHeartbeats 4000000 in
theorem wX4_actByKind_114 {p : Program} {l : Launch} {e : Env} {R : Room} {s : State} {m : MethodId} {args : Array Value} {below : List Frame} {meth : Method} {c : Code} {Q : State → Prop} {D : va_G} {cI cJ cZ : ClassId} {ad : Nat → Nat} {A : Nat → Prop} (C : Cx p s m args c cX4_actByKind 4 wsX4_actByKind RX4 D vwCl (tyl cI cJ cZ) (wH cI cJ cZ ad) A R 5 116) {r : (Unit × SH)} (hR : Rv p l e R s m args below meth c cX4_actByKind D vwCl (wH cI cJ cZ ad) A Q r) (N : Nat) (z0 : SH) {H : Heap} {locs : List Loc} {ls : Array Slot} (h : fX4_actByKind_114 N z0 = some r) (hP : va_P D vwCl (wH cI cJ cZ ad z0) H) (hS : va_S A s.heap H locs) (hl : lv_has ls 4 []) : W p l e R s m args below meth c H locs 0 0 Q (F0 m 114 ls []) := by
  unfold fX4_actByKind_114 at h
  have hx := C.1.1
  have hb := C.1.2.1
  exact hR 114 _ _ _ _ (Option.some.inj h).symm dX4_actByKind_114 hP hS
set_option maxRecDepth 100000 in
set_option maxHeartbeats 4000000 in
theorem wX4_actByKind_100 {p : Program} {l : Launch} {e : Env} {R : Room} {s : State} {m : MethodId} {args : Array Value} {below : List Frame} {meth : Method} {c : Code} {Q : State → Prop} {D : va_G} {cI cJ cZ : ClassId} {ad : Nat → Nat} {A : Nat → Prop} (C : Cx p s m args c cX4_actByKind 4 wsX4_actByKind RX4 D vwCl (tyl cI cJ cZ) (wH cI cJ cZ ad) A R 5 116) {r : (Unit × SH)} (hR : Rv p l e R s m args below meth c cX4_actByKind D vwCl (wH cI cJ cZ ad) A Q r) (N : Nat) (x1 : Int32) (z0 : SH) {H : Heap} {locs : List Loc} {ls : Array Slot} (h : fX4_actByKind_100 N x1 z0 = some r) (hP : va_P D vwCl (wH cI cJ cZ ad z0) H) (hS : va_S A s.heap H locs) (hl : lv_has ls 4 [(0, .ref (ad 0)), (1, .int x1)]) : W p l e R s m args below meth c H locs 0 0 Q (F0 m 100 ls []) := by
  unfold fX4_actByKind_100 at h
  have hx := C.1.1
  have hb := C.1.2.1
  refine lv_aload_n hx hb dX4_actByKind_100 rfl (lv_at hl 0 rfl) ?_
  refine lv_iload_n hx hb dX4_actByKind_101 rfl (lv_at hl 1 rfl) ?_
  refine lv_iconst (v := 3) hx hb dX4_actByKind_102 (by decide) ?_
  refine b_callVv (As := [.int x1, .int 3]) (rest := []) C hP hS h (mX4_close l D cI cJ cZ ad x1 3 z0) (cwV 2 C.1.2.2.2.2 gX4_actByKind_X4_close rfl rfl rfl (by decide +kernel) ⟨Nat.le_trans (Nat.le_of_ble_eq_true rfl) C.2.2.2.2.1, Nat.le_trans (Nat.le_of_ble_eq_true rfl) C.2.2.2.2.2⟩) (va_recv C.2.1 hP (ci := 4) (q0 := 0) rfl (wH_0 cI cJ cZ ad z0)) rfl hl.1 rfl (Nat.le_of_ble_eq_true rfl) dX4_actByKind_103 (fun _ z1 _ _ h hP hS => ?_)
  refine lv_goto (tgt := 114) hx hb dX4_actByKind_106 (by decide) ?_
  exact wX4_actByKind_114 C hR N z1 h hP hS (lv_sub hl [] rfl)
set_option maxRecDepth 100000 in
set_option maxHeartbeats 4000000 in
theorem wX4_actByKind_64 {p : Program} {l : Launch} {e : Env} {R : Room} {s : State} {m : MethodId} {args : Array Value} {below : List Frame} {meth : Method} {c : Code} {Q : State → Prop} {D : va_G} {cI cJ cZ : ClassId} {ad : Nat → Nat} {A : Nat → Prop} (C : Cx p s m args c cX4_actByKind 4 wsX4_actByKind RX4 D vwCl (tyl cI cJ cZ) (wH cI cJ cZ ad) A R 5 116) {r : (Unit × SH)} (hR : Rv p l e R s m args below meth c cX4_actByKind D vwCl (wH cI cJ cZ ad) A Q r) (N : Nat) (x1 : Int32) (x2 : Int32) (z0 : SH) {H : Heap} {locs : List Loc} {ls : Array Slot} (h : fX4_actByKind_64 N x1 x2 z0 = some r) (hP : va_P D vwCl (wH cI cJ cZ ad z0) H) (hS : va_S A s.heap H locs) (hl : lv_has ls 4 [(0, .ref (ad 0)), (1, .int x1), (2, .int x2)]) : W p l e R s m args below meth c H locs 0 0 Q (F0 m 64 ls []) := by
  unfold fX4_actByKind_64 at h
  have hx := C.1.1
  have hb := C.1.2.1
  refine lv_aload_n hx hb dX4_actByKind_64 rfl (lv_at hl 0 rfl) ?_
  refine lv_iload_n hx hb dX4_actByKind_65 rfl (lv_at hl 1 rfl) ?_
  refine b_callVi (As := [.int x1]) (rest := []) C hP hS h (mX4_tradeUntilStopped l D cI cJ cZ ad N x1 z0) (cwV 1 C.1.2.2.2.2 gX4_actByKind_X4_tradeUntilStopped rfl rfl rfl (by decide +kernel) ⟨Nat.le_trans (Nat.le_of_ble_eq_true rfl) C.2.2.2.2.1, Nat.le_trans (Nat.le_of_ble_eq_true rfl) C.2.2.2.2.2⟩) (va_recv C.2.1 hP (ci := 4) (q0 := 0) rfl (wH_0 cI cJ cZ ad z0)) rfl hl.1 rfl (Nat.le_of_ble_eq_true rfl) dX4_actByKind_66 (fun v2 z1 _ _ h hP hS => ?_)
  refine lv_istore_n (lv' := [(3, .int v2), (0, .ref (ad 0)), (1, .int x1), (2, .int x2)]) hx hb dX4_actByKind_69 rfl hl (by decide) rfl (fun ls hl => ?_)
  refine lv_aload_n hx hb dX4_actByKind_70 rfl (lv_at hl 1 rfl) ?_
  refine b_getr C hP iX4_actByKind_X4 0 (wH_0 cI cJ cZ ad z1) rfl 1 (by decide) fX4_actByKind_i19 rfl rfl dX4_actByKind_71 ?_
  refine b_getr C hP iX4_actByKind_X2 2 (wH_2 cI cJ cZ ad z1) rfl 6 (by decide) fX4_actByKind_i126 rfl rfl dX4_actByKind_74 ?_
  refine lv_iload_n hx hb dX4_actByKind_77 rfl (lv_at hl 2 rfl) ?_
  refine b_iald C hP h 18 (wH_18 cI cJ cZ ad z1) 0 rfl dX4_actByKind_78 (fun v3 h => ?_)
  refine lv_if_ne (tgt := 91) hx hb dX4_actByKind_79 (by decide) (fun c1 => ?_) (fun c1 => ?_)
  · replace h := (ite_h h).2 c1
    refine lv_iload_n hx hb dX4_actByKind_91 rfl (lv_at hl 0 rfl) ?_
    refine lv_if_ne (tgt := 100) hx hb dX4_actByKind_92 (by decide) (fun c1 => ?_) (fun c1 => ?_)
    · replace h := (ite_h h).2 c1
      exact wX4_actByKind_100 C hR N x1 z1 h hP hS (lv_sub hl [1, 2] rfl)
    · replace h := (ite_h h).1 c1
      refine lv_iload_n hx hb dX4_actByKind_95 rfl (lv_at hl 3 rfl) ?_
      refine lv_iconst (v := 1) hx hb dX4_actByKind_96 (by decide) ?_
      refine lv_icmp_ne (tgt := 109) hx hb dX4_actByKind_97 (by decide) (fun c1 => ?_) (fun c1 => ?_)
      · replace h := (ite_h h).2 c1
        refine lv_aload_n hx hb dX4_actByKind_109 rfl (lv_at hl 1 rfl) ?_
        refine lv_iload_n hx hb dX4_actByKind_110 rfl (lv_at hl 2 rfl) ?_
        refine b_callVv (As := [.int x1]) (rest := []) C hP hS h (mX4_rest l D cI cJ cZ ad N x1 z1) (cwV 1 C.1.2.2.2.2 gX4_actByKind_X4_rest rfl rfl rfl (by decide +kernel) ⟨Nat.le_trans (Nat.le_of_ble_eq_true rfl) C.2.2.2.2.1, Nat.le_trans (Nat.le_of_ble_eq_true rfl) C.2.2.2.2.2⟩) (va_recv C.2.1 hP (ci := 4) (q0 := 0) rfl (wH_0 cI cJ cZ ad z1)) rfl hl.1 rfl (Nat.le_of_ble_eq_true rfl) dX4_actByKind_111 (fun _ z4 _ _ h hP hS => ?_)
        exact wX4_actByKind_114 C hR N z4 h hP hS (lv_sub hl [] rfl)
      · replace h := (ite_h h).1 c1
        exact wX4_actByKind_100 C hR N x1 z1 h hP hS (lv_sub hl [1, 2] rfl)
  · replace h := (ite_h h).1 c1
    refine lv_aload_n hx hb dX4_actByKind_82 rfl (lv_at hl 1 rfl) ?_
    refine lv_iload_n hx hb dX4_actByKind_83 rfl (lv_at hl 2 rfl) ?_
    refine lv_iconst (v := 2) hx hb dX4_actByKind_84 (by decide) ?_
    refine b_callVv (As := [.int x1, .int 2]) (rest := []) C hP hS h (mX4_close l D cI cJ cZ ad x1 2 z1) (cwV 2 C.1.2.2.2.2 gX4_actByKind_X4_close rfl rfl rfl (by decide +kernel) ⟨Nat.le_trans (Nat.le_of_ble_eq_true rfl) C.2.2.2.2.1, Nat.le_trans (Nat.le_of_ble_eq_true rfl) C.2.2.2.2.2⟩) (va_recv C.2.1 hP (ci := 4) (q0 := 0) rfl (wH_0 cI cJ cZ ad z1)) rfl hl.1 rfl (Nat.le_of_ble_eq_true rfl) dX4_actByKind_85 (fun _ z5 _ _ h hP hS => ?_)
    refine lv_goto (tgt := 114) hx hb dX4_actByKind_88 (by decide) ?_
    exact wX4_actByKind_114 C hR N z5 h hP hS (lv_sub hl [] rfl)
set_option maxRecDepth 100000 in
set_option maxHeartbeats 4000000 in
theorem wX4_actByKind_43 {p : Program} {l : Launch} {e : Env} {R : Room} {s : State} {m : MethodId} {args : Array Value} {below : List Frame} {meth : Method} {c : Code} {Q : State → Prop} {D : va_G} {cI cJ cZ : ClassId} {ad : Nat → Nat} {A : Nat → Prop} (C : Cx p s m args c cX4_actByKind 4 wsX4_actByKind RX4 D vwCl (tyl cI cJ cZ) (wH cI cJ cZ ad) A R 5 116) {r : (Unit × SH)} (hR : Rv p l e R s m args below meth c cX4_actByKind D vwCl (wH cI cJ cZ ad) A Q r) (N : Nat) (z0 : SH) {H : Heap} {locs : List Loc} {ls : Array Slot} (h : fX4_actByKind_43 N z0 = some r) (hP : va_P D vwCl (wH cI cJ cZ ad z0) H) (hS : va_S A s.heap H locs) (hl : lv_has ls 4 []) : W p l e R s m args below meth c H locs 0 0 Q (F0 m 43 ls []) := by
  unfold fX4_actByKind_43 at h
  have hx := C.1.1
  have hb := C.1.2.1
  exact hR 43 _ _ _ _ (Option.some.inj h).symm dX4_actByKind_43 hP hS
set_option maxRecDepth 100000 in
set_option maxHeartbeats 4000000 in
theorem wX4_actByKind {p : Program} {l : Launch} {e : Env} {R : Room} {s : State} {m : MethodId} {args : Array Value} {below : List Frame} {meth : Method} {c : Code} {Q : State → Prop} {D : va_G} {cI cJ cZ : ClassId} {ad : Nat → Nat} {A : Nat → Prop} (C : Cx p s m args c cX4_actByKind 4 wsX4_actByKind RX4 D vwCl (tyl cI cJ cZ) (wH cI cJ cZ ad) A R 5 116) {r : (Unit × SH)} (hR : Rv p l e R s m args below meth c cX4_actByKind D vwCl (wH cI cJ cZ ad) A Q r) (N : Nat) (a1 : Int32) (z0 : SH) {H : Heap} {locs : List Loc} {ls : Array Slot} (h : fX4_actByKind N a1 z0 = some r) (hP : va_P D vwCl (wH cI cJ cZ ad z0) H) (hS : va_S A s.heap H locs) (hl : lv_has ls 4 [(0, .ref (ad 0)), (1, .int a1)]) : W p l e R s m args below meth c H locs 0 0 Q (F0 m 0 ls []) := by
  unfold fX4_actByKind at h
  have hx := C.1.1
  have hb := C.1.2.1
  refine lv_aload_n hx hb dX4_actByKind_0 rfl (lv_at hl 0 rfl) ?_
  refine b_getr C hP iX4_actByKind_X4 0 (wH_0 cI cJ cZ ad z0) rfl 1 (by decide) fX4_actByKind_i19 rfl rfl dX4_actByKind_1 ?_
  refine b_getr C hP iX4_actByKind_X2 2 (wH_2 cI cJ cZ ad z0) rfl 3 (by decide) fX4_actByKind_i291 rfl rfl dX4_actByKind_4 ?_
  refine lv_iload_n hx hb dX4_actByKind_7 rfl (lv_at hl 1 rfl) ?_
  refine b_iald C hP h 15 (wH_15 cI cJ cZ ad z0) 0 rfl dX4_actByKind_8 (fun v1 h => ?_)
  refine lv_istore_n (lv' := [(2, .int v1), (0, .ref (ad 0)), (1, .int a1)]) hx hb dX4_actByKind_9 rfl hl (by decide) rfl (fun ls hl => ?_)
  refine lv_iload_n hx hb dX4_actByKind_10 rfl (lv_at hl 0 rfl) ?_
  refine lv_iconst (v := 5) hx hb dX4_actByKind_11 (by decide) ?_
  refine lv_icmp_ne (tgt := 16) hx hb dX4_actByKind_12 (by decide) (fun c1 => ?_) (fun c1 => ?_)
  · replace h := (ite_h h).2 c1
    refine lv_iload_n hx hb dX4_actByKind_16 rfl (lv_at hl 0 rfl) ?_
    refine lv_iconst (v := 3) hx hb dX4_actByKind_17 (by decide) ?_
    refine lv_icmp_ne (tgt := 44) hx hb dX4_actByKind_18 (by decide) (fun c1 => ?_) (fun c1 => ?_)
    · replace h := (ite_h h).2 c1
      refine lv_iload_n hx hb dX4_actByKind_44 rfl (lv_at hl 0 rfl) ?_
      refine lv_iconst (v := 2) hx hb dX4_actByKind_45 (by decide) ?_
      refine lv_icmp_ne (tgt := 64) hx hb dX4_actByKind_46 (by decide) (fun c1 => ?_) (fun c1 => ?_)
      · replace h := (ite_h h).2 c1
        exact wX4_actByKind_64 C hR N a1 v1 z0 h hP hS (lv_sub hl [1, 2, 0] rfl)
      · replace h := (ite_h h).1 c1
        refine lv_aload_n hx hb dX4_actByKind_49 rfl (lv_at hl 1 rfl) ?_
        refine lv_iload_n hx hb dX4_actByKind_50 rfl (lv_at hl 2 rfl) ?_
        refine b_callVi (As := [.int a1]) (rest := []) C hP hS h (mX4_wouldTradeWholly l D cI cJ cZ ad N a1 z0) (cwV 1 C.1.2.2.2.2 gX4_actByKind_X4_wouldTradeWholly rfl rfl rfl (by decide +kernel) ⟨Nat.le_trans (Nat.le_of_ble_eq_true rfl) C.2.2.2.2.1, Nat.le_trans (Nat.le_of_ble_eq_true rfl) C.2.2.2.2.2⟩) (va_recv C.2.1 hP (ci := 4) (q0 := 0) rfl (wH_0 cI cJ cZ ad z0)) rfl hl.1 rfl (Nat.le_of_ble_eq_true rfl) dX4_actByKind_51 (fun v3 z2 _ _ h hP hS => ?_)
        refine lv_if_ne (tgt := 64) hx hb dX4_actByKind_54 (by decide) (fun c1 => ?_) (fun c1 => ?_)
        · replace h := (ite_h h).2 c1
          exact wX4_actByKind_64 C hR N a1 v1 z2 h hP hS (lv_sub hl [1, 2, 0] rfl)
        · replace h := (ite_h h).1 c1
          refine lv_aload_n hx hb dX4_actByKind_57 rfl (lv_at hl 1 rfl) ?_
          refine lv_iload_n hx hb dX4_actByKind_58 rfl (lv_at hl 2 rfl) ?_
          refine lv_iconst (v := 3) hx hb dX4_actByKind_59 (by decide) ?_
          refine b_callVv (As := [.int a1, .int 3]) (rest := []) C hP hS h (mX4_close l D cI cJ cZ ad a1 3 z2) (cwV 2 C.1.2.2.2.2 gX4_actByKind_X4_close rfl rfl rfl (by decide +kernel) ⟨Nat.le_trans (Nat.le_of_ble_eq_true rfl) C.2.2.2.2.1, Nat.le_trans (Nat.le_of_ble_eq_true rfl) C.2.2.2.2.2⟩) (va_recv C.2.1 hP (ci := 4) (q0 := 0) rfl (wH_0 cI cJ cZ ad z2)) rfl hl.1 rfl (Nat.le_of_ble_eq_true rfl) dX4_actByKind_60 (fun _ z4 _ _ h hP hS => ?_)
          exact hR 63 _ _ _ _ (Option.some.inj h).symm dX4_actByKind_63 hP hS
    · replace h := (ite_h h).1 c1
      refine lv_aload_n hx hb dX4_actByKind_21 rfl (lv_at hl 1 rfl) ?_
      refine lv_iload_n hx hb dX4_actByKind_22 rfl (lv_at hl 2 rfl) ?_
      refine b_callVi (As := [.int a1]) (rest := []) C hP hS h (mX4_meetsOther l D cI cJ cZ ad a1 z0) (cwV 1 C.1.2.2.2.2 gX4_actByKind_X4_meetsOther rfl rfl rfl (by decide +kernel) ⟨Nat.le_trans (Nat.le_of_ble_eq_true rfl) C.2.2.2.2.1, Nat.le_trans (Nat.le_of_ble_eq_true rfl) C.2.2.2.2.2⟩) (va_recv C.2.1 hP (ci := 4) (q0 := 0) rfl (wH_0 cI cJ cZ ad z0)) rfl hl.1 rfl (Nat.le_of_ble_eq_true rfl) dX4_actByKind_23 (fun v6 z5 _ _ h hP hS => ?_)
      refine lv_if_eq (tgt := 38) hx hb dX4_actByKind_26 (by decide) (fun c1 => ?_) (fun c1 => ?_)
      · replace h := (ite_h h).1 c1
        refine lv_aload_n hx hb dX4_actByKind_38 rfl (lv_at hl 1 rfl) ?_
        refine lv_iload_n hx hb dX4_actByKind_39 rfl (lv_at hl 2 rfl) ?_
        refine b_callVv (As := [.int a1]) (rest := []) C hP hS h (mX4_rest l D cI cJ cZ ad N a1 z5) (cwV 1 C.1.2.2.2.2 gX4_actByKind_X4_rest rfl rfl rfl (by decide +kernel) ⟨Nat.le_trans (Nat.le_of_ble_eq_true rfl) C.2.2.2.2.1, Nat.le_trans (Nat.le_of_ble_eq_true rfl) C.2.2.2.2.2⟩) (va_recv C.2.1 hP (ci := 4) (q0 := 0) rfl (wH_0 cI cJ cZ ad z5)) rfl hl.1 rfl (Nat.le_of_ble_eq_true rfl) dX4_actByKind_40 (fun _ z7 _ _ h hP hS => ?_)
        exact wX4_actByKind_43 C hR N z7 h hP hS (lv_sub hl [] rfl)
      · replace h := (ite_h h).2 c1
        refine lv_aload_n hx hb dX4_actByKind_29 rfl (lv_at hl 1 rfl) ?_
        refine lv_iload_n hx hb dX4_actByKind_30 rfl (lv_at hl 2 rfl) ?_
        refine lv_iconst (v := 3) hx hb dX4_actByKind_31 (by decide) ?_
        refine b_callVv (As := [.int a1, .int 3]) (rest := []) C hP hS h (mX4_close l D cI cJ cZ ad a1 3 z5) (cwV 2 C.1.2.2.2.2 gX4_actByKind_X4_close rfl rfl rfl (by decide +kernel) ⟨Nat.le_trans (Nat.le_of_ble_eq_true rfl) C.2.2.2.2.1, Nat.le_trans (Nat.le_of_ble_eq_true rfl) C.2.2.2.2.2⟩) (va_recv C.2.1 hP (ci := 4) (q0 := 0) rfl (wH_0 cI cJ cZ ad z5)) rfl hl.1 rfl (Nat.le_of_ble_eq_true rfl) dX4_actByKind_32 (fun _ z8 _ _ h hP hS => ?_)
        refine lv_goto (tgt := 43) hx hb dX4_actByKind_35 (by decide) ?_
        exact wX4_actByKind_43 C hR N z8 h hP hS (lv_sub hl [] rfl)
  · replace h := (ite_h h).1 c1
    exact hR 15 _ _ _ _ (Option.some.inj h).symm dX4_actByKind_15 hP hS
theorem mX4_actByKind (l : Launch) (D : va_G) (cI cJ cZ : ClassId) (ad : Nat → Nat) (N : Nat) (a1 : Int32) (z0 : SH) : ∀ (q : (Unit × SH)) (sz : Nat), fX4_actByKind N a1 z0 = some q → Met l yX4_actByKind wsX4_actByKind rmX4_actByKind (cP D vwCl (tyl cI cJ cZ) (wH cI cJ cZ ad z0) sz [.ref (ad 0), .int a1]) (cQv D vwCl (wH cI cJ cZ ad) z0 sz q) 0 0 (va_A (wH cI cJ cZ ad z0) sz) := by
  intro q sz h
  refine ofW_v (cc := cX4_actByKind) (maxL := 4) (by decide) rfl (wH_same cI cJ cZ ad) (Nat.le_of_ble_eq_true rfl) (fun p e s m below meth c ls hsz C hR hP hl => ?_)
  exact wX4_actByKind C hR N a1 z0 h hP va_S.rf hl
abbrev rmX2_isWokenBy : Room := { frames := 0, cells := 0, slots := 0, locals := 0 }
theorem fX2_isWokenBy_i18 : Cond.fieldLink RX2 18 (TX2 2).1 (TX2 2).2.1 (TX2 2).2.2.1 ∈ wsX2_isWokenBy := by decide +kernel
theorem fX2_isWokenBy_i27 : Cond.fieldLink RX2 27 (TX2 5).1 (TX2 5).2.1 (TX2 5).2.2.1 ∈ wsX2_isWokenBy := by decide +kernel
theorem fX2_isWokenBy_i36 : Cond.fieldLink RX2 36 (TX2 8).1 (TX2 8).2.1 (TX2 8).2.2.1 ∈ wsX2_isWokenBy := by decide +kernel
theorem iX2_isWokenBy_X2 : ∀ x ∈ wsX20, x ∈ wsX2_isWokenBy := by decide +kernel
set_option maxRecDepth 100000 in
set_option maxHeartbeats 4000000 in
theorem wX2_isWokenBy_54 {p : Program} {l : Launch} {e : Env} {R : Room} {s : State} {m : MethodId} {args : Array Value} {below : List Frame} {meth : Method} {c : Code} {Q : State → Prop} {D : va_G} {cI cJ cZ : ClassId} {ad : Nat → Nat} {A : Nat → Prop} (C : Cx p s m args c cX2_isWokenBy 3 wsX2_isWokenBy RX2 D vwCl (tyl cI cJ cZ) (wH cI cJ cZ ad) A R 0 0) {r : (Int32 × SH)} (hR : Rz p l e R s m args below meth c cX2_isWokenBy D vwCl (wH cI cJ cZ ad) A Q r) (t0 : Int32) (z0 : SH) {H : Heap} {locs : List Loc} {ls : Array Slot} (h : fX2_isWokenBy_54 t0 z0 = some r) (hP : va_P D vwCl (wH cI cJ cZ ad z0) H) (hS : va_S A s.heap H locs) (hl : lv_has ls 3 []) : W p l e R s m args below meth c H locs 0 0 Q (F0 m 54 ls [.int t0]) := by
  unfold fX2_isWokenBy_54 at h
  have hx := C.1.1
  have hb := C.1.2.1
  exact hR 54 _ _ _ _ _ h dX2_isWokenBy_54 hP hS
set_option maxRecDepth 100000 in
set_option maxHeartbeats 4000000 in
theorem wX2_isWokenBy {p : Program} {l : Launch} {e : Env} {R : Room} {s : State} {m : MethodId} {args : Array Value} {below : List Frame} {meth : Method} {c : Code} {Q : State → Prop} {D : va_G} {cI cJ cZ : ClassId} {ad : Nat → Nat} {A : Nat → Prop} (C : Cx p s m args c cX2_isWokenBy 3 wsX2_isWokenBy RX2 D vwCl (tyl cI cJ cZ) (wH cI cJ cZ ad) A R 0 0) {r : (Int32 × SH)} (hR : Rz p l e R s m args below meth c cX2_isWokenBy D vwCl (wH cI cJ cZ ad) A Q r) (a1 : Int32) (a2 : Int32) (z0 : SH) {H : Heap} {locs : List Loc} {ls : Array Slot} (h : fX2_isWokenBy a1 a2 z0 = some r) (hP : va_P D vwCl (wH cI cJ cZ ad z0) H) (hS : va_S A s.heap H locs) (hl : lv_has ls 3 [(0, .ref (ad 2)), (1, .int a1), (2, .int a2)]) : W p l e R s m args below meth c H locs 0 0 Q (F0 m 0 ls []) := by
  unfold fX2_isWokenBy at h
  have hx := C.1.1
  have hb := C.1.2.1
  refine lv_aload_n hx hb dX2_isWokenBy_0 rfl (lv_at hl 0 rfl) ?_
  refine b_getr C hP iX2_isWokenBy_X2 2 (wH_2 cI cJ cZ ad z0) rfl 8 (by decide) fX2_isWokenBy_i36 rfl rfl dX2_isWokenBy_1 ?_
  refine lv_iload_n hx hb dX2_isWokenBy_4 rfl (lv_at hl 1 rfl) ?_
  refine b_iald C hP h 20 (wH_20 cI cJ cZ ad z0) 0 rfl dX2_isWokenBy_5 (fun v1 h => ?_)
  refine lv_iconst (v := 1) hx hb dX2_isWokenBy_6 (by decide) ?_
  refine lv_icmp_eq (tgt := 12) hx hb dX2_isWokenBy_7 (by decide) (fun c1 => ?_) (fun c1 => ?_)
  · replace h := (ite_h h).1 c1
    refine lv_aload_n hx hb dX2_isWokenBy_12 rfl (lv_at hl 0 rfl) ?_
    refine b_getr C hP iX2_isWokenBy_X2 2 (wH_2 cI cJ cZ ad z0) rfl 2 (by decide) fX2_isWokenBy_i18 rfl rfl dX2_isWokenBy_13 ?_
    refine lv_iload_n hx hb dX2_isWokenBy_16 rfl (lv_at hl 1 rfl) ?_
    refine b_iald C hP h 14 (wH_14 cI cJ cZ ad z0) 0 rfl dX2_isWokenBy_17 (fun v2 h => ?_)
    refine lv_if_ne (tgt := 39) hx hb dX2_isWokenBy_18 (by decide) (fun c1 => ?_) (fun c1 => ?_)
    · replace h := (ite_h h).2 c1
      refine lv_iload_n hx hb dX2_isWokenBy_39 rfl (lv_at hl 2 rfl) ?_
      refine lv_aload_n hx hb dX2_isWokenBy_40 rfl (lv_at hl 0 rfl) ?_
      refine b_getr C hP iX2_isWokenBy_X2 2 (wH_2 cI cJ cZ ad z0) rfl 5 (by decide) fX2_isWokenBy_i27 rfl rfl dX2_isWokenBy_41 ?_
      refine lv_iload_n hx hb dX2_isWokenBy_44 rfl (lv_at hl 1 rfl) ?_
      refine b_iald C hP h 17 (wH_17 cI cJ cZ ad z0) 0 rfl dX2_isWokenBy_45 (fun v3 h => ?_)
      refine lv_icmp_gt (tgt := 53) hx hb dX2_isWokenBy_46 (by decide) (fun c1 => ?_) (fun c1 => ?_)
      · replace h := (ite_h h).1 c1
        refine lv_iconst (v := 0) hx hb dX2_isWokenBy_53 (by decide) ?_
        exact wX2_isWokenBy_54 C hR 0 z0 h hP hS (lv_sub hl [] rfl)
      · replace h := (ite_h h).2 c1
        refine lv_iconst (v := 1) hx hb dX2_isWokenBy_49 (by decide) ?_
        refine lv_goto (tgt := 54) hx hb dX2_isWokenBy_50 (by decide) ?_
        exact wX2_isWokenBy_54 C hR 1 z0 h hP hS (lv_sub hl [] rfl)
    · replace h := (ite_h h).1 c1
      refine lv_iload_n hx hb dX2_isWokenBy_21 rfl (lv_at hl 2 rfl) ?_
      refine lv_aload_n hx hb dX2_isWokenBy_22 rfl (lv_at hl 0 rfl) ?_
      refine b_getr C hP iX2_isWokenBy_X2 2 (wH_2 cI cJ cZ ad z0) rfl 5 (by decide) fX2_isWokenBy_i27 rfl rfl dX2_isWokenBy_23 ?_
      refine lv_iload_n hx hb dX2_isWokenBy_26 rfl (lv_at hl 1 rfl) ?_
      refine b_iald C hP h 17 (wH_17 cI cJ cZ ad z0) 0 rfl dX2_isWokenBy_27 (fun v4 h => ?_)
      refine lv_icmp_lt (tgt := 35) hx hb dX2_isWokenBy_28 (by decide) (fun c1 => ?_) (fun c1 => ?_)
      · replace h := (ite_h h).1 c1
        refine lv_iconst (v := 0) hx hb dX2_isWokenBy_35 (by decide) ?_
        refine lv_goto (tgt := 54) hx hb dX2_isWokenBy_36 (by decide) ?_
        exact wX2_isWokenBy_54 C hR 0 z0 h hP hS (lv_sub hl [] rfl)
      · replace h := (ite_h h).2 c1
        refine lv_iconst (v := 1) hx hb dX2_isWokenBy_31 (by decide) ?_
        refine lv_goto (tgt := 54) hx hb dX2_isWokenBy_32 (by decide) ?_
        exact wX2_isWokenBy_54 C hR 1 z0 h hP hS (lv_sub hl [] rfl)
  · replace h := (ite_h h).2 c1
    refine lv_iconst (v := 0) hx hb dX2_isWokenBy_10 (by decide) ?_
    exact hR 11 _ _ _ _ _ h dX2_isWokenBy_11 hP hS
theorem mX2_isWokenBy (l : Launch) (D : va_G) (cI cJ cZ : ClassId) (ad : Nat → Nat) (a1 : Int32) (a2 : Int32) (z0 : SH) : ∀ (q : (Int32 × SH)) (sz : Nat), fX2_isWokenBy a1 a2 z0 = some q → Met l yX2_isWokenBy wsX2_isWokenBy rmX2_isWokenBy (cP D vwCl (tyl cI cJ cZ) (wH cI cJ cZ ad z0) sz [.ref (ad 2), .int a1, .int a2]) (cQi D vwCl (wH cI cJ cZ ad) z0 sz q) 0 0 (va_A (wH cI cJ cZ ad z0) sz) := by
  intro q sz h
  refine ofW_z (cc := cX2_isWokenBy) (maxL := 3) (by decide) rfl (wH_same cI cJ cZ ad) (Nat.le_of_ble_eq_true rfl) (fun p e s m below meth c ls hsz C hR hP hl => ?_)
  exact wX2_isWokenBy C hR a1 a2 z0 h hP va_S.rf hl
abbrev rmX4_wakeStop : Room := { frames := 1, cells := 0, slots := 0, locals := 22 }
theorem fX4_wakeStop_i100 : Cond.fieldLink RX4 100 (TX2 11).1 (TX2 11).2.1 (TX2 11).2.2.1 ∈ wsX4_wakeStop := by decide +kernel
theorem fX4_wakeStop_i19 : Cond.fieldLink RX4 19 (TX4 1).1 (TX4 1).2.1 (TX4 1).2.2.1 ∈ wsX4_wakeStop := by decide +kernel
theorem fX4_wakeStop_i211 : Cond.fieldLink RX4 211 (TX2 1).1 (TX2 1).2.1 (TX2 1).2.2.1 ∈ wsX4_wakeStop := by decide +kernel
theorem fX4_wakeStop_i255 : Cond.fieldLink RX4 255 (TX3 4).1 (TX3 4).2.1 (TX3 4).2.2.1 ∈ wsX4_wakeStop := by decide +kernel
theorem fX4_wakeStop_i291 : Cond.fieldLink RX4 291 (TX2 3).1 (TX2 3).2.1 (TX2 3).2.2.1 ∈ wsX4_wakeStop := by decide +kernel
theorem fX4_wakeStop_i35 : Cond.fieldLink RX4 35 (TX4 3).1 (TX4 3).2.1 (TX4 3).2.2.1 ∈ wsX4_wakeStop := by decide +kernel
theorem iX4_wakeStop_X2 : ∀ x ∈ wsX20, x ∈ wsX4_wakeStop := by decide +kernel
theorem iX4_wakeStop_X3 : ∀ x ∈ wsX30, x ∈ wsX4_wakeStop := by decide +kernel
theorem iX4_wakeStop_X4 : ∀ x ∈ wsX40, x ∈ wsX4_wakeStop := by decide +kernel
set_option maxRecDepth 100000 in
set_option maxHeartbeats 4000000 in
theorem wX4_wakeStop_66 {p : Program} {l : Launch} {e : Env} {R : Room} {s : State} {m : MethodId} {args : Array Value} {below : List Frame} {meth : Method} {c : Code} {Q : State → Prop} {D : va_G} {cI cJ cZ : ClassId} {ad : Nat → Nat} {A : Nat → Prop} (C : Cx p s m args c cX4_wakeStop 4 wsX4_wakeStop RX4 D vwCl (tyl cI cJ cZ) (wH cI cJ cZ ad) A R 1 22) {r : (Int32 × SH)} (hR : Ri p l e R s m args below meth c cX4_wakeStop D vwCl (wH cI cJ cZ ad) A Q r) (N : Nat) (k18 : Int32 → Int32 → Int32 → SH → Option (Int32 × SH)) (K18 : ∀ (x1 : Int32) (x2 : Int32) (x3 : Int32) (z : SH) (H : Heap) (locs : List Loc) (ls : Array Slot), k18 x1 x2 x3 z = some r → va_P D vwCl (wH cI cJ cZ ad z) H → va_S A s.heap H locs → lv_has ls 4 [(0, .ref (ad 0)), (1, .int x1), (2, .int x2), (3, .int x3)] → W p l e R s m args below meth c H locs 0 0 Q (F0 m 18 ls [])) (x1 : Int32) (x2 : Int32) (x3 : Int32) (z0 : SH) {H : Heap} {locs : List Loc} {ls : Array Slot} (h : fX4_wakeStop_66 N k18 x1 x2 x3 z0 = some r) (hP : va_P D vwCl (wH cI cJ cZ ad z0) H) (hS : va_S A s.heap H locs) (hl : lv_has ls 4 [(0, .ref (ad 0)), (1, .int x1), (2, .int x2), (3, .int x3)]) : W p l e R s m args below meth c H locs 0 0 Q (F0 m 66 ls []) := by
  unfold fX4_wakeStop_66 at h
  have hx := C.1.1
  have hb := C.1.2.1
  refine lv_iinc (v := x3 + 1) (lv' := [(3, .int (x3 + 1)), (0, .ref (ad 0)), (1, .int x1), (2, .int x2)]) hx hb dX4_wakeStop_66 hl (k := 3) rfl rfl (by decide) rfl (fun ls hl => ?_)
  refine lv_goto (tgt := 18) hx hb dX4_wakeStop_69 (by decide) ?_
  exact K18 x1 x2 (x3 + 1) z0 _ _ _ h hP hS (lv_sub hl [1, 2, 3, 0] rfl)
set_option maxRecDepth 100000 in
set_option maxHeartbeats 4000000 in
theorem wX4_wakeStop_18 {p : Program} {l : Launch} {e : Env} {R : Room} {s : State} {m : MethodId} {args : Array Value} {below : List Frame} {meth : Method} {c : Code} {Q : State → Prop} {D : va_G} {cI cJ cZ : ClassId} {ad : Nat → Nat} {A : Nat → Prop} (C : Cx p s m args c cX4_wakeStop 4 wsX4_wakeStop RX4 D vwCl (tyl cI cJ cZ) (wH cI cJ cZ ad) A R 1 22) {r : (Int32 × SH)} (hR : Ri p l e R s m args below meth c cX4_wakeStop D vwCl (wH cI cJ cZ ad) A Q r) (N : Nat) (k18 : Int32 → Int32 → Int32 → SH → Option (Int32 × SH)) (K18 : ∀ (x1 : Int32) (x2 : Int32) (x3 : Int32) (z : SH) (H : Heap) (locs : List Loc) (ls : Array Slot), k18 x1 x2 x3 z = some r → va_P D vwCl (wH cI cJ cZ ad z) H → va_S A s.heap H locs → lv_has ls 4 [(0, .ref (ad 0)), (1, .int x1), (2, .int x2), (3, .int x3)] → W p l e R s m args below meth c H locs 0 0 Q (F0 m 18 ls [])) (x1 : Int32) (x2 : Int32) (x3 : Int32) (z0 : SH) {H : Heap} {locs : List Loc} {ls : Array Slot} (h : fX4_wakeStop_18 N k18 x1 x2 x3 z0 = some r) (hP : va_P D vwCl (wH cI cJ cZ ad z0) H) (hS : va_S A s.heap H locs) (hl : lv_has ls 4 [(0, .ref (ad 0)), (1, .int x1), (2, .int x2), (3, .int x3)]) : W p l e R s m args below meth c H locs 0 0 Q (F0 m 18 ls []) := by
  unfold fX4_wakeStop_18 at h
  have hx := C.1.1
  have hb := C.1.2.1
  refine lv_iload_n hx hb dX4_wakeStop_18 rfl (lv_at hl 3 rfl) ?_
  refine lv_aload_n hx hb dX4_wakeStop_19 rfl (lv_at hl 0 rfl) ?_
  refine b_getr C hP iX4_wakeStop_X4 0 (wH_0 cI cJ cZ ad z0) rfl 1 (by decide) fX4_wakeStop_i19 rfl rfl dX4_wakeStop_20 ?_
  refine b_geti C hP h iX4_wakeStop_X2 2 (wH_2 cI cJ cZ ad z0) rfl 11 (by decide) fX4_wakeStop_i100 rfl rfl dX4_wakeStop_23 (fun v1 h => ?_)
  refine lv_icmp_ge (tgt := 72) hx hb dX4_wakeStop_26 (by decide) (fun c1 => ?_) (fun c1 => ?_)
  · replace h := (ite_h h).1 c1
    refine lv_iconst (v := -1) hx hb dX4_wakeStop_72 (by decide) ?_
    exact hR 73 _ _ _ _ _ (Option.some.inj h).symm dX4_wakeStop_73 hP hS
  · replace h := (ite_h h).2 c1
    refine lv_aload_n hx hb dX4_wakeStop_29 rfl (lv_at hl 0 rfl) ?_
    refine b_getr C hP iX4_wakeStop_X4 0 (wH_0 cI cJ cZ ad z0) rfl 1 (by decide) fX4_wakeStop_i19 rfl rfl dX4_wakeStop_30 ?_
    refine b_getr C hP iX4_wakeStop_X2 2 (wH_2 cI cJ cZ ad z0) rfl 1 (by decide) fX4_wakeStop_i211 rfl rfl dX4_wakeStop_33 ?_
    refine lv_iload_n hx hb dX4_wakeStop_36 rfl (lv_at hl 3 rfl) ?_
    refine b_iald C hP h 13 (wH_13 cI cJ cZ ad z0) 0 rfl dX4_wakeStop_37 (fun v2 h => ?_)
    refine lv_iload_n hx hb dX4_wakeStop_38 rfl (lv_at hl 1 rfl) ?_
    refine lv_icmp_ne (tgt := 66) hx hb dX4_wakeStop_39 (by decide) (fun c1 => ?_) (fun c1 => ?_)
    · replace h := (ite_h h).2 c1
      exact wX4_wakeStop_66 C hR N k18 K18 x1 x2 x3 z0 h hP hS (lv_sub hl [0, 1, 2, 3] rfl)
    · replace h := (ite_h h).1 c1
      refine lv_aload_n hx hb dX4_wakeStop_42 rfl (lv_at hl 0 rfl) ?_
      refine b_getr C hP iX4_wakeStop_X4 0 (wH_0 cI cJ cZ ad z0) rfl 1 (by decide) fX4_wakeStop_i19 rfl rfl dX4_wakeStop_43 ?_
      refine lv_iload_n hx hb dX4_wakeStop_46 rfl (lv_at hl 3 rfl) ?_
      refine lv_iload_n hx hb dX4_wakeStop_47 rfl (lv_at hl 2 rfl) ?_
      refine b_callVi (As := [.int x3, .int x2]) (rest := []) C hP hS h (mX2_isWokenBy l D cI cJ cZ ad x3 x2 z0) (cwV 2 C.1.2.2.2.2 gX4_wakeStop_X2_isWokenBy rfl rfl rfl (by decide +kernel) ⟨Nat.le_trans (Nat.le_of_ble_eq_true rfl) C.2.2.2.2.1, Nat.le_trans (Nat.le_of_ble_eq_true rfl) C.2.2.2.2.2⟩) (va_recv C.2.1 hP (ci := 2) (q0 := 2) rfl (wH_2 cI cJ cZ ad z0)) rfl hl.1 rfl (Nat.le_of_ble_eq_true rfl) dX4_wakeStop_48 (fun v4 z3 _ _ h hP hS => ?_)
      refine lv_if_eq (tgt := 66) hx hb dX4_wakeStop_51 (by decide) (fun c1 => ?_) (fun c1 => ?_)
      · replace h := (ite_h h).1 c1
        exact wX4_wakeStop_66 C hR N k18 K18 x1 x2 x3 z3 h hP hS (lv_sub hl [0, 1, 2, 3] rfl)
      · replace h := (ite_h h).2 c1
        refine lv_aload_n hx hb dX4_wakeStop_54 rfl (lv_at hl 0 rfl) ?_
        refine b_getr C hP iX4_wakeStop_X4 0 (wH_0 cI cJ cZ ad z3) rfl 1 (by decide) fX4_wakeStop_i19 rfl rfl dX4_wakeStop_55 ?_
        refine b_getr C hP iX4_wakeStop_X2 2 (wH_2 cI cJ cZ ad z3) rfl 3 (by decide) fX4_wakeStop_i291 rfl rfl dX4_wakeStop_58 ?_
        refine lv_iload_n hx hb dX4_wakeStop_61 rfl (lv_at hl 3 rfl) ?_
        refine lv_iconst (v := 0) hx hb dX4_wakeStop_62 (by decide) ?_
        refine b_iast C hP hS h 15 (wH_15 cI cJ cZ ad z3) 0 rfl (wH_s15 cI cJ cZ ad z3 _ _) dX4_wakeStop_63 (fun z5 _ _ h hP hS => ?_)
        refine lv_iload_n hx hb dX4_wakeStop_64 rfl (lv_at hl 3 rfl) ?_
        exact hR 65 _ _ _ _ _ (Option.some.inj h).symm dX4_wakeStop_65 hP hS
theorem wX4_wakeStop_18_L {p : Program} {l : Launch} {e : Env} {R : Room} {s : State} {m : MethodId} {args : Array Value} {below : List Frame} {meth : Method} {c : Code} {Q : State → Prop} {D : va_G} {cI cJ cZ : ClassId} {ad : Nat → Nat} {A : Nat → Prop} (C : Cx p s m args c cX4_wakeStop 4 wsX4_wakeStop RX4 D vwCl (tyl cI cJ cZ) (wH cI cJ cZ ad) A R 1 22) {r : (Int32 × SH)} (hR : Ri p l e R s m args below meth c cX4_wakeStop D vwCl (wH cI cJ cZ ad) A Q r) (N : Nat) : ∀ (n : Nat), ∀ (x1 : Int32) (x2 : Int32) (x3 : Int32) (z : SH) (H : Heap) (locs : List Loc) (ls : Array Slot), fX4_wakeStop_18_L N n x1 x2 x3 z = some r → va_P D vwCl (wH cI cJ cZ ad z) H → va_S A s.heap H locs → lv_has ls 4 [(0, .ref (ad 0)), (1, .int x1), (2, .int x2), (3, .int x3)] → W p l e R s m args below meth c H locs 0 0 Q (F0 m 18 ls []) := by
  intro n
  induction n with
  | zero => intro x1 x2 x3 z H locs ls h; exact nomatch (show (none : Option (Int32 × SH)) = some r from h)
  | succ n ih => intro x1 x2 x3 z H locs ls h hP hS hl; exact wX4_wakeStop_18 C hR N (fX4_wakeStop_18_L N n) ih x1 x2 x3 z (show fX4_wakeStop_18 N (fX4_wakeStop_18_L N n) x1 x2 x3 z = some r from h) hP hS hl
set_option maxRecDepth 100000 in
set_option maxHeartbeats 4000000 in
theorem wX4_wakeStop {p : Program} {l : Launch} {e : Env} {R : Room} {s : State} {m : MethodId} {args : Array Value} {below : List Frame} {meth : Method} {c : Code} {Q : State → Prop} {D : va_G} {cI cJ cZ : ClassId} {ad : Nat → Nat} {A : Nat → Prop} (C : Cx p s m args c cX4_wakeStop 4 wsX4_wakeStop RX4 D vwCl (tyl cI cJ cZ) (wH cI cJ cZ ad) A R 1 22) {r : (Int32 × SH)} (hR : Ri p l e R s m args below meth c cX4_wakeStop D vwCl (wH cI cJ cZ ad) A Q r) (N : Nat) (a1 : Int32) (z0 : SH) {H : Heap} {locs : List Loc} {ls : Array Slot} (h : fX4_wakeStop N a1 z0 = some r) (hP : va_P D vwCl (wH cI cJ cZ ad z0) H) (hS : va_S A s.heap H locs) (hl : lv_has ls 4 [(0, .ref (ad 0)), (1, .int a1)]) : W p l e R s m args below meth c H locs 0 0 Q (F0 m 0 ls []) := by
  unfold fX4_wakeStop at h
  have hx := C.1.1
  have hb := C.1.2.1
  refine lv_aload_n hx hb dX4_wakeStop_0 rfl (lv_at hl 0 rfl) ?_
  refine b_getr C hP iX4_wakeStop_X4 0 (wH_0 cI cJ cZ ad z0) rfl 3 (by decide) fX4_wakeStop_i35 rfl rfl dX4_wakeStop_1 ?_
  refine b_getr C hP iX4_wakeStop_X3 4 (wH_4 cI cJ cZ ad z0) rfl 4 (by decide) fX4_wakeStop_i255 rfl rfl dX4_wakeStop_4 ?_
  refine lv_iload_n hx hb dX4_wakeStop_7 rfl (lv_at hl 1 rfl) ?_
  refine b_iald C hP h 29 (wH_29 cI cJ cZ ad z0) 0 rfl dX4_wakeStop_8 (fun v1 h => ?_)
  refine lv_istore_n (lv' := [(2, .int v1), (0, .ref (ad 0)), (1, .int a1)]) hx hb dX4_wakeStop_9 rfl hl (by decide) rfl (fun ls hl => ?_)
  refine lv_iload_n hx hb dX4_wakeStop_10 rfl (lv_at hl 0 rfl) ?_
  refine lv_if_ne (tgt := 16) hx hb dX4_wakeStop_11 (by decide) (fun c1 => ?_) (fun c1 => ?_)
  · replace h := (ite_h h).2 c1
    refine lv_iconst (v := 0) hx hb dX4_wakeStop_16 (by decide) ?_
    refine lv_istore_n (lv' := [(3, .int 0), (2, .int v1), (0, .ref (ad 0)), (1, .int a1)]) hx hb dX4_wakeStop_17 rfl hl (by decide) rfl (fun ls hl => ?_)
    exact wX4_wakeStop_18_L C hR N N a1 v1 0 z0 _ _ _ h hP hS (lv_sub hl [2, 3, 1, 0] rfl)
  · replace h := (ite_h h).1 c1
    refine lv_iconst (v := -1) hx hb dX4_wakeStop_14 (by decide) ?_
    exact hR 15 _ _ _ _ _ (Option.some.inj h).symm dX4_wakeStop_15 hP hS
theorem mX4_wakeStop (l : Launch) (D : va_G) (cI cJ cZ : ClassId) (ad : Nat → Nat) (N : Nat) (a1 : Int32) (z0 : SH) : ∀ (q : (Int32 × SH)) (sz : Nat), fX4_wakeStop N a1 z0 = some q → Met l yX4_wakeStop wsX4_wakeStop rmX4_wakeStop (cP D vwCl (tyl cI cJ cZ) (wH cI cJ cZ ad z0) sz [.ref (ad 0), .int a1]) (cQi D vwCl (wH cI cJ cZ ad) z0 sz q) 0 0 (va_A (wH cI cJ cZ ad z0) sz) := by
  intro q sz h
  refine ofW_i (cc := cX4_wakeStop) (maxL := 4) (by decide) rfl (wH_same cI cJ cZ ad) (Nat.le_of_ble_eq_true rfl) (fun p e s m below meth c ls hsz C hR hP hl => ?_)
  exact wX4_wakeStop C hR N a1 z0 h hP va_S.rf hl
abbrev rmX2_isThere : Room := { frames := 0, cells := 0, slots := 0, locals := 0 }
theorem fX2_isThere_i36 : Cond.fieldLink RX2 36 (TX2 8).1 (TX2 8).2.1 (TX2 8).2.2.1 ∈ wsX2_isThere := by decide +kernel
theorem iX2_isThere_X2 : ∀ x ∈ wsX20, x ∈ wsX2_isThere := by decide +kernel
set_option maxRecDepth 100000 in
set_option maxHeartbeats 4000000 in
theorem wX2_isThere_24 {p : Program} {l : Launch} {e : Env} {R : Room} {s : State} {m : MethodId} {args : Array Value} {below : List Frame} {meth : Method} {c : Code} {Q : State → Prop} {D : va_G} {cI cJ cZ : ClassId} {ad : Nat → Nat} {A : Nat → Prop} (C : Cx p s m args c cX2_isThere 2 wsX2_isThere RX2 D vwCl (tyl cI cJ cZ) (wH cI cJ cZ ad) A R 0 0) {r : (Int32 × SH)} (hR : Rz p l e R s m args below meth c cX2_isThere D vwCl (wH cI cJ cZ ad) A Q r) (t0 : Int32) (z0 : SH) {H : Heap} {locs : List Loc} {ls : Array Slot} (h : fX2_isThere_24 t0 z0 = some r) (hP : va_P D vwCl (wH cI cJ cZ ad z0) H) (hS : va_S A s.heap H locs) (hl : lv_has ls 2 []) : W p l e R s m args below meth c H locs 0 0 Q (F0 m 24 ls [.int t0]) := by
  unfold fX2_isThere_24 at h
  have hx := C.1.1
  have hb := C.1.2.1
  exact hR 24 _ _ _ _ _ h dX2_isThere_24 hP hS
set_option maxRecDepth 100000 in
set_option maxHeartbeats 4000000 in
theorem wX2_isThere_19 {p : Program} {l : Launch} {e : Env} {R : Room} {s : State} {m : MethodId} {args : Array Value} {below : List Frame} {meth : Method} {c : Code} {Q : State → Prop} {D : va_G} {cI cJ cZ : ClassId} {ad : Nat → Nat} {A : Nat → Prop} (C : Cx p s m args c cX2_isThere 2 wsX2_isThere RX2 D vwCl (tyl cI cJ cZ) (wH cI cJ cZ ad) A R 0 0) {r : (Int32 × SH)} (hR : Rz p l e R s m args below meth c cX2_isThere D vwCl (wH cI cJ cZ ad) A Q r) (z0 : SH) {H : Heap} {locs : List Loc} {ls : Array Slot} (h : fX2_isThere_19 z0 = some r) (hP : va_P D vwCl (wH cI cJ cZ ad z0) H) (hS : va_S A s.heap H locs) (hl : lv_has ls 2 []) : W p l e R s m args below meth c H locs 0 0 Q (F0 m 19 ls []) := by
  unfold fX2_isThere_19 at h
  have hx := C.1.1
  have hb := C.1.2.1
  refine lv_iconst (v := 1) hx hb dX2_isThere_19 (by decide) ?_
  refine lv_goto (tgt := 24) hx hb dX2_isThere_20 (by decide) ?_
  exact wX2_isThere_24 C hR 1 z0 h hP hS (lv_sub hl [] rfl)
set_option maxRecDepth 100000 in
set_option maxHeartbeats 4000000 in
theorem wX2_isThere {p : Program} {l : Launch} {e : Env} {R : Room} {s : State} {m : MethodId} {args : Array Value} {below : List Frame} {meth : Method} {c : Code} {Q : State → Prop} {D : va_G} {cI cJ cZ : ClassId} {ad : Nat → Nat} {A : Nat → Prop} (C : Cx p s m args c cX2_isThere 2 wsX2_isThere RX2 D vwCl (tyl cI cJ cZ) (wH cI cJ cZ ad) A R 0 0) {r : (Int32 × SH)} (hR : Rz p l e R s m args below meth c cX2_isThere D vwCl (wH cI cJ cZ ad) A Q r) (a1 : Int32) (z0 : SH) {H : Heap} {locs : List Loc} {ls : Array Slot} (h : fX2_isThere a1 z0 = some r) (hP : va_P D vwCl (wH cI cJ cZ ad z0) H) (hS : va_S A s.heap H locs) (hl : lv_has ls 2 [(0, .ref (ad 2)), (1, .int a1)]) : W p l e R s m args below meth c H locs 0 0 Q (F0 m 0 ls []) := by
  unfold fX2_isThere at h
  have hx := C.1.1
  have hb := C.1.2.1
  refine lv_aload_n hx hb dX2_isThere_0 rfl (lv_at hl 0 rfl) ?_
  refine b_getr C hP iX2_isThere_X2 2 (wH_2 cI cJ cZ ad z0) rfl 8 (by decide) fX2_isThere_i36 rfl rfl dX2_isThere_1 ?_
  refine lv_iload_n hx hb dX2_isThere_4 rfl (lv_at hl 1 rfl) ?_
  refine b_iald C hP h 20 (wH_20 cI cJ cZ ad z0) 0 rfl dX2_isThere_5 (fun v1 h => ?_)
  refine lv_if_eq (tgt := 19) hx hb dX2_isThere_6 (by decide) (fun c1 => ?_) (fun c1 => ?_)
  · replace h := (ite_h h).1 c1
    exact wX2_isThere_19 C hR z0 h hP hS (lv_sub hl [] rfl)
  · replace h := (ite_h h).2 c1
    refine lv_aload_n hx hb dX2_isThere_9 rfl (lv_at hl 0 rfl) ?_
    refine b_getr C hP iX2_isThere_X2 2 (wH_2 cI cJ cZ ad z0) rfl 8 (by decide) fX2_isThere_i36 rfl rfl dX2_isThere_10 ?_
    refine lv_iload_n hx hb dX2_isThere_13 rfl (lv_at hl 1 rfl) ?_
    refine b_iald C hP h 20 (wH_20 cI cJ cZ ad z0) 0 rfl dX2_isThere_14 (fun v2 h => ?_)
    refine lv_iconst (v := 1) hx hb dX2_isThere_15 (by decide) ?_
    refine lv_icmp_ne (tgt := 23) hx hb dX2_isThere_16 (by decide) (fun c1 => ?_) (fun c1 => ?_)
    · replace h := (ite_h h).2 c1
      refine lv_iconst (v := 0) hx hb dX2_isThere_23 (by decide) ?_
      exact wX2_isThere_24 C hR 0 z0 h hP hS (lv_sub hl [] rfl)
    · replace h := (ite_h h).1 c1
      exact wX2_isThere_19 C hR z0 h hP hS (lv_sub hl [] rfl)
theorem mX2_isThere (l : Launch) (D : va_G) (cI cJ cZ : ClassId) (ad : Nat → Nat) (a1 : Int32) (z0 : SH) : ∀ (q : (Int32 × SH)) (sz : Nat), fX2_isThere a1 z0 = some q → Met l yX2_isThere wsX2_isThere rmX2_isThere (cP D vwCl (tyl cI cJ cZ) (wH cI cJ cZ ad z0) sz [.ref (ad 2), .int a1]) (cQi D vwCl (wH cI cJ cZ ad) z0 sz q) 0 0 (va_A (wH cI cJ cZ ad z0) sz) := by
  intro q sz h
  refine ofW_z (cc := cX2_isThere) (maxL := 2) (by decide) rfl (wH_same cI cJ cZ ad) (Nat.le_of_ble_eq_true rfl) (fun p e s m below meth c ls hsz C hR hP hl => ?_)
  exact wX2_isThere C hR a1 z0 h hP va_S.rf hl
abbrev rmX4_takeAway : Room := { frames := 3, cells := 0, slots := 0, locals := 66 }
theorem fX4_takeAway_i19 : Cond.fieldLink RX4 19 (TX4 1).1 (TX4 1).2.1 (TX4 1).2.2.1 ∈ wsX4_takeAway := by decide +kernel
theorem fX4_takeAway_i201 : Cond.fieldLink RX4 201 (TX2 8).1 (TX2 8).2.1 (TX2 8).2.2.1 ∈ wsX4_takeAway := by decide +kernel
theorem fX4_takeAway_i28 : Cond.fieldLink RX4 28 (TX4 2).1 (TX4 2).2.1 (TX4 2).2.2.1 ∈ wsX4_takeAway := by decide +kernel
theorem iX4_takeAway_X2 : ∀ x ∈ wsX20, x ∈ wsX4_takeAway := by decide +kernel
theorem iX4_takeAway_X4 : ∀ x ∈ wsX40, x ∈ wsX4_takeAway := by decide +kernel
set_option maxRecDepth 100000 in
set_option maxHeartbeats 4000000 in
theorem wX4_takeAway_20 {p : Program} {l : Launch} {e : Env} {R : Room} {s : State} {m : MethodId} {args : Array Value} {below : List Frame} {meth : Method} {c : Code} {Q : State → Prop} {D : va_G} {cI cJ cZ : ClassId} {ad : Nat → Nat} {A : Nat → Prop} (C : Cx p s m args c cX4_takeAway 2 wsX4_takeAway RX4 D vwCl (tyl cI cJ cZ) (wH cI cJ cZ ad) A R 3 66) {r : (Unit × SH)} (hR : Rv p l e R s m args below meth c cX4_takeAway D vwCl (wH cI cJ cZ ad) A Q r) (N : Nat) (x1 : Int32) (z0 : SH) {H : Heap} {locs : List Loc} {ls : Array Slot} (h : fX4_takeAway_20 N x1 z0 = some r) (hP : va_P D vwCl (wH cI cJ cZ ad z0) H) (hS : va_S A s.heap H locs) (hl : lv_has ls 2 [(0, .ref (ad 0)), (1, .int x1)]) : W p l e R s m args below meth c H locs 0 0 Q (F0 m 20 ls []) := by
  unfold fX4_takeAway_20 at h
  have hx := C.1.1
  have hb := C.1.2.1
  refine lv_aload_n hx hb dX4_takeAway_20 rfl (lv_at hl 0 rfl) ?_
  refine lv_iload_n hx hb dX4_takeAway_21 rfl (lv_at hl 1 rfl) ?_
  refine lv_iconst (v := 3) hx hb dX4_takeAway_22 (by decide) ?_
  refine b_callVv (As := [.int x1, .int 3]) (rest := []) C hP hS h (mX4_close l D cI cJ cZ ad x1 3 z0) (cwV 2 C.1.2.2.2.2 gX4_takeAway_X4_close rfl rfl rfl (by decide +kernel) ⟨Nat.le_trans (Nat.le_of_ble_eq_true rfl) C.2.2.2.2.1, Nat.le_trans (Nat.le_of_ble_eq_true rfl) C.2.2.2.2.2⟩) (va_recv C.2.1 hP (ci := 4) (q0 := 0) rfl (wH_0 cI cJ cZ ad z0)) rfl hl.1 rfl (Nat.le_of_ble_eq_true rfl) dX4_takeAway_23 (fun _ z1 _ _ h hP hS => ?_)
  exact hR 26 _ _ _ _ (Option.some.inj h).symm dX4_takeAway_26 hP hS
set_option maxRecDepth 100000 in
set_option maxHeartbeats 4000000 in
theorem wX4_takeAway {p : Program} {l : Launch} {e : Env} {R : Room} {s : State} {m : MethodId} {args : Array Value} {below : List Frame} {meth : Method} {c : Code} {Q : State → Prop} {D : va_G} {cI cJ cZ : ClassId} {ad : Nat → Nat} {A : Nat → Prop} (C : Cx p s m args c cX4_takeAway 2 wsX4_takeAway RX4 D vwCl (tyl cI cJ cZ) (wH cI cJ cZ ad) A R 3 66) {r : (Unit × SH)} (hR : Rv p l e R s m args below meth c cX4_takeAway D vwCl (wH cI cJ cZ ad) A Q r) (N : Nat) (a1 : Int32) (z0 : SH) {H : Heap} {locs : List Loc} {ls : Array Slot} (h : fX4_takeAway N a1 z0 = some r) (hP : va_P D vwCl (wH cI cJ cZ ad z0) H) (hS : va_S A s.heap H locs) (hl : lv_has ls 2 [(0, .ref (ad 0)), (1, .int a1)]) : W p l e R s m args below meth c H locs 0 0 Q (F0 m 0 ls []) := by
  unfold fX4_takeAway at h
  have hx := C.1.1
  have hb := C.1.2.1
  refine lv_aload_n hx hb dX4_takeAway_0 rfl (lv_at hl 0 rfl) ?_
  refine b_getr C hP iX4_takeAway_X4 0 (wH_0 cI cJ cZ ad z0) rfl 1 (by decide) fX4_takeAway_i19 rfl rfl dX4_takeAway_1 ?_
  refine b_getr C hP iX4_takeAway_X2 2 (wH_2 cI cJ cZ ad z0) rfl 8 (by decide) fX4_takeAway_i201 rfl rfl dX4_takeAway_4 ?_
  refine lv_iload_n hx hb dX4_takeAway_7 rfl (lv_at hl 1 rfl) ?_
  refine b_iald C hP h 20 (wH_20 cI cJ cZ ad z0) 0 rfl dX4_takeAway_8 (fun v1 h => ?_)
  refine lv_if_ne (tgt := 20) hx hb dX4_takeAway_9 (by decide) (fun c1 => ?_) (fun c1 => ?_)
  · replace h := (ite_h h).2 c1
    exact wX4_takeAway_20 C hR N a1 z0 h hP hS (lv_sub hl [0, 1] rfl)
  · replace h := (ite_h h).1 c1
    refine lv_aload_n hx hb dX4_takeAway_12 rfl (lv_at hl 0 rfl) ?_
    refine b_getr C hP iX4_takeAway_X4 0 (wH_0 cI cJ cZ ad z0) rfl 2 (by decide) fX4_takeAway_i28 rfl rfl dX4_takeAway_13 ?_
    refine lv_iload_n hx hb dX4_takeAway_16 rfl (lv_at hl 1 rfl) ?_
    refine b_callVv (As := [.int a1]) (rest := []) C hP hS h (mX0_drop l D cI cJ cZ ad N a1 z0) (cwV 1 C.1.2.2.2.2 gX4_takeAway_X0_drop rfl rfl rfl (by decide +kernel) ⟨Nat.le_trans (Nat.le_of_ble_eq_true rfl) C.2.2.2.2.1, Nat.le_trans (Nat.le_of_ble_eq_true rfl) C.2.2.2.2.2⟩) (va_recv C.2.1 hP (ci := 0) (q0 := 3) rfl (wH_3 cI cJ cZ ad z0)) rfl hl.1 rfl (Nat.le_of_ble_eq_true rfl) dX4_takeAway_17 (fun _ z2 _ _ h hP hS => ?_)
    exact wX4_takeAway_20 C hR N a1 z2 h hP hS (lv_sub hl [0, 1] rfl)
theorem mX4_takeAway (l : Launch) (D : va_G) (cI cJ cZ : ClassId) (ad : Nat → Nat) (N : Nat) (a1 : Int32) (z0 : SH) : ∀ (q : (Unit × SH)) (sz : Nat), fX4_takeAway N a1 z0 = some q → Met l yX4_takeAway wsX4_takeAway rmX4_takeAway (cP D vwCl (tyl cI cJ cZ) (wH cI cJ cZ ad z0) sz [.ref (ad 0), .int a1]) (cQv D vwCl (wH cI cJ cZ ad) z0 sz q) 0 0 (va_A (wH cI cJ cZ ad z0) sz) := by
  intro q sz h
  refine ofW_v (cc := cX4_takeAway) (maxL := 2) (by decide) rfl (wH_same cI cJ cZ ad) (Nat.le_of_ble_eq_true rfl) (fun p e s m below meth c ls hsz C hR hP hl => ?_)
  exact wX4_takeAway C hR N a1 z0 h hP va_S.rf hl
abbrev rmX0_countPrices : Room := { frames := 0, cells := 0, slots := 0, locals := 0 }
theorem fX0_countPrices_i15 : Cond.fieldLink RX0 15 (TX0 2).1 (TX0 2).2.1 (TX0 2).2.2.1 ∈ wsX0_countPrices := by decide +kernel
theorem fX0_countPrices_i18 : Cond.fieldLink RX0 18 (TX0 0).1 (TX0 0).2.1 (TX0 0).2.2.1 ∈ wsX0_countPrices := by decide +kernel
theorem fX0_countPrices_i34 : Cond.fieldLink RX0 34 (TX2 4).1 (TX2 4).2.1 (TX2 4).2.2.1 ∈ wsX0_countPrices := by decide +kernel
theorem fX0_countPrices_i9 : Cond.fieldLink RX0 9 (TX0 1).1 (TX0 1).2.1 (TX0 1).2.2.1 ∈ wsX0_countPrices := by decide +kernel
theorem iX0_countPrices_X0 : ∀ x ∈ wsX00, x ∈ wsX0_countPrices := by decide +kernel
theorem iX0_countPrices_X2 : ∀ x ∈ wsX20, x ∈ wsX0_countPrices := by decide +kernel
set_option maxRecDepth 100000 in
set_option maxHeartbeats 4000000 in
theorem wX0_countPrices_52 {p : Program} {l : Launch} {e : Env} {R : Room} {s : State} {m : MethodId} {args : Array Value} {below : List Frame} {meth : Method} {c : Code} {Q : State → Prop} {D : va_G} {cI cJ cZ : ClassId} {ad : Nat → Nat} {A : Nat → Prop} (C : Cx p s m args c cX0_countPrices 6 wsX0_countPrices RX0 D vwCl (tyl cI cJ cZ) (wH cI cJ cZ ad) A R 0 0) {r : (Int32 × SH)} (hR : Ri p l e R s m args below meth c cX0_countPrices D vwCl (wH cI cJ cZ ad) A Q r) (N : Nat) (k7 : Int32 → Int32 → Int32 → Int32 → SH → Option (Int32 × SH)) (K7 : ∀ (x1 : Int32) (x2 : Int32) (x3 : Int32) (x4 : Int32) (z : SH) (H : Heap) (locs : List Loc) (ls : Array Slot), k7 x1 x2 x3 x4 z = some r → va_P D vwCl (wH cI cJ cZ ad z) H → va_S A s.heap H locs → lv_has ls 6 [(0, .ref (ad 3)), (1, .int x1), (2, .int x2), (3, .int x3), (4, .int x4)] → W p l e R s m args below meth c H locs 0 0 Q (F0 m 7 ls [])) (x1 : Int32) (x2 : Int32) (x3 : Int32) (x4 : Int32) (z0 : SH) {H : Heap} {locs : List Loc} {ls : Array Slot} (h : fX0_countPrices_52 N k7 x1 x2 x3 x4 z0 = some r) (hP : va_P D vwCl (wH cI cJ cZ ad z0) H) (hS : va_S A s.heap H locs) (hl : lv_has ls 6 [(0, .ref (ad 3)), (1, .int x1), (2, .int x2), (3, .int x3), (4, .int x4)]) : W p l e R s m args below meth c H locs 0 0 Q (F0 m 52 ls []) := by
  unfold fX0_countPrices_52 at h
  have hx := C.1.1
  have hb := C.1.2.1
  refine lv_iinc (v := x4 + 1) (lv' := [(4, .int (x4 + 1)), (0, .ref (ad 3)), (1, .int x1), (2, .int x2), (3, .int x3)]) hx hb dX0_countPrices_52 hl (k := 4) rfl rfl (by decide) rfl (fun ls hl => ?_)
  refine lv_goto (tgt := 7) hx hb dX0_countPrices_55 (by decide) ?_
  exact K7 x1 x2 x3 (x4 + 1) z0 _ _ _ h hP hS (lv_sub hl [1, 2, 3, 4, 0] rfl)
set_option maxRecDepth 100000 in
set_option maxHeartbeats 4000000 in
theorem wX0_countPrices_7 {p : Program} {l : Launch} {e : Env} {R : Room} {s : State} {m : MethodId} {args : Array Value} {below : List Frame} {meth : Method} {c : Code} {Q : State → Prop} {D : va_G} {cI cJ cZ : ClassId} {ad : Nat → Nat} {A : Nat → Prop} (C : Cx p s m args c cX0_countPrices 6 wsX0_countPrices RX0 D vwCl (tyl cI cJ cZ) (wH cI cJ cZ ad) A R 0 0) {r : (Int32 × SH)} (hR : Ri p l e R s m args below meth c cX0_countPrices D vwCl (wH cI cJ cZ ad) A Q r) (N : Nat) (k7 : Int32 → Int32 → Int32 → Int32 → SH → Option (Int32 × SH)) (K7 : ∀ (x1 : Int32) (x2 : Int32) (x3 : Int32) (x4 : Int32) (z : SH) (H : Heap) (locs : List Loc) (ls : Array Slot), k7 x1 x2 x3 x4 z = some r → va_P D vwCl (wH cI cJ cZ ad z) H → va_S A s.heap H locs → lv_has ls 6 [(0, .ref (ad 3)), (1, .int x1), (2, .int x2), (3, .int x3), (4, .int x4)] → W p l e R s m args below meth c H locs 0 0 Q (F0 m 7 ls [])) (x1 : Int32) (x2 : Int32) (x3 : Int32) (x4 : Int32) (z0 : SH) {H : Heap} {locs : List Loc} {ls : Array Slot} (h : fX0_countPrices_7 N k7 x1 x2 x3 x4 z0 = some r) (hP : va_P D vwCl (wH cI cJ cZ ad z0) H) (hS : va_S A s.heap H locs) (hl : lv_has ls 6 [(0, .ref (ad 3)), (1, .int x1), (2, .int x2), (3, .int x3), (4, .int x4)]) : W p l e R s m args below meth c H locs 0 0 Q (F0 m 7 ls []) := by
  unfold fX0_countPrices_7 at h
  have hx := C.1.1
  have hb := C.1.2.1
  refine lv_iload hx hb dX0_countPrices_7 (lv_at hl 4 rfl) ?_
  refine lv_aload_n hx hb dX0_countPrices_9 rfl (lv_at hl 0 rfl) ?_
  refine b_getr C hP iX0_countPrices_X0 3 (wH_3 cI cJ cZ ad z0) rfl 2 (by decide) fX0_countPrices_i15 rfl rfl dX0_countPrices_10 ?_
  refine lv_iload_n hx hb dX0_countPrices_13 rfl (lv_at hl 1 rfl) ?_
  refine b_iald C hP h 24 (wH_24 cI cJ cZ ad z0) 0 rfl dX0_countPrices_14 (fun v1 h => ?_)
  refine lv_icmp_ge (tgt := 58) hx hb dX0_countPrices_15 (by decide) (fun c1 => ?_) (fun c1 => ?_)
  · replace h := (ite_h h).1 c1
    refine lv_iload_n hx hb dX0_countPrices_58 rfl (lv_at hl 2 rfl) ?_
    exact hR 59 _ _ _ _ _ (Option.some.inj h).symm dX0_countPrices_59 hP hS
  · replace h := (ite_h h).2 c1
    refine lv_aload_n hx hb dX0_countPrices_18 rfl (lv_at hl 0 rfl) ?_
    refine b_getr C hP iX0_countPrices_X0 3 (wH_3 cI cJ cZ ad z0) rfl 0 (by decide) fX0_countPrices_i18 rfl rfl dX0_countPrices_19 ?_
    refine b_getr C hP iX0_countPrices_X2 2 (wH_2 cI cJ cZ ad z0) rfl 4 (by decide) fX0_countPrices_i34 rfl rfl dX0_countPrices_22 ?_
    refine lv_aload_n hx hb dX0_countPrices_25 rfl (lv_at hl 0 rfl) ?_
    refine b_getr C hP iX0_countPrices_X0 3 (wH_3 cI cJ cZ ad z0) rfl 1 (by decide) fX0_countPrices_i9 rfl rfl dX0_countPrices_26 ?_
    refine lv_iload_n hx hb dX0_countPrices_29 rfl (lv_at hl 1 rfl) ?_
    refine lv_bipush (v := 100) hx hb dX0_countPrices_30 (by decide) ?_
    refine lv_imul hx hb dX0_countPrices_32 ?_
    refine lv_iload hx hb dX0_countPrices_33 (lv_at hl 4 rfl) ?_
    refine lv_iadd hx hb dX0_countPrices_35 ?_
    refine b_iald C hP h 23 (wH_23 cI cJ cZ ad z0) 0 rfl dX0_countPrices_36 (fun v2 h => ?_)
    refine b_iald C hP h 16 (wH_16 cI cJ cZ ad z0) 0 rfl dX0_countPrices_37 (fun v3 h => ?_)
    refine lv_istore (lv' := [(5, .int v3), (0, .ref (ad 3)), (1, .int x1), (2, .int x2), (3, .int x3), (4, .int x4)]) hx hb dX0_countPrices_38 hl (by decide) rfl (fun ls hl => ?_)
    refine lv_iload hx hb dX0_countPrices_40 (lv_at hl 0 rfl) ?_
    refine lv_iload_n hx hb dX0_countPrices_42 rfl (lv_at hl 4 rfl) ?_
    refine lv_icmp_eq (tgt := 52) hx hb dX0_countPrices_43 (by decide) (fun c1 => ?_) (fun c1 => ?_)
    · replace h := (ite_h h).1 c1
      exact wX0_countPrices_52 C hR N k7 K7 x1 x2 x3 x4 z0 h hP hS (lv_sub hl [1, 2, 3, 4, 5] rfl)
    · replace h := (ite_h h).2 c1
      refine lv_iinc (v := x2 + 1) (lv' := [(2, .int (x2 + 1)), (5, .int v3), (0, .ref (ad 3)), (1, .int x1), (3, .int x3), (4, .int x4)]) hx hb dX0_countPrices_46 hl (k := 3) rfl rfl (by decide) rfl (fun ls hl => ?_)
      refine lv_iload hx hb dX0_countPrices_49 (lv_at hl 1 rfl) ?_
      refine lv_istore_n (lv' := [(3, .int v3), (2, .int (x2 + 1)), (5, .int v3), (0, .ref (ad 3)), (1, .int x1), (4, .int x4)]) hx hb dX0_countPrices_51 rfl hl (by decide) rfl (fun ls hl => ?_)
      exact wX0_countPrices_52 C hR N k7 K7 x1 (x2 + 1) v3 x4 z0 h hP hS (lv_sub hl [3, 4, 1, 0, 5] rfl)
theorem wX0_countPrices_7_L {p : Program} {l : Launch} {e : Env} {R : Room} {s : State} {m : MethodId} {args : Array Value} {below : List Frame} {meth : Method} {c : Code} {Q : State → Prop} {D : va_G} {cI cJ cZ : ClassId} {ad : Nat → Nat} {A : Nat → Prop} (C : Cx p s m args c cX0_countPrices 6 wsX0_countPrices RX0 D vwCl (tyl cI cJ cZ) (wH cI cJ cZ ad) A R 0 0) {r : (Int32 × SH)} (hR : Ri p l e R s m args below meth c cX0_countPrices D vwCl (wH cI cJ cZ ad) A Q r) (N : Nat) : ∀ (n : Nat), ∀ (x1 : Int32) (x2 : Int32) (x3 : Int32) (x4 : Int32) (z : SH) (H : Heap) (locs : List Loc) (ls : Array Slot), fX0_countPrices_7_L N n x1 x2 x3 x4 z = some r → va_P D vwCl (wH cI cJ cZ ad z) H → va_S A s.heap H locs → lv_has ls 6 [(0, .ref (ad 3)), (1, .int x1), (2, .int x2), (3, .int x3), (4, .int x4)] → W p l e R s m args below meth c H locs 0 0 Q (F0 m 7 ls []) := by
  intro n
  induction n with
  | zero => intro x1 x2 x3 x4 z H locs ls h; exact nomatch (show (none : Option (Int32 × SH)) = some r from h)
  | succ n ih => intro x1 x2 x3 x4 z H locs ls h hP hS hl; exact wX0_countPrices_7 C hR N (fX0_countPrices_7_L N n) ih x1 x2 x3 x4 z (show fX0_countPrices_7 N (fX0_countPrices_7_L N n) x1 x2 x3 x4 z = some r from h) hP hS hl
set_option maxRecDepth 100000 in
set_option maxHeartbeats 4000000 in
theorem wX0_countPrices {p : Program} {l : Launch} {e : Env} {R : Room} {s : State} {m : MethodId} {args : Array Value} {below : List Frame} {meth : Method} {c : Code} {Q : State → Prop} {D : va_G} {cI cJ cZ : ClassId} {ad : Nat → Nat} {A : Nat → Prop} (C : Cx p s m args c cX0_countPrices 6 wsX0_countPrices RX0 D vwCl (tyl cI cJ cZ) (wH cI cJ cZ ad) A R 0 0) {r : (Int32 × SH)} (hR : Ri p l e R s m args below meth c cX0_countPrices D vwCl (wH cI cJ cZ ad) A Q r) (N : Nat) (a1 : Int32) (z0 : SH) {H : Heap} {locs : List Loc} {ls : Array Slot} (h : fX0_countPrices N a1 z0 = some r) (hP : va_P D vwCl (wH cI cJ cZ ad z0) H) (hS : va_S A s.heap H locs) (hl : lv_has ls 6 [(0, .ref (ad 3)), (1, .int a1)]) : W p l e R s m args below meth c H locs 0 0 Q (F0 m 0 ls []) := by
  unfold fX0_countPrices at h
  have hx := C.1.1
  have hb := C.1.2.1
  refine lv_iconst (v := 0) hx hb dX0_countPrices_0 (by decide) ?_
  refine lv_istore_n (lv' := [(2, .int 0), (0, .ref (ad 3)), (1, .int a1)]) hx hb dX0_countPrices_1 rfl hl (by decide) rfl (fun ls hl => ?_)
  refine lv_iconst (v := 0) hx hb dX0_countPrices_2 (by decide) ?_
  refine lv_istore_n (lv' := [(3, .int 0), (2, .int 0), (0, .ref (ad 3)), (1, .int a1)]) hx hb dX0_countPrices_3 rfl hl (by decide) rfl (fun ls hl => ?_)
  refine lv_iconst (v := 0) hx hb dX0_countPrices_4 (by decide) ?_
  refine lv_istore (lv' := [(4, .int 0), (3, .int 0), (2, .int 0), (0, .ref (ad 3)), (1, .int a1)]) hx hb dX0_countPrices_5 hl (by decide) rfl (fun ls hl => ?_)
  exact wX0_countPrices_7_L C hR N N a1 0 0 0 z0 _ _ _ h hP hS (lv_sub hl [3, 4, 2, 1, 0] rfl)
theorem mX0_countPrices (l : Launch) (D : va_G) (cI cJ cZ : ClassId) (ad : Nat → Nat) (N : Nat) (a1 : Int32) (z0 : SH) : ∀ (q : (Int32 × SH)) (sz : Nat), fX0_countPrices N a1 z0 = some q → Met l yX0_countPrices wsX0_countPrices rmX0_countPrices (cP D vwCl (tyl cI cJ cZ) (wH cI cJ cZ ad z0) sz [.ref (ad 3), .int a1]) (cQi D vwCl (wH cI cJ cZ ad) z0 sz q) 0 0 (va_A (wH cI cJ cZ ad z0) sz) := by
  intro q sz h
  refine ofW_i (cc := cX0_countPrices) (maxL := 6) (by decide) rfl (wH_same cI cJ cZ ad) (Nat.le_of_ble_eq_true rfl) (fun p e s m below meth c ls hsz C hR hP hl => ?_)
  exact wX0_countPrices C hR N a1 z0 h hP va_S.rf hl
