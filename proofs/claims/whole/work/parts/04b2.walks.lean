abbrev rmX0_sumShown : Room := { frames := 0, cells := 0, slots := 0, locals := 0 }
theorem fX0_sumShown_i15 : Cond.fieldLink RX0 15 (TX0 2).1 (TX0 2).2.1 (TX0 2).2.2.1 ∈ wsX0_sumShown := by decide +kernel
theorem fX0_sumShown_i18 : Cond.fieldLink RX0 18 (TX0 0).1 (TX0 0).2.1 (TX0 0).2.2.1 ∈ wsX0_sumShown := by decide +kernel
theorem fX0_sumShown_i34 : Cond.fieldLink RX0 34 (TX2 4).1 (TX2 4).2.1 (TX2 4).2.2.1 ∈ wsX0_sumShown := by decide +kernel
theorem fX0_sumShown_i40 : Cond.fieldLink RX0 40 (TX2 7).1 (TX2 7).2.1 (TX2 7).2.2.1 ∈ wsX0_sumShown := by decide +kernel
theorem fX0_sumShown_i9 : Cond.fieldLink RX0 9 (TX0 1).1 (TX0 1).2.1 (TX0 1).2.2.1 ∈ wsX0_sumShown := by decide +kernel
theorem iX0_sumShown_X0 : ∀ x ∈ wsX00, x ∈ wsX0_sumShown := by decide +kernel
theorem iX0_sumShown_X2 : ∀ x ∈ wsX20, x ∈ wsX0_sumShown := by decide +kernel
set_option maxRecDepth 100000 in
set_option maxHeartbeats 4000000 in
theorem wX0_sumShown_70 {p : Program} {l : Launch} {e : Env} {R : Room} {s : State} {m : MethodId} {args : Array Value} {below : List Frame} {meth : Method} {c : Code} {Q : State → Prop} {D : va_G} {cI cJ cZ : ClassId} {ad : Nat → Nat} {A : Nat → Prop} (C : Cx p s m args c cX0_sumShown 7 wsX0_sumShown RX0 D vwCl (tyl cI cJ cZ) (wH cI cJ cZ ad) A R 0 0) {r : (Int32 × SH)} (hR : Ri p l e R s m args below meth c cX0_sumShown D vwCl (wH cI cJ cZ ad) A Q r) (N : Nat) (k13 : Int32 → Int32 → Int32 → Int32 → Int32 → SH → Option (Int32 × SH)) (K13 : ∀ (x1 : Int32) (x2 : Int32) (x3 : Int32) (x4 : Int32) (x5 : Int32) (z : SH) (H : Heap) (locs : List Loc) (ls : Array Slot), k13 x1 x2 x3 x4 x5 z = some r → va_P D vwCl (wH cI cJ cZ ad z) H → va_S A s.heap H locs → lv_has ls 7 [(0, .ref (ad 3)), (1, .int x1), (2, .int x2), (3, .int x3), (4, .int x4), (5, .int x5)] → W p l e R s m args below meth c H locs 0 0 Q (F0 m 13 ls [])) (x1 : Int32) (x2 : Int32) (x3 : Int32) (x4 : Int32) (x5 : Int32) (z0 : SH) {H : Heap} {locs : List Loc} {ls : Array Slot} (h : fX0_sumShown_70 N k13 x1 x2 x3 x4 x5 z0 = some r) (hP : va_P D vwCl (wH cI cJ cZ ad z0) H) (hS : va_S A s.heap H locs) (hl : lv_has ls 7 [(0, .ref (ad 3)), (1, .int x1), (2, .int x2), (3, .int x3), (4, .int x4), (5, .int x5)]) : W p l e R s m args below meth c H locs 0 0 Q (F0 m 70 ls []) := by
  unfold fX0_sumShown_70 at h
  have hx := C.1.1
  have hb := C.1.2.1
  refine lv_iinc (v := x5 + (-1)) (lv' := [(5, .int (x5 + (-1))), (0, .ref (ad 3)), (1, .int x1), (2, .int x2), (3, .int x3), (4, .int x4)]) hx hb dX0_sumShown_70 hl (k := 5) rfl rfl (by decide) rfl (fun ls hl => ?_)
  refine lv_goto (tgt := 13) hx hb dX0_sumShown_73 (by decide) ?_
  exact K13 x1 x2 x3 x4 (x5 + (-1)) z0 _ _ _ h hP hS (lv_sub hl [1, 2, 3, 4, 5, 0] rfl)
set_option maxRecDepth 100000 in
set_option maxHeartbeats 4000000 in
theorem wX0_sumShown_13 {p : Program} {l : Launch} {e : Env} {R : Room} {s : State} {m : MethodId} {args : Array Value} {below : List Frame} {meth : Method} {c : Code} {Q : State → Prop} {D : va_G} {cI cJ cZ : ClassId} {ad : Nat → Nat} {A : Nat → Prop} (C : Cx p s m args c cX0_sumShown 7 wsX0_sumShown RX0 D vwCl (tyl cI cJ cZ) (wH cI cJ cZ ad) A R 0 0) {r : (Int32 × SH)} (hR : Ri p l e R s m args below meth c cX0_sumShown D vwCl (wH cI cJ cZ ad) A Q r) (N : Nat) (k13 : Int32 → Int32 → Int32 → Int32 → Int32 → SH → Option (Int32 × SH)) (K13 : ∀ (x1 : Int32) (x2 : Int32) (x3 : Int32) (x4 : Int32) (x5 : Int32) (z : SH) (H : Heap) (locs : List Loc) (ls : Array Slot), k13 x1 x2 x3 x4 x5 z = some r → va_P D vwCl (wH cI cJ cZ ad z) H → va_S A s.heap H locs → lv_has ls 7 [(0, .ref (ad 3)), (1, .int x1), (2, .int x2), (3, .int x3), (4, .int x4), (5, .int x5)] → W p l e R s m args below meth c H locs 0 0 Q (F0 m 13 ls [])) (x1 : Int32) (x2 : Int32) (x3 : Int32) (x4 : Int32) (x5 : Int32) (z0 : SH) {H : Heap} {locs : List Loc} {ls : Array Slot} (h : fX0_sumShown_13 N k13 x1 x2 x3 x4 x5 z0 = some r) (hP : va_P D vwCl (wH cI cJ cZ ad z0) H) (hS : va_S A s.heap H locs) (hl : lv_has ls 7 [(0, .ref (ad 3)), (1, .int x1), (2, .int x2), (3, .int x3), (4, .int x4), (5, .int x5)]) : W p l e R s m args below meth c H locs 0 0 Q (F0 m 13 ls []) := by
  unfold fX0_sumShown_13 at h
  have hx := C.1.1
  have hb := C.1.2.1
  refine lv_iload hx hb dX0_sumShown_13 (lv_at hl 5 rfl) ?_
  refine lv_if_lt (tgt := 76) hx hb dX0_sumShown_15 (by decide) (fun c1 => ?_) (fun c1 => ?_)
  · replace h := (ite_h h).1 c1
    refine lv_iload hx hb dX0_sumShown_76 (lv_at hl 4 rfl) ?_
    exact hR 78 _ _ _ _ _ (Option.some.inj h).symm dX0_sumShown_78 hP hS
  · replace h := (ite_h h).2 c1
    refine lv_aload_n hx hb dX0_sumShown_18 rfl (lv_at hl 0 rfl) ?_
    refine b_getr C hP iX0_sumShown_X0 3 (wH_3 cI cJ cZ ad z0) rfl 1 (by decide) fX0_sumShown_i9 rfl rfl dX0_sumShown_19 ?_
    refine lv_iload_n hx hb dX0_sumShown_22 rfl (lv_at hl 1 rfl) ?_
    refine lv_bipush (v := 100) hx hb dX0_sumShown_23 (by decide) ?_
    refine lv_imul hx hb dX0_sumShown_25 ?_
    refine lv_iload hx hb dX0_sumShown_26 (lv_at hl 5 rfl) ?_
    refine lv_iadd hx hb dX0_sumShown_28 ?_
    refine b_iald C hP h 23 (wH_23 cI cJ cZ ad z0) 0 rfl dX0_sumShown_29 (fun v1 h => ?_)
    refine lv_istore (lv' := [(6, .int v1), (0, .ref (ad 3)), (1, .int x1), (2, .int x2), (3, .int x3), (4, .int x4), (5, .int x5)]) hx hb dX0_sumShown_30 hl (by decide) rfl (fun ls hl => ?_)
    refine lv_iload hx hb dX0_sumShown_32 (lv_at hl 0 rfl) ?_
    refine lv_iload_n hx hb dX0_sumShown_34 rfl (lv_at hl 4 rfl) ?_
    refine lv_icmp_ne (tgt := 41) hx hb dX0_sumShown_35 (by decide) (fun c1 => ?_) (fun c1 => ?_)
    · replace h := (ite_h h).2 c1
      refine lv_aload_n hx hb dX0_sumShown_41 rfl (lv_at hl 1 rfl) ?_
      refine b_getr C hP iX0_sumShown_X0 3 (wH_3 cI cJ cZ ad z0) rfl 0 (by decide) fX0_sumShown_i18 rfl rfl dX0_sumShown_42 ?_
      refine b_getr C hP iX0_sumShown_X2 2 (wH_2 cI cJ cZ ad z0) rfl 4 (by decide) fX0_sumShown_i34 rfl rfl dX0_sumShown_45 ?_
      refine lv_iload hx hb dX0_sumShown_48 (lv_at hl 0 rfl) ?_
      refine b_iald C hP h 16 (wH_16 cI cJ cZ ad z0) 0 rfl dX0_sumShown_50 (fun v2 h => ?_)
      refine lv_iload_n hx hb dX0_sumShown_51 rfl (lv_at hl 3 rfl) ?_
      refine lv_icmp_ne (tgt := 70) hx hb dX0_sumShown_52 (by decide) (fun c1 => ?_) (fun c1 => ?_)
      · replace h := (ite_h h).2 c1
        exact wX0_sumShown_70 C hR N k13 K13 x1 x2 x3 x4 x5 z0 h hP hS (lv_sub hl [1, 2, 3, 4, 5, 6] rfl)
      · replace h := (ite_h h).1 c1
        refine lv_iload hx hb dX0_sumShown_55 (lv_at hl 5 rfl) ?_
        refine lv_aload_n hx hb dX0_sumShown_57 rfl (lv_at hl 1 rfl) ?_
        refine b_getr C hP iX0_sumShown_X0 3 (wH_3 cI cJ cZ ad z0) rfl 0 (by decide) fX0_sumShown_i18 rfl rfl dX0_sumShown_58 ?_
        refine b_getr C hP iX0_sumShown_X2 2 (wH_2 cI cJ cZ ad z0) rfl 7 (by decide) fX0_sumShown_i40 rfl rfl dX0_sumShown_61 ?_
        refine lv_iload hx hb dX0_sumShown_64 (lv_at hl 0 rfl) ?_
        refine b_iald C hP h 19 (wH_19 cI cJ cZ ad z0) 0 rfl dX0_sumShown_66 (fun v3 h => ?_)
        refine lv_iadd hx hb dX0_sumShown_67 ?_
        refine lv_istore (lv' := [(4, .int (x4 + v3)), (6, .int v1), (0, .ref (ad 3)), (1, .int x1), (2, .int x2), (3, .int x3), (5, .int x5)]) hx hb dX0_sumShown_68 hl (by decide) rfl (fun ls hl => ?_)
        exact wX0_sumShown_70 C hR N k13 K13 x1 x2 x3 (x4 + v3) x5 z0 h hP hS (lv_sub hl [2, 3, 4, 5, 0, 6] rfl)
    · replace h := (ite_h h).1 c1
      refine lv_iload hx hb dX0_sumShown_38 (lv_at hl 5 rfl) ?_
      exact hR 40 _ _ _ _ _ (Option.some.inj h).symm dX0_sumShown_40 hP hS
theorem wX0_sumShown_13_L {p : Program} {l : Launch} {e : Env} {R : Room} {s : State} {m : MethodId} {args : Array Value} {below : List Frame} {meth : Method} {c : Code} {Q : State → Prop} {D : va_G} {cI cJ cZ : ClassId} {ad : Nat → Nat} {A : Nat → Prop} (C : Cx p s m args c cX0_sumShown 7 wsX0_sumShown RX0 D vwCl (tyl cI cJ cZ) (wH cI cJ cZ ad) A R 0 0) {r : (Int32 × SH)} (hR : Ri p l e R s m args below meth c cX0_sumShown D vwCl (wH cI cJ cZ ad) A Q r) (N : Nat) : ∀ (n : Nat), ∀ (x1 : Int32) (x2 : Int32) (x3 : Int32) (x4 : Int32) (x5 : Int32) (z : SH) (H : Heap) (locs : List Loc) (ls : Array Slot), fX0_sumShown_13_L N n x1 x2 x3 x4 x5 z = some r → va_P D vwCl (wH cI cJ cZ ad z) H → va_S A s.heap H locs → lv_has ls 7 [(0, .ref (ad 3)), (1, .int x1), (2, .int x2), (3, .int x3), (4, .int x4), (5, .int x5)] → W p l e R s m args below meth c H locs 0 0 Q (F0 m 13 ls []) := by
  intro n
  induction n with
  | zero => intro x1 x2 x3 x4 x5 z H locs ls h; exact nomatch (show (none : Option (Int32 × SH)) = some r from h)
  | succ n ih => intro x1 x2 x3 x4 x5 z H locs ls h hP hS hl; exact wX0_sumShown_13 C hR N (fX0_sumShown_13_L N n) ih x1 x2 x3 x4 x5 z (show fX0_sumShown_13 N (fX0_sumShown_13_L N n) x1 x2 x3 x4 x5 z = some r from h) hP hS hl
set_option maxRecDepth 100000 in
set_option maxHeartbeats 4000000 in
theorem wX0_sumShown {p : Program} {l : Launch} {e : Env} {R : Room} {s : State} {m : MethodId} {args : Array Value} {below : List Frame} {meth : Method} {c : Code} {Q : State → Prop} {D : va_G} {cI cJ cZ : ClassId} {ad : Nat → Nat} {A : Nat → Prop} (C : Cx p s m args c cX0_sumShown 7 wsX0_sumShown RX0 D vwCl (tyl cI cJ cZ) (wH cI cJ cZ ad) A R 0 0) {r : (Int32 × SH)} (hR : Ri p l e R s m args below meth c cX0_sumShown D vwCl (wH cI cJ cZ ad) A Q r) (N : Nat) (a1 : Int32) (a2 : Int32) (a3 : Int32) (z0 : SH) {H : Heap} {locs : List Loc} {ls : Array Slot} (h : fX0_sumShown N a1 a2 a3 z0 = some r) (hP : va_P D vwCl (wH cI cJ cZ ad z0) H) (hS : va_S A s.heap H locs) (hl : lv_has ls 7 [(0, .ref (ad 3)), (1, .int a1), (2, .int a2), (3, .int a3)]) : W p l e R s m args below meth c H locs 0 0 Q (F0 m 0 ls []) := by
  unfold fX0_sumShown at h
  have hx := C.1.1
  have hb := C.1.2.1
  refine lv_iconst (v := 0) hx hb dX0_sumShown_0 (by decide) ?_
  refine lv_istore (lv' := [(4, .int 0), (0, .ref (ad 3)), (1, .int a1), (2, .int a2), (3, .int a3)]) hx hb dX0_sumShown_1 hl (by decide) rfl (fun ls hl => ?_)
  refine lv_aload_n hx hb dX0_sumShown_3 rfl (lv_at hl 1 rfl) ?_
  refine b_getr C hP iX0_sumShown_X0 3 (wH_3 cI cJ cZ ad z0) rfl 2 (by decide) fX0_sumShown_i15 rfl rfl dX0_sumShown_4 ?_
  refine lv_iload_n hx hb dX0_sumShown_7 rfl (lv_at hl 2 rfl) ?_
  refine b_iald C hP h 24 (wH_24 cI cJ cZ ad z0) 0 rfl dX0_sumShown_8 (fun v1 h => ?_)
  refine lv_iconst (v := 1) hx hb dX0_sumShown_9 (by decide) ?_
  refine lv_isub hx hb dX0_sumShown_10 ?_
  refine lv_istore (lv' := [(5, .int (v1 - 1)), (4, .int 0), (0, .ref (ad 3)), (1, .int a1), (2, .int a2), (3, .int a3)]) hx hb dX0_sumShown_11 hl (by decide) rfl (fun ls hl => ?_)
  exact wX0_sumShown_13_L C hR N N a1 a2 a3 0 (v1 - 1) z0 _ _ _ h hP hS (lv_sub hl [2, 3, 4, 5, 1, 0] rfl)
theorem mX0_sumShown (l : Launch) (D : va_G) (cI cJ cZ : ClassId) (ad : Nat → Nat) (N : Nat) (a1 : Int32) (a2 : Int32) (a3 : Int32) (z0 : SH) : ∀ (q : (Int32 × SH)) (sz : Nat), fX0_sumShown N a1 a2 a3 z0 = some q → Met l yX0_sumShown wsX0_sumShown rmX0_sumShown (cP D vwCl (tyl cI cJ cZ) (wH cI cJ cZ ad z0) sz [.ref (ad 3), .int a1, .int a2, .int a3]) (cQi D vwCl (wH cI cJ cZ ad) z0 sz q) 0 0 (va_A (wH cI cJ cZ ad z0) sz) := by
  intro q sz h
  refine ofW_i (cc := cX0_sumShown) (maxL := 7) (by decide) rfl (wH_same cI cJ cZ ad) (Nat.le_of_ble_eq_true rfl) (fun p e s m below meth c ls hsz C hR hP hl => ?_)
  exact wX0_sumShown C hR N a1 a2 a3 z0 h hP va_S.rf hl
abbrev rmX0_countOrders : Room := { frames := 0, cells := 0, slots := 0, locals := 0 }
theorem fX0_countOrders_i15 : Cond.fieldLink RX0 15 (TX0 2).1 (TX0 2).2.1 (TX0 2).2.2.1 ∈ wsX0_countOrders := by decide +kernel
theorem fX0_countOrders_i18 : Cond.fieldLink RX0 18 (TX0 0).1 (TX0 0).2.1 (TX0 0).2.2.1 ∈ wsX0_countOrders := by decide +kernel
theorem fX0_countOrders_i34 : Cond.fieldLink RX0 34 (TX2 4).1 (TX2 4).2.1 (TX2 4).2.2.1 ∈ wsX0_countOrders := by decide +kernel
theorem fX0_countOrders_i9 : Cond.fieldLink RX0 9 (TX0 1).1 (TX0 1).2.1 (TX0 1).2.2.1 ∈ wsX0_countOrders := by decide +kernel
theorem iX0_countOrders_X0 : ∀ x ∈ wsX00, x ∈ wsX0_countOrders := by decide +kernel
theorem iX0_countOrders_X2 : ∀ x ∈ wsX20, x ∈ wsX0_countOrders := by decide +kernel
set_option maxRecDepth 100000 in
set_option maxHeartbeats 4000000 in
theorem wX0_countOrders_43 {p : Program} {l : Launch} {e : Env} {R : Room} {s : State} {m : MethodId} {args : Array Value} {below : List Frame} {meth : Method} {c : Code} {Q : State → Prop} {D : va_G} {cI cJ cZ : ClassId} {ad : Nat → Nat} {A : Nat → Prop} (C : Cx p s m args c cX0_countOrders 5 wsX0_countOrders RX0 D vwCl (tyl cI cJ cZ) (wH cI cJ cZ ad) A R 0 0) {r : (Int32 × SH)} (hR : Ri p l e R s m args below meth c cX0_countOrders D vwCl (wH cI cJ cZ ad) A Q r) (N : Nat) (k5 : Int32 → Int32 → Int32 → Int32 → SH → Option (Int32 × SH)) (K5 : ∀ (x1 : Int32) (x2 : Int32) (x3 : Int32) (x4 : Int32) (z : SH) (H : Heap) (locs : List Loc) (ls : Array Slot), k5 x1 x2 x3 x4 z = some r → va_P D vwCl (wH cI cJ cZ ad z) H → va_S A s.heap H locs → lv_has ls 5 [(0, .ref (ad 3)), (1, .int x1), (2, .int x2), (3, .int x3), (4, .int x4)] → W p l e R s m args below meth c H locs 0 0 Q (F0 m 5 ls [])) (x1 : Int32) (x2 : Int32) (x3 : Int32) (x4 : Int32) (z0 : SH) {H : Heap} {locs : List Loc} {ls : Array Slot} (h : fX0_countOrders_43 N k5 x1 x2 x3 x4 z0 = some r) (hP : va_P D vwCl (wH cI cJ cZ ad z0) H) (hS : va_S A s.heap H locs) (hl : lv_has ls 5 [(0, .ref (ad 3)), (1, .int x1), (2, .int x2), (3, .int x3), (4, .int x4)]) : W p l e R s m args below meth c H locs 0 0 Q (F0 m 43 ls []) := by
  unfold fX0_countOrders_43 at h
  have hx := C.1.1
  have hb := C.1.2.1
  refine lv_iinc (v := x4 + 1) (lv' := [(4, .int (x4 + 1)), (0, .ref (ad 3)), (1, .int x1), (2, .int x2), (3, .int x3)]) hx hb dX0_countOrders_43 hl (k := 4) rfl rfl (by decide) rfl (fun ls hl => ?_)
  refine lv_goto (tgt := 5) hx hb dX0_countOrders_46 (by decide) ?_
  exact K5 x1 x2 x3 (x4 + 1) z0 _ _ _ h hP hS (lv_sub hl [1, 2, 3, 4, 0] rfl)
set_option maxRecDepth 100000 in
set_option maxHeartbeats 4000000 in
theorem wX0_countOrders_5 {p : Program} {l : Launch} {e : Env} {R : Room} {s : State} {m : MethodId} {args : Array Value} {below : List Frame} {meth : Method} {c : Code} {Q : State → Prop} {D : va_G} {cI cJ cZ : ClassId} {ad : Nat → Nat} {A : Nat → Prop} (C : Cx p s m args c cX0_countOrders 5 wsX0_countOrders RX0 D vwCl (tyl cI cJ cZ) (wH cI cJ cZ ad) A R 0 0) {r : (Int32 × SH)} (hR : Ri p l e R s m args below meth c cX0_countOrders D vwCl (wH cI cJ cZ ad) A Q r) (N : Nat) (k5 : Int32 → Int32 → Int32 → Int32 → SH → Option (Int32 × SH)) (K5 : ∀ (x1 : Int32) (x2 : Int32) (x3 : Int32) (x4 : Int32) (z : SH) (H : Heap) (locs : List Loc) (ls : Array Slot), k5 x1 x2 x3 x4 z = some r → va_P D vwCl (wH cI cJ cZ ad z) H → va_S A s.heap H locs → lv_has ls 5 [(0, .ref (ad 3)), (1, .int x1), (2, .int x2), (3, .int x3), (4, .int x4)] → W p l e R s m args below meth c H locs 0 0 Q (F0 m 5 ls [])) (x1 : Int32) (x2 : Int32) (x3 : Int32) (x4 : Int32) (z0 : SH) {H : Heap} {locs : List Loc} {ls : Array Slot} (h : fX0_countOrders_5 N k5 x1 x2 x3 x4 z0 = some r) (hP : va_P D vwCl (wH cI cJ cZ ad z0) H) (hS : va_S A s.heap H locs) (hl : lv_has ls 5 [(0, .ref (ad 3)), (1, .int x1), (2, .int x2), (3, .int x3), (4, .int x4)]) : W p l e R s m args below meth c H locs 0 0 Q (F0 m 5 ls []) := by
  unfold fX0_countOrders_5 at h
  have hx := C.1.1
  have hb := C.1.2.1
  refine lv_iload hx hb dX0_countOrders_5 (lv_at hl 4 rfl) ?_
  refine lv_aload_n hx hb dX0_countOrders_7 rfl (lv_at hl 0 rfl) ?_
  refine b_getr C hP iX0_countOrders_X0 3 (wH_3 cI cJ cZ ad z0) rfl 2 (by decide) fX0_countOrders_i15 rfl rfl dX0_countOrders_8 ?_
  refine lv_iload_n hx hb dX0_countOrders_11 rfl (lv_at hl 1 rfl) ?_
  refine b_iald C hP h 24 (wH_24 cI cJ cZ ad z0) 0 rfl dX0_countOrders_12 (fun v1 h => ?_)
  refine lv_icmp_ge (tgt := 49) hx hb dX0_countOrders_13 (by decide) (fun c1 => ?_) (fun c1 => ?_)
  · replace h := (ite_h h).1 c1
    refine lv_iload_n hx hb dX0_countOrders_49 rfl (lv_at hl 3 rfl) ?_
    exact hR 50 _ _ _ _ _ (Option.some.inj h).symm dX0_countOrders_50 hP hS
  · replace h := (ite_h h).2 c1
    refine lv_aload_n hx hb dX0_countOrders_16 rfl (lv_at hl 0 rfl) ?_
    refine b_getr C hP iX0_countOrders_X0 3 (wH_3 cI cJ cZ ad z0) rfl 0 (by decide) fX0_countOrders_i18 rfl rfl dX0_countOrders_17 ?_
    refine b_getr C hP iX0_countOrders_X2 2 (wH_2 cI cJ cZ ad z0) rfl 4 (by decide) fX0_countOrders_i34 rfl rfl dX0_countOrders_20 ?_
    refine lv_aload_n hx hb dX0_countOrders_23 rfl (lv_at hl 0 rfl) ?_
    refine b_getr C hP iX0_countOrders_X0 3 (wH_3 cI cJ cZ ad z0) rfl 1 (by decide) fX0_countOrders_i9 rfl rfl dX0_countOrders_24 ?_
    refine lv_iload_n hx hb dX0_countOrders_27 rfl (lv_at hl 1 rfl) ?_
    refine lv_bipush (v := 100) hx hb dX0_countOrders_28 (by decide) ?_
    refine lv_imul hx hb dX0_countOrders_30 ?_
    refine lv_iload hx hb dX0_countOrders_31 (lv_at hl 4 rfl) ?_
    refine lv_iadd hx hb dX0_countOrders_33 ?_
    refine b_iald C hP h 23 (wH_23 cI cJ cZ ad z0) 0 rfl dX0_countOrders_34 (fun v2 h => ?_)
    refine b_iald C hP h 16 (wH_16 cI cJ cZ ad z0) 0 rfl dX0_countOrders_35 (fun v3 h => ?_)
    refine lv_iload_n hx hb dX0_countOrders_36 rfl (lv_at hl 2 rfl) ?_
    refine lv_icmp_ne (tgt := 43) hx hb dX0_countOrders_37 (by decide) (fun c1 => ?_) (fun c1 => ?_)
    · replace h := (ite_h h).2 c1
      exact wX0_countOrders_43 C hR N k5 K5 x1 x2 x3 x4 z0 h hP hS (lv_sub hl [0, 1, 2, 3, 4] rfl)
    · replace h := (ite_h h).1 c1
      refine lv_iinc (v := x3 + 1) (lv' := [(3, .int (x3 + 1)), (0, .ref (ad 3)), (1, .int x1), (2, .int x2), (4, .int x4)]) hx hb dX0_countOrders_40 hl (k := 3) rfl rfl (by decide) rfl (fun ls hl => ?_)
      exact wX0_countOrders_43 C hR N k5 K5 x1 x2 (x3 + 1) x4 z0 h hP hS (lv_sub hl [1, 2, 3, 0, 4] rfl)
theorem wX0_countOrders_5_L {p : Program} {l : Launch} {e : Env} {R : Room} {s : State} {m : MethodId} {args : Array Value} {below : List Frame} {meth : Method} {c : Code} {Q : State → Prop} {D : va_G} {cI cJ cZ : ClassId} {ad : Nat → Nat} {A : Nat → Prop} (C : Cx p s m args c cX0_countOrders 5 wsX0_countOrders RX0 D vwCl (tyl cI cJ cZ) (wH cI cJ cZ ad) A R 0 0) {r : (Int32 × SH)} (hR : Ri p l e R s m args below meth c cX0_countOrders D vwCl (wH cI cJ cZ ad) A Q r) (N : Nat) : ∀ (n : Nat), ∀ (x1 : Int32) (x2 : Int32) (x3 : Int32) (x4 : Int32) (z : SH) (H : Heap) (locs : List Loc) (ls : Array Slot), fX0_countOrders_5_L N n x1 x2 x3 x4 z = some r → va_P D vwCl (wH cI cJ cZ ad z) H → va_S A s.heap H locs → lv_has ls 5 [(0, .ref (ad 3)), (1, .int x1), (2, .int x2), (3, .int x3), (4, .int x4)] → W p l e R s m args below meth c H locs 0 0 Q (F0 m 5 ls []) := by
  intro n
  induction n with
  | zero => intro x1 x2 x3 x4 z H locs ls h; exact nomatch (show (none : Option (Int32 × SH)) = some r from h)
  | succ n ih => intro x1 x2 x3 x4 z H locs ls h hP hS hl; exact wX0_countOrders_5 C hR N (fX0_countOrders_5_L N n) ih x1 x2 x3 x4 z (show fX0_countOrders_5 N (fX0_countOrders_5_L N n) x1 x2 x3 x4 z = some r from h) hP hS hl
set_option maxRecDepth 100000 in
set_option maxHeartbeats 4000000 in
theorem wX0_countOrders {p : Program} {l : Launch} {e : Env} {R : Room} {s : State} {m : MethodId} {args : Array Value} {below : List Frame} {meth : Method} {c : Code} {Q : State → Prop} {D : va_G} {cI cJ cZ : ClassId} {ad : Nat → Nat} {A : Nat → Prop} (C : Cx p s m args c cX0_countOrders 5 wsX0_countOrders RX0 D vwCl (tyl cI cJ cZ) (wH cI cJ cZ ad) A R 0 0) {r : (Int32 × SH)} (hR : Ri p l e R s m args below meth c cX0_countOrders D vwCl (wH cI cJ cZ ad) A Q r) (N : Nat) (a1 : Int32) (a2 : Int32) (z0 : SH) {H : Heap} {locs : List Loc} {ls : Array Slot} (h : fX0_countOrders N a1 a2 z0 = some r) (hP : va_P D vwCl (wH cI cJ cZ ad z0) H) (hS : va_S A s.heap H locs) (hl : lv_has ls 5 [(0, .ref (ad 3)), (1, .int a1), (2, .int a2)]) : W p l e R s m args below meth c H locs 0 0 Q (F0 m 0 ls []) := by
  unfold fX0_countOrders at h
  have hx := C.1.1
  have hb := C.1.2.1
  refine lv_iconst (v := 0) hx hb dX0_countOrders_0 (by decide) ?_
  refine lv_istore_n (lv' := [(3, .int 0), (0, .ref (ad 3)), (1, .int a1), (2, .int a2)]) hx hb dX0_countOrders_1 rfl hl (by decide) rfl (fun ls hl => ?_)
  refine lv_iconst (v := 0) hx hb dX0_countOrders_2 (by decide) ?_
  refine lv_istore (lv' := [(4, .int 0), (3, .int 0), (0, .ref (ad 3)), (1, .int a1), (2, .int a2)]) hx hb dX0_countOrders_3 hl (by decide) rfl (fun ls hl => ?_)
  exact wX0_countOrders_5_L C hR N N a1 a2 0 0 z0 _ _ _ h hP hS (lv_sub hl [2, 3, 4, 1, 0] rfl)
theorem mX0_countOrders (l : Launch) (D : va_G) (cI cJ cZ : ClassId) (ad : Nat → Nat) (N : Nat) (a1 : Int32) (a2 : Int32) (z0 : SH) : ∀ (q : (Int32 × SH)) (sz : Nat), fX0_countOrders N a1 a2 z0 = some q → Met l yX0_countOrders wsX0_countOrders rmX0_countOrders (cP D vwCl (tyl cI cJ cZ) (wH cI cJ cZ ad z0) sz [.ref (ad 3), .int a1, .int a2]) (cQi D vwCl (wH cI cJ cZ ad) z0 sz q) 0 0 (va_A (wH cI cJ cZ ad z0) sz) := by
  intro q sz h
  refine ofW_i (cc := cX0_countOrders) (maxL := 5) (by decide) rfl (wH_same cI cJ cZ ad) (Nat.le_of_ble_eq_true rfl) (fun p e s m below meth c ls hsz C hR hP hl => ?_)
  exact wX0_countOrders C hR N a1 a2 z0 h hP va_S.rf hl
abbrev rmX0_priceOfLevel : Room := { frames := 0, cells := 0, slots := 0, locals := 0 }
theorem fX0_priceOfLevel_i15 : Cond.fieldLink RX0 15 (TX0 2).1 (TX0 2).2.1 (TX0 2).2.2.1 ∈ wsX0_priceOfLevel := by decide +kernel
theorem fX0_priceOfLevel_i18 : Cond.fieldLink RX0 18 (TX0 0).1 (TX0 0).2.1 (TX0 0).2.2.1 ∈ wsX0_priceOfLevel := by decide +kernel
theorem fX0_priceOfLevel_i34 : Cond.fieldLink RX0 34 (TX2 4).1 (TX2 4).2.1 (TX2 4).2.2.1 ∈ wsX0_priceOfLevel := by decide +kernel
theorem fX0_priceOfLevel_i9 : Cond.fieldLink RX0 9 (TX0 1).1 (TX0 1).2.1 (TX0 1).2.2.1 ∈ wsX0_priceOfLevel := by decide +kernel
theorem iX0_priceOfLevel_X0 : ∀ x ∈ wsX00, x ∈ wsX0_priceOfLevel := by decide +kernel
theorem iX0_priceOfLevel_X2 : ∀ x ∈ wsX20, x ∈ wsX0_priceOfLevel := by decide +kernel
set_option maxRecDepth 100000 in
set_option maxHeartbeats 4000000 in
theorem wX0_priceOfLevel_56 {p : Program} {l : Launch} {e : Env} {R : Room} {s : State} {m : MethodId} {args : Array Value} {below : List Frame} {meth : Method} {c : Code} {Q : State → Prop} {D : va_G} {cI cJ cZ : ClassId} {ad : Nat → Nat} {A : Nat → Prop} (C : Cx p s m args c cX0_priceOfLevel 7 wsX0_priceOfLevel RX0 D vwCl (tyl cI cJ cZ) (wH cI cJ cZ ad) A R 0 0) {r : (Int32 × SH)} (hR : Ri p l e R s m args below meth c cX0_priceOfLevel D vwCl (wH cI cJ cZ ad) A Q r) (N : Nat) (k15 : Int32 → Int32 → Int32 → Int32 → Int32 → SH → Option (Int32 × SH)) (K15 : ∀ (x1 : Int32) (x2 : Int32) (x3 : Int32) (x4 : Int32) (x5 : Int32) (z : SH) (H : Heap) (locs : List Loc) (ls : Array Slot), k15 x1 x2 x3 x4 x5 z = some r → va_P D vwCl (wH cI cJ cZ ad z) H → va_S A s.heap H locs → lv_has ls 7 [(0, .ref (ad 3)), (1, .int x1), (2, .int x2), (3, .int x3), (4, .int x4), (5, .int x5)] → W p l e R s m args below meth c H locs 0 0 Q (F0 m 15 ls [])) (x1 : Int32) (x2 : Int32) (x3 : Int32) (x4 : Int32) (x5 : Int32) (x6 : Int32) (z0 : SH) {H : Heap} {locs : List Loc} {ls : Array Slot} (h : fX0_priceOfLevel_56 N k15 x1 x2 x3 x4 x5 x6 z0 = some r) (hP : va_P D vwCl (wH cI cJ cZ ad z0) H) (hS : va_S A s.heap H locs) (hl : lv_has ls 7 [(0, .ref (ad 3)), (1, .int x1), (2, .int x2), (3, .int x3), (4, .int x4), (5, .int x5), (6, .int x6)]) : W p l e R s m args below meth c H locs 0 0 Q (F0 m 56 ls []) := by
  unfold fX0_priceOfLevel_56 at h
  have hx := C.1.1
  have hb := C.1.2.1
  refine lv_iload_n hx hb dX0_priceOfLevel_56 rfl (lv_at hl 3 rfl) ?_
  refine lv_iload_n hx hb dX0_priceOfLevel_57 rfl (lv_at hl 2 rfl) ?_
  refine lv_icmp_ne (tgt := 64) hx hb dX0_priceOfLevel_58 (by decide) (fun c1 => ?_) (fun c1 => ?_)
  · replace h := (ite_h h).2 c1
    refine lv_iinc (v := x5 + (-1)) (lv' := [(5, .int (x5 + (-1))), (0, .ref (ad 3)), (1, .int x1), (2, .int x2), (3, .int x3), (4, .int x4), (6, .int x6)]) hx hb dX0_priceOfLevel_64 hl (k := 5) rfl rfl (by decide) rfl (fun ls hl => ?_)
    refine lv_goto (tgt := 15) hx hb dX0_priceOfLevel_67 (by decide) ?_
    exact K15 x1 x2 x3 x4 (x5 + (-1)) z0 _ _ _ h hP hS (lv_sub hl [1, 2, 3, 4, 5, 0] rfl)
  · replace h := (ite_h h).1 c1
    refine lv_iload hx hb dX0_priceOfLevel_61 (lv_at hl 6 rfl) ?_
    exact hR 63 _ _ _ _ _ (Option.some.inj h).symm dX0_priceOfLevel_63 hP hS
set_option maxRecDepth 100000 in
set_option maxHeartbeats 4000000 in
theorem wX0_priceOfLevel_15 {p : Program} {l : Launch} {e : Env} {R : Room} {s : State} {m : MethodId} {args : Array Value} {below : List Frame} {meth : Method} {c : Code} {Q : State → Prop} {D : va_G} {cI cJ cZ : ClassId} {ad : Nat → Nat} {A : Nat → Prop} (C : Cx p s m args c cX0_priceOfLevel 7 wsX0_priceOfLevel RX0 D vwCl (tyl cI cJ cZ) (wH cI cJ cZ ad) A R 0 0) {r : (Int32 × SH)} (hR : Ri p l e R s m args below meth c cX0_priceOfLevel D vwCl (wH cI cJ cZ ad) A Q r) (N : Nat) (k15 : Int32 → Int32 → Int32 → Int32 → Int32 → SH → Option (Int32 × SH)) (K15 : ∀ (x1 : Int32) (x2 : Int32) (x3 : Int32) (x4 : Int32) (x5 : Int32) (z : SH) (H : Heap) (locs : List Loc) (ls : Array Slot), k15 x1 x2 x3 x4 x5 z = some r → va_P D vwCl (wH cI cJ cZ ad z) H → va_S A s.heap H locs → lv_has ls 7 [(0, .ref (ad 3)), (1, .int x1), (2, .int x2), (3, .int x3), (4, .int x4), (5, .int x5)] → W p l e R s m args below meth c H locs 0 0 Q (F0 m 15 ls [])) (x1 : Int32) (x2 : Int32) (x3 : Int32) (x4 : Int32) (x5 : Int32) (z0 : SH) {H : Heap} {locs : List Loc} {ls : Array Slot} (h : fX0_priceOfLevel_15 N k15 x1 x2 x3 x4 x5 z0 = some r) (hP : va_P D vwCl (wH cI cJ cZ ad z0) H) (hS : va_S A s.heap H locs) (hl : lv_has ls 7 [(0, .ref (ad 3)), (1, .int x1), (2, .int x2), (3, .int x3), (4, .int x4), (5, .int x5)]) : W p l e R s m args below meth c H locs 0 0 Q (F0 m 15 ls []) := by
  unfold fX0_priceOfLevel_15 at h
  have hx := C.1.1
  have hb := C.1.2.1
  refine lv_iload hx hb dX0_priceOfLevel_15 (lv_at hl 5 rfl) ?_
  refine lv_if_lt (tgt := 70) hx hb dX0_priceOfLevel_17 (by decide) (fun c1 => ?_) (fun c1 => ?_)
  · replace h := (ite_h h).1 c1
    refine lv_iconst (v := -1) hx hb dX0_priceOfLevel_70 (by decide) ?_
    exact hR 71 _ _ _ _ _ (Option.some.inj h).symm dX0_priceOfLevel_71 hP hS
  · replace h := (ite_h h).2 c1
    refine lv_aload_n hx hb dX0_priceOfLevel_20 rfl (lv_at hl 0 rfl) ?_
    refine b_getr C hP iX0_priceOfLevel_X0 3 (wH_3 cI cJ cZ ad z0) rfl 0 (by decide) fX0_priceOfLevel_i18 rfl rfl dX0_priceOfLevel_21 ?_
    refine b_getr C hP iX0_priceOfLevel_X2 2 (wH_2 cI cJ cZ ad z0) rfl 4 (by decide) fX0_priceOfLevel_i34 rfl rfl dX0_priceOfLevel_24 ?_
    refine lv_aload_n hx hb dX0_priceOfLevel_27 rfl (lv_at hl 0 rfl) ?_
    refine b_getr C hP iX0_priceOfLevel_X0 3 (wH_3 cI cJ cZ ad z0) rfl 1 (by decide) fX0_priceOfLevel_i9 rfl rfl dX0_priceOfLevel_28 ?_
    refine lv_iload_n hx hb dX0_priceOfLevel_31 rfl (lv_at hl 1 rfl) ?_
    refine lv_bipush (v := 100) hx hb dX0_priceOfLevel_32 (by decide) ?_
    refine lv_imul hx hb dX0_priceOfLevel_34 ?_
    refine lv_iload hx hb dX0_priceOfLevel_35 (lv_at hl 5 rfl) ?_
    refine lv_iadd hx hb dX0_priceOfLevel_37 ?_
    refine b_iald C hP h 23 (wH_23 cI cJ cZ ad z0) 0 rfl dX0_priceOfLevel_38 (fun v1 h => ?_)
    refine b_iald C hP h 16 (wH_16 cI cJ cZ ad z0) 0 rfl dX0_priceOfLevel_39 (fun v2 h => ?_)
    refine lv_istore (lv' := [(6, .int v2), (0, .ref (ad 3)), (1, .int x1), (2, .int x2), (3, .int x3), (4, .int x4), (5, .int x5)]) hx hb dX0_priceOfLevel_40 hl (by decide) rfl (fun ls hl => ?_)
    refine lv_iload hx hb dX0_priceOfLevel_42 (lv_at hl 0 rfl) ?_
    refine lv_iload hx hb dX0_priceOfLevel_44 (lv_at hl 5 rfl) ?_
    refine lv_icmp_eq (tgt := 56) hx hb dX0_priceOfLevel_46 (by decide) (fun c1 => ?_) (fun c1 => ?_)
    · replace h := (ite_h h).1 c1
      exact wX0_priceOfLevel_56 C hR N k15 K15 x1 x2 x3 x4 x5 v2 z0 h hP hS (lv_sub hl [1, 2, 3, 4, 5, 6, 0] rfl)
    · replace h := (ite_h h).2 c1
      refine lv_iinc (v := x3 + 1) (lv' := [(3, .int (x3 + 1)), (6, .int v2), (0, .ref (ad 3)), (1, .int x1), (2, .int x2), (4, .int x4), (5, .int x5)]) hx hb dX0_priceOfLevel_49 hl (k := 4) rfl rfl (by decide) rfl (fun ls hl => ?_)
      refine lv_iload hx hb dX0_priceOfLevel_52 (lv_at hl 1 rfl) ?_
      refine lv_istore (lv' := [(4, .int v2), (3, .int (x3 + 1)), (6, .int v2), (0, .ref (ad 3)), (1, .int x1), (2, .int x2), (5, .int x5)]) hx hb dX0_priceOfLevel_54 hl (by decide) rfl (fun ls hl => ?_)
      exact wX0_priceOfLevel_56 C hR N k15 K15 x1 x2 (x3 + 1) v2 x5 v2 z0 h hP hS (lv_sub hl [3, 4, 5, 1, 0, 6, 2] rfl)
theorem wX0_priceOfLevel_15_L {p : Program} {l : Launch} {e : Env} {R : Room} {s : State} {m : MethodId} {args : Array Value} {below : List Frame} {meth : Method} {c : Code} {Q : State → Prop} {D : va_G} {cI cJ cZ : ClassId} {ad : Nat → Nat} {A : Nat → Prop} (C : Cx p s m args c cX0_priceOfLevel 7 wsX0_priceOfLevel RX0 D vwCl (tyl cI cJ cZ) (wH cI cJ cZ ad) A R 0 0) {r : (Int32 × SH)} (hR : Ri p l e R s m args below meth c cX0_priceOfLevel D vwCl (wH cI cJ cZ ad) A Q r) (N : Nat) : ∀ (n : Nat), ∀ (x1 : Int32) (x2 : Int32) (x3 : Int32) (x4 : Int32) (x5 : Int32) (z : SH) (H : Heap) (locs : List Loc) (ls : Array Slot), fX0_priceOfLevel_15_L N n x1 x2 x3 x4 x5 z = some r → va_P D vwCl (wH cI cJ cZ ad z) H → va_S A s.heap H locs → lv_has ls 7 [(0, .ref (ad 3)), (1, .int x1), (2, .int x2), (3, .int x3), (4, .int x4), (5, .int x5)] → W p l e R s m args below meth c H locs 0 0 Q (F0 m 15 ls []) := by
  intro n
  induction n with
  | zero => intro x1 x2 x3 x4 x5 z H locs ls h; exact nomatch (show (none : Option (Int32 × SH)) = some r from h)
  | succ n ih => intro x1 x2 x3 x4 x5 z H locs ls h hP hS hl; exact wX0_priceOfLevel_15 C hR N (fX0_priceOfLevel_15_L N n) ih x1 x2 x3 x4 x5 z (show fX0_priceOfLevel_15 N (fX0_priceOfLevel_15_L N n) x1 x2 x3 x4 x5 z = some r from h) hP hS hl
set_option maxRecDepth 100000 in
set_option maxHeartbeats 4000000 in
theorem wX0_priceOfLevel {p : Program} {l : Launch} {e : Env} {R : Room} {s : State} {m : MethodId} {args : Array Value} {below : List Frame} {meth : Method} {c : Code} {Q : State → Prop} {D : va_G} {cI cJ cZ : ClassId} {ad : Nat → Nat} {A : Nat → Prop} (C : Cx p s m args c cX0_priceOfLevel 7 wsX0_priceOfLevel RX0 D vwCl (tyl cI cJ cZ) (wH cI cJ cZ ad) A R 0 0) {r : (Int32 × SH)} (hR : Ri p l e R s m args below meth c cX0_priceOfLevel D vwCl (wH cI cJ cZ ad) A Q r) (N : Nat) (a1 : Int32) (a2 : Int32) (z0 : SH) {H : Heap} {locs : List Loc} {ls : Array Slot} (h : fX0_priceOfLevel N a1 a2 z0 = some r) (hP : va_P D vwCl (wH cI cJ cZ ad z0) H) (hS : va_S A s.heap H locs) (hl : lv_has ls 7 [(0, .ref (ad 3)), (1, .int a1), (2, .int a2)]) : W p l e R s m args below meth c H locs 0 0 Q (F0 m 0 ls []) := by
  unfold fX0_priceOfLevel at h
  have hx := C.1.1
  have hb := C.1.2.1
  refine lv_iconst (v := -1) hx hb dX0_priceOfLevel_0 (by decide) ?_
  refine lv_istore_n (lv' := [(3, .int ((-1))), (0, .ref (ad 3)), (1, .int a1), (2, .int a2)]) hx hb dX0_priceOfLevel_1 rfl hl (by decide) rfl (fun ls hl => ?_)
  refine lv_iconst (v := 0) hx hb dX0_priceOfLevel_2 (by decide) ?_
  refine lv_istore (lv' := [(4, .int 0), (3, .int ((-1))), (0, .ref (ad 3)), (1, .int a1), (2, .int a2)]) hx hb dX0_priceOfLevel_3 hl (by decide) rfl (fun ls hl => ?_)
  refine lv_aload_n hx hb dX0_priceOfLevel_5 rfl (lv_at hl 2 rfl) ?_
  refine b_getr C hP iX0_priceOfLevel_X0 3 (wH_3 cI cJ cZ ad z0) rfl 2 (by decide) fX0_priceOfLevel_i15 rfl rfl dX0_priceOfLevel_6 ?_
  refine lv_iload_n hx hb dX0_priceOfLevel_9 rfl (lv_at hl 3 rfl) ?_
  refine b_iald C hP h 24 (wH_24 cI cJ cZ ad z0) 0 rfl dX0_priceOfLevel_10 (fun v1 h => ?_)
  refine lv_iconst (v := 1) hx hb dX0_priceOfLevel_11 (by decide) ?_
  refine lv_isub hx hb dX0_priceOfLevel_12 ?_
  refine lv_istore (lv' := [(5, .int (v1 - 1)), (4, .int 0), (3, .int ((-1))), (0, .ref (ad 3)), (1, .int a1), (2, .int a2)]) hx hb dX0_priceOfLevel_13 hl (by decide) rfl (fun ls hl => ?_)
  exact wX0_priceOfLevel_15_L C hR N N a1 a2 ((-1)) 0 (v1 - 1) z0 _ _ _ h hP hS (lv_sub hl [3, 4, 5, 2, 1, 0] rfl)
theorem mX0_priceOfLevel (l : Launch) (D : va_G) (cI cJ cZ : ClassId) (ad : Nat → Nat) (N : Nat) (a1 : Int32) (a2 : Int32) (z0 : SH) : ∀ (q : (Int32 × SH)) (sz : Nat), fX0_priceOfLevel N a1 a2 z0 = some q → Met l yX0_priceOfLevel wsX0_priceOfLevel rmX0_priceOfLevel (cP D vwCl (tyl cI cJ cZ) (wH cI cJ cZ ad z0) sz [.ref (ad 3), .int a1, .int a2]) (cQi D vwCl (wH cI cJ cZ ad) z0 sz q) 0 0 (va_A (wH cI cJ cZ ad z0) sz) := by
  intro q sz h
  refine ofW_i (cc := cX0_priceOfLevel) (maxL := 7) (by decide) rfl (wH_same cI cJ cZ ad) (Nat.le_of_ble_eq_true rfl) (fun p e s m below meth c ls hsz C hR hP hl => ?_)
  exact wX0_priceOfLevel C hR N a1 a2 z0 h hP va_S.rf hl
abbrev rmX0_sumLeft : Room := { frames := 0, cells := 0, slots := 0, locals := 0 }
theorem fX0_sumLeft_i15 : Cond.fieldLink RX0 15 (TX0 2).1 (TX0 2).2.1 (TX0 2).2.2.1 ∈ wsX0_sumLeft := by decide +kernel
theorem fX0_sumLeft_i18 : Cond.fieldLink RX0 18 (TX0 0).1 (TX0 0).2.1 (TX0 0).2.2.1 ∈ wsX0_sumLeft := by decide +kernel
theorem fX0_sumLeft_i34 : Cond.fieldLink RX0 34 (TX2 4).1 (TX2 4).2.1 (TX2 4).2.2.1 ∈ wsX0_sumLeft := by decide +kernel
theorem fX0_sumLeft_i37 : Cond.fieldLink RX0 37 (TX2 6).1 (TX2 6).2.1 (TX2 6).2.2.1 ∈ wsX0_sumLeft := by decide +kernel
theorem fX0_sumLeft_i9 : Cond.fieldLink RX0 9 (TX0 1).1 (TX0 1).2.1 (TX0 1).2.2.1 ∈ wsX0_sumLeft := by decide +kernel
theorem iX0_sumLeft_X0 : ∀ x ∈ wsX00, x ∈ wsX0_sumLeft := by decide +kernel
theorem iX0_sumLeft_X2 : ∀ x ∈ wsX20, x ∈ wsX0_sumLeft := by decide +kernel
set_option maxRecDepth 100000 in
set_option maxHeartbeats 4000000 in
theorem wX0_sumLeft_57 {p : Program} {l : Launch} {e : Env} {R : Room} {s : State} {m : MethodId} {args : Array Value} {below : List Frame} {meth : Method} {c : Code} {Q : State → Prop} {D : va_G} {cI cJ cZ : ClassId} {ad : Nat → Nat} {A : Nat → Prop} (C : Cx p s m args c cX0_sumLeft 6 wsX0_sumLeft RX0 D vwCl (tyl cI cJ cZ) (wH cI cJ cZ ad) A R 0 0) {r : (Int32 × SH)} (hR : Ri p l e R s m args below meth c cX0_sumLeft D vwCl (wH cI cJ cZ ad) A Q r) (N : Nat) (k5 : Int32 → Int32 → Int32 → Int32 → SH → Option (Int32 × SH)) (K5 : ∀ (x1 : Int32) (x2 : Int32) (x3 : Int32) (x4 : Int32) (z : SH) (H : Heap) (locs : List Loc) (ls : Array Slot), k5 x1 x2 x3 x4 z = some r → va_P D vwCl (wH cI cJ cZ ad z) H → va_S A s.heap H locs → lv_has ls 6 [(0, .ref (ad 3)), (1, .int x1), (2, .int x2), (3, .int x3), (4, .int x4)] → W p l e R s m args below meth c H locs 0 0 Q (F0 m 5 ls [])) (x1 : Int32) (x2 : Int32) (x3 : Int32) (x4 : Int32) (z0 : SH) {H : Heap} {locs : List Loc} {ls : Array Slot} (h : fX0_sumLeft_57 N k5 x1 x2 x3 x4 z0 = some r) (hP : va_P D vwCl (wH cI cJ cZ ad z0) H) (hS : va_S A s.heap H locs) (hl : lv_has ls 6 [(0, .ref (ad 3)), (1, .int x1), (2, .int x2), (3, .int x3), (4, .int x4)]) : W p l e R s m args below meth c H locs 0 0 Q (F0 m 57 ls []) := by
  unfold fX0_sumLeft_57 at h
  have hx := C.1.1
  have hb := C.1.2.1
  refine lv_iinc (v := x4 + 1) (lv' := [(4, .int (x4 + 1)), (0, .ref (ad 3)), (1, .int x1), (2, .int x2), (3, .int x3)]) hx hb dX0_sumLeft_57 hl (k := 4) rfl rfl (by decide) rfl (fun ls hl => ?_)
  refine lv_goto (tgt := 5) hx hb dX0_sumLeft_60 (by decide) ?_
  exact K5 x1 x2 x3 (x4 + 1) z0 _ _ _ h hP hS (lv_sub hl [1, 2, 3, 4, 0] rfl)
set_option maxRecDepth 100000 in
set_option maxHeartbeats 4000000 in
theorem wX0_sumLeft_5 {p : Program} {l : Launch} {e : Env} {R : Room} {s : State} {m : MethodId} {args : Array Value} {below : List Frame} {meth : Method} {c : Code} {Q : State → Prop} {D : va_G} {cI cJ cZ : ClassId} {ad : Nat → Nat} {A : Nat → Prop} (C : Cx p s m args c cX0_sumLeft 6 wsX0_sumLeft RX0 D vwCl (tyl cI cJ cZ) (wH cI cJ cZ ad) A R 0 0) {r : (Int32 × SH)} (hR : Ri p l e R s m args below meth c cX0_sumLeft D vwCl (wH cI cJ cZ ad) A Q r) (N : Nat) (k5 : Int32 → Int32 → Int32 → Int32 → SH → Option (Int32 × SH)) (K5 : ∀ (x1 : Int32) (x2 : Int32) (x3 : Int32) (x4 : Int32) (z : SH) (H : Heap) (locs : List Loc) (ls : Array Slot), k5 x1 x2 x3 x4 z = some r → va_P D vwCl (wH cI cJ cZ ad z) H → va_S A s.heap H locs → lv_has ls 6 [(0, .ref (ad 3)), (1, .int x1), (2, .int x2), (3, .int x3), (4, .int x4)] → W p l e R s m args below meth c H locs 0 0 Q (F0 m 5 ls [])) (x1 : Int32) (x2 : Int32) (x3 : Int32) (x4 : Int32) (z0 : SH) {H : Heap} {locs : List Loc} {ls : Array Slot} (h : fX0_sumLeft_5 N k5 x1 x2 x3 x4 z0 = some r) (hP : va_P D vwCl (wH cI cJ cZ ad z0) H) (hS : va_S A s.heap H locs) (hl : lv_has ls 6 [(0, .ref (ad 3)), (1, .int x1), (2, .int x2), (3, .int x3), (4, .int x4)]) : W p l e R s m args below meth c H locs 0 0 Q (F0 m 5 ls []) := by
  unfold fX0_sumLeft_5 at h
  have hx := C.1.1
  have hb := C.1.2.1
  refine lv_iload hx hb dX0_sumLeft_5 (lv_at hl 4 rfl) ?_
  refine lv_aload_n hx hb dX0_sumLeft_7 rfl (lv_at hl 0 rfl) ?_
  refine b_getr C hP iX0_sumLeft_X0 3 (wH_3 cI cJ cZ ad z0) rfl 2 (by decide) fX0_sumLeft_i15 rfl rfl dX0_sumLeft_8 ?_
  refine lv_iload_n hx hb dX0_sumLeft_11 rfl (lv_at hl 1 rfl) ?_
  refine b_iald C hP h 24 (wH_24 cI cJ cZ ad z0) 0 rfl dX0_sumLeft_12 (fun v1 h => ?_)
  refine lv_icmp_ge (tgt := 63) hx hb dX0_sumLeft_13 (by decide) (fun c1 => ?_) (fun c1 => ?_)
  · replace h := (ite_h h).1 c1
    refine lv_iload_n hx hb dX0_sumLeft_63 rfl (lv_at hl 3 rfl) ?_
    exact hR 64 _ _ _ _ _ (Option.some.inj h).symm dX0_sumLeft_64 hP hS
  · replace h := (ite_h h).2 c1
    refine lv_aload_n hx hb dX0_sumLeft_16 rfl (lv_at hl 0 rfl) ?_
    refine b_getr C hP iX0_sumLeft_X0 3 (wH_3 cI cJ cZ ad z0) rfl 1 (by decide) fX0_sumLeft_i9 rfl rfl dX0_sumLeft_17 ?_
    refine lv_iload_n hx hb dX0_sumLeft_20 rfl (lv_at hl 1 rfl) ?_
    refine lv_bipush (v := 100) hx hb dX0_sumLeft_21 (by decide) ?_
    refine lv_imul hx hb dX0_sumLeft_23 ?_
    refine lv_iload hx hb dX0_sumLeft_24 (lv_at hl 4 rfl) ?_
    refine lv_iadd hx hb dX0_sumLeft_26 ?_
    refine b_iald C hP h 23 (wH_23 cI cJ cZ ad z0) 0 rfl dX0_sumLeft_27 (fun v2 h => ?_)
    refine lv_istore (lv' := [(5, .int v2), (0, .ref (ad 3)), (1, .int x1), (2, .int x2), (3, .int x3), (4, .int x4)]) hx hb dX0_sumLeft_28 hl (by decide) rfl (fun ls hl => ?_)
    refine lv_aload_n hx hb dX0_sumLeft_30 rfl (lv_at hl 1 rfl) ?_
    refine b_getr C hP iX0_sumLeft_X0 3 (wH_3 cI cJ cZ ad z0) rfl 0 (by decide) fX0_sumLeft_i18 rfl rfl dX0_sumLeft_31 ?_
    refine b_getr C hP iX0_sumLeft_X2 2 (wH_2 cI cJ cZ ad z0) rfl 4 (by decide) fX0_sumLeft_i34 rfl rfl dX0_sumLeft_34 ?_
    refine lv_iload hx hb dX0_sumLeft_37 (lv_at hl 0 rfl) ?_
    refine b_iald C hP h 16 (wH_16 cI cJ cZ ad z0) 0 rfl dX0_sumLeft_39 (fun v3 h => ?_)
    refine lv_iload_n hx hb dX0_sumLeft_40 rfl (lv_at hl 3 rfl) ?_
    refine lv_icmp_ne (tgt := 57) hx hb dX0_sumLeft_41 (by decide) (fun c1 => ?_) (fun c1 => ?_)
    · replace h := (ite_h h).2 c1
      exact wX0_sumLeft_57 C hR N k5 K5 x1 x2 x3 x4 z0 h hP hS (lv_sub hl [1, 2, 3, 4, 5] rfl)
    · replace h := (ite_h h).1 c1
      refine lv_iload_n hx hb dX0_sumLeft_44 rfl (lv_at hl 4 rfl) ?_
      refine lv_aload_n hx hb dX0_sumLeft_45 rfl (lv_at hl 1 rfl) ?_
      refine b_getr C hP iX0_sumLeft_X0 3 (wH_3 cI cJ cZ ad z0) rfl 0 (by decide) fX0_sumLeft_i18 rfl rfl dX0_sumLeft_46 ?_
      refine b_getr C hP iX0_sumLeft_X2 2 (wH_2 cI cJ cZ ad z0) rfl 6 (by decide) fX0_sumLeft_i37 rfl rfl dX0_sumLeft_49 ?_
      refine lv_iload hx hb dX0_sumLeft_52 (lv_at hl 0 rfl) ?_
      refine b_iald C hP h 18 (wH_18 cI cJ cZ ad z0) 0 rfl dX0_sumLeft_54 (fun v4 h => ?_)
      refine lv_iadd hx hb dX0_sumLeft_55 ?_
      refine lv_istore_n (lv' := [(3, .int (x3 + v4)), (5, .int v2), (0, .ref (ad 3)), (1, .int x1), (2, .int x2), (4, .int x4)]) hx hb dX0_sumLeft_56 rfl hl (by decide) rfl (fun ls hl => ?_)
      exact wX0_sumLeft_57 C hR N k5 K5 x1 x2 (x3 + v4) x4 z0 h hP hS (lv_sub hl [2, 3, 4, 0, 5] rfl)
theorem wX0_sumLeft_5_L {p : Program} {l : Launch} {e : Env} {R : Room} {s : State} {m : MethodId} {args : Array Value} {below : List Frame} {meth : Method} {c : Code} {Q : State → Prop} {D : va_G} {cI cJ cZ : ClassId} {ad : Nat → Nat} {A : Nat → Prop} (C : Cx p s m args c cX0_sumLeft 6 wsX0_sumLeft RX0 D vwCl (tyl cI cJ cZ) (wH cI cJ cZ ad) A R 0 0) {r : (Int32 × SH)} (hR : Ri p l e R s m args below meth c cX0_sumLeft D vwCl (wH cI cJ cZ ad) A Q r) (N : Nat) : ∀ (n : Nat), ∀ (x1 : Int32) (x2 : Int32) (x3 : Int32) (x4 : Int32) (z : SH) (H : Heap) (locs : List Loc) (ls : Array Slot), fX0_sumLeft_5_L N n x1 x2 x3 x4 z = some r → va_P D vwCl (wH cI cJ cZ ad z) H → va_S A s.heap H locs → lv_has ls 6 [(0, .ref (ad 3)), (1, .int x1), (2, .int x2), (3, .int x3), (4, .int x4)] → W p l e R s m args below meth c H locs 0 0 Q (F0 m 5 ls []) := by
  intro n
  induction n with
  | zero => intro x1 x2 x3 x4 z H locs ls h; exact nomatch (show (none : Option (Int32 × SH)) = some r from h)
  | succ n ih => intro x1 x2 x3 x4 z H locs ls h hP hS hl; exact wX0_sumLeft_5 C hR N (fX0_sumLeft_5_L N n) ih x1 x2 x3 x4 z (show fX0_sumLeft_5 N (fX0_sumLeft_5_L N n) x1 x2 x3 x4 z = some r from h) hP hS hl
set_option maxRecDepth 100000 in
set_option maxHeartbeats 4000000 in
theorem wX0_sumLeft {p : Program} {l : Launch} {e : Env} {R : Room} {s : State} {m : MethodId} {args : Array Value} {below : List Frame} {meth : Method} {c : Code} {Q : State → Prop} {D : va_G} {cI cJ cZ : ClassId} {ad : Nat → Nat} {A : Nat → Prop} (C : Cx p s m args c cX0_sumLeft 6 wsX0_sumLeft RX0 D vwCl (tyl cI cJ cZ) (wH cI cJ cZ ad) A R 0 0) {r : (Int32 × SH)} (hR : Ri p l e R s m args below meth c cX0_sumLeft D vwCl (wH cI cJ cZ ad) A Q r) (N : Nat) (a1 : Int32) (a2 : Int32) (z0 : SH) {H : Heap} {locs : List Loc} {ls : Array Slot} (h : fX0_sumLeft N a1 a2 z0 = some r) (hP : va_P D vwCl (wH cI cJ cZ ad z0) H) (hS : va_S A s.heap H locs) (hl : lv_has ls 6 [(0, .ref (ad 3)), (1, .int a1), (2, .int a2)]) : W p l e R s m args below meth c H locs 0 0 Q (F0 m 0 ls []) := by
  unfold fX0_sumLeft at h
  have hx := C.1.1
  have hb := C.1.2.1
  refine lv_iconst (v := 0) hx hb dX0_sumLeft_0 (by decide) ?_
  refine lv_istore_n (lv' := [(3, .int 0), (0, .ref (ad 3)), (1, .int a1), (2, .int a2)]) hx hb dX0_sumLeft_1 rfl hl (by decide) rfl (fun ls hl => ?_)
  refine lv_iconst (v := 0) hx hb dX0_sumLeft_2 (by decide) ?_
  refine lv_istore (lv' := [(4, .int 0), (3, .int 0), (0, .ref (ad 3)), (1, .int a1), (2, .int a2)]) hx hb dX0_sumLeft_3 hl (by decide) rfl (fun ls hl => ?_)
  exact wX0_sumLeft_5_L C hR N N a1 a2 0 0 z0 _ _ _ h hP hS (lv_sub hl [2, 3, 4, 1, 0] rfl)
theorem mX0_sumLeft (l : Launch) (D : va_G) (cI cJ cZ : ClassId) (ad : Nat → Nat) (N : Nat) (a1 : Int32) (a2 : Int32) (z0 : SH) : ∀ (q : (Int32 × SH)) (sz : Nat), fX0_sumLeft N a1 a2 z0 = some q → Met l yX0_sumLeft wsX0_sumLeft rmX0_sumLeft (cP D vwCl (tyl cI cJ cZ) (wH cI cJ cZ ad z0) sz [.ref (ad 3), .int a1, .int a2]) (cQi D vwCl (wH cI cJ cZ ad) z0 sz q) 0 0 (va_A (wH cI cJ cZ ad z0) sz) := by
  intro q sz h
  refine ofW_i (cc := cX0_sumLeft) (maxL := 6) (by decide) rfl (wH_same cI cJ cZ ad) (Nat.le_of_ble_eq_true rfl) (fun p e s m below meth c ls hsz C hR hP hl => ?_)
  exact wX0_sumLeft C hR N a1 a2 z0 h hP va_S.rf hl
abbrev rmX1_turnover : Room := { frames := 1, cells := 0, slots := 0, locals := 21 }
theorem fX1_turnover_i25 : Cond.fieldLink RX1 25 (TX1 4).1 (TX1 4).2.1 (TX1 4).2.2.1 ∈ wsX1_turnover := by decide +kernel
theorem fX1_turnover_i28 : Cond.fieldLink RX1 28 (TX1 5).1 (TX1 5).2.1 (TX1 5).2.2.1 ∈ wsX1_turnover := by decide +kernel
theorem iX1_turnover_X1 : ∀ x ∈ wsX10, x ∈ wsX1_turnover := by decide +kernel
set_option maxRecDepth 100000 in
set_option maxHeartbeats 4000000 in
theorem wX1_turnover {p : Program} {l : Launch} {e : Env} {R : Room} {s : State} {m : MethodId} {args : Array Value} {below : List Frame} {meth : Method} {c : Code} {Q : State → Prop} {D : va_G} {cI cJ cZ : ClassId} {ad : Nat → Nat} {A : Nat → Prop} (C : Cx p s m args c cX1_turnover 4 wsX1_turnover RX1 D vwCl (tyl cI cJ cZ) (wH cI cJ cZ ad) A R 1 21) {r : (Int32 × SH)} (hR : Ri p l e R s m args below meth c cX1_turnover D vwCl (wH cI cJ cZ ad) A Q r) (a1 : Int32) (a2 : Int32) (z0 : SH) {H : Heap} {locs : List Loc} {ls : Array Slot} (h : fX1_turnover a1 a2 z0 = some r) (hP : va_P D vwCl (wH cI cJ cZ ad z0) H) (hS : va_S A s.heap H locs) (hl : lv_has ls 4 [(0, .ref (ad 1)), (1, .int a1), (2, .int a2)]) : W p l e R s m args below meth c H locs 0 0 Q (F0 m 0 ls []) := by
  unfold fX1_turnover at h
  have hx := C.1.1
  have hb := C.1.2.1
  refine lv_iload_n hx hb dX1_turnover_0 rfl (lv_at hl 1 rfl) ?_
  refine lv_iload_n hx hb dX1_turnover_1 rfl (lv_at hl 2 rfl) ?_
  refine b_callSi (As := [.int a1, .int a2]) (rest := []) C hP hS h (mX1_placeOf l D cI cJ cZ ad a1 a2 z0) (va_cwS 2 C.1.2.2.2.2 gX1_turnover_X1_placeOf rfl rfl rfl (by decide +kernel) ⟨Nat.le_trans (Nat.le_of_ble_eq_true rfl) C.2.2.2.2.1, Nat.le_trans (Nat.le_of_ble_eq_true rfl) C.2.2.2.2.2⟩) rfl hl.1 rfl (Nat.le_of_ble_eq_true rfl) dX1_turnover_2 (fun v2 z1 _ _ h hP hS => ?_)
  refine lv_istore_n (lv' := [(3, .int v2), (0, .ref (ad 1)), (1, .int a1), (2, .int a2)]) hx hb dX1_turnover_5 rfl hl (by decide) rfl (fun ls hl => ?_)
  refine lv_aload_n hx hb dX1_turnover_6 rfl (lv_at hl 1 rfl) ?_
  refine b_getr C hP iX1_turnover_X1 1 (wH_1 cI cJ cZ ad z1) rfl 4 (by decide) fX1_turnover_i25 rfl rfl dX1_turnover_7 ?_
  refine lv_iload_n hx hb dX1_turnover_10 rfl (lv_at hl 0 rfl) ?_
  refine b_iald C hP h 9 (wH_9 cI cJ cZ ad z1) 0 rfl dX1_turnover_11 (fun v3 h => ?_)
  refine lv_aload_n hx hb dX1_turnover_12 rfl (lv_at hl 1 rfl) ?_
  refine b_getr C hP iX1_turnover_X1 1 (wH_1 cI cJ cZ ad z1) rfl 5 (by decide) fX1_turnover_i28 rfl rfl dX1_turnover_13 ?_
  refine lv_iload_n hx hb dX1_turnover_16 rfl (lv_at hl 0 rfl) ?_
  refine b_iald C hP h 10 (wH_10 cI cJ cZ ad z1) 0 rfl dX1_turnover_17 (fun v4 h => ?_)
  refine lv_iadd hx hb dX1_turnover_18 ?_
  exact hR 19 _ _ _ _ _ (Option.some.inj h).symm dX1_turnover_19 hP hS
theorem mX1_turnover (l : Launch) (D : va_G) (cI cJ cZ : ClassId) (ad : Nat → Nat) (a1 : Int32) (a2 : Int32) (z0 : SH) : ∀ (q : (Int32 × SH)) (sz : Nat), fX1_turnover a1 a2 z0 = some q → Met l yX1_turnover wsX1_turnover rmX1_turnover (cP D vwCl (tyl cI cJ cZ) (wH cI cJ cZ ad z0) sz [.ref (ad 1), .int a1, .int a2]) (cQi D vwCl (wH cI cJ cZ ad) z0 sz q) 0 0 (va_A (wH cI cJ cZ ad z0) sz) := by
  intro q sz h
  refine ofW_i (cc := cX1_turnover) (maxL := 4) (by decide) rfl (wH_same cI cJ cZ ad) (Nat.le_of_ble_eq_true rfl) (fun p e s m below meth c ls hsz C hR hP hl => ?_)
  exact wX1_turnover C hR a1 a2 z0 h hP va_S.rf hl
abbrev rmX1_countBusier : Room := { frames := 2, cells := 0, slots := 0, locals := 44 }
set_option maxRecDepth 100000 in
set_option maxHeartbeats 4000000 in
theorem wX1_countBusier_51 {p : Program} {l : Launch} {e : Env} {R : Room} {s : State} {m : MethodId} {args : Array Value} {below : List Frame} {meth : Method} {c : Code} {Q : State → Prop} {D : va_G} {cI cJ cZ : ClassId} {ad : Nat → Nat} {A : Nat → Prop} (C : Cx p s m args c cX1_countBusier 7 wsX1_countBusier RX1 D vwCl (tyl cI cJ cZ) (wH cI cJ cZ ad) A R 2 44) {r : (Int32 × SH)} (hR : Ri p l e R s m args below meth c cX1_countBusier D vwCl (wH cI cJ cZ ad) A Q r) (N : Nat) (k13 : Int32 → Int32 → Int32 → Int32 → Int32 → SH → Option (Int32 × SH)) (K13 : ∀ (x1 : Int32) (x2 : Int32) (x3 : Int32) (x4 : Int32) (x5 : Int32) (z : SH) (H : Heap) (locs : List Loc) (ls : Array Slot), k13 x1 x2 x3 x4 x5 z = some r → va_P D vwCl (wH cI cJ cZ ad z) H → va_S A s.heap H locs → lv_has ls 7 [(0, .ref (ad 1)), (1, .int x1), (2, .int x2), (3, .int x3), (4, .int x4), (5, .int x5)] → W p l e R s m args below meth c H locs 0 0 Q (F0 m 13 ls [])) (x1 : Int32) (x2 : Int32) (x3 : Int32) (x4 : Int32) (x5 : Int32) (z0 : SH) {H : Heap} {locs : List Loc} {ls : Array Slot} (h : fX1_countBusier_51 N k13 x1 x2 x3 x4 x5 z0 = some r) (hP : va_P D vwCl (wH cI cJ cZ ad z0) H) (hS : va_S A s.heap H locs) (hl : lv_has ls 7 [(0, .ref (ad 1)), (1, .int x1), (2, .int x2), (3, .int x3), (4, .int x4), (5, .int x5)]) : W p l e R s m args below meth c H locs 0 0 Q (F0 m 51 ls []) := by
  unfold fX1_countBusier_51 at h
  have hx := C.1.1
  have hb := C.1.2.1
  refine lv_iinc (v := x5 + 1) (lv' := [(5, .int (x5 + 1)), (0, .ref (ad 1)), (1, .int x1), (2, .int x2), (3, .int x3), (4, .int x4)]) hx hb dX1_countBusier_51 hl (k := 5) rfl rfl (by decide) rfl (fun ls hl => ?_)
  refine lv_goto (tgt := 13) hx hb dX1_countBusier_54 (by decide) ?_
  exact K13 x1 x2 x3 x4 (x5 + 1) z0 _ _ _ h hP hS (lv_sub hl [1, 2, 3, 4, 5, 0] rfl)
set_option maxRecDepth 100000 in
set_option maxHeartbeats 4000000 in
theorem wX1_countBusier_48 {p : Program} {l : Launch} {e : Env} {R : Room} {s : State} {m : MethodId} {args : Array Value} {below : List Frame} {meth : Method} {c : Code} {Q : State → Prop} {D : va_G} {cI cJ cZ : ClassId} {ad : Nat → Nat} {A : Nat → Prop} (C : Cx p s m args c cX1_countBusier 7 wsX1_countBusier RX1 D vwCl (tyl cI cJ cZ) (wH cI cJ cZ ad) A R 2 44) {r : (Int32 × SH)} (hR : Ri p l e R s m args below meth c cX1_countBusier D vwCl (wH cI cJ cZ ad) A Q r) (N : Nat) (k13 : Int32 → Int32 → Int32 → Int32 → Int32 → SH → Option (Int32 × SH)) (K13 : ∀ (x1 : Int32) (x2 : Int32) (x3 : Int32) (x4 : Int32) (x5 : Int32) (z : SH) (H : Heap) (locs : List Loc) (ls : Array Slot), k13 x1 x2 x3 x4 x5 z = some r → va_P D vwCl (wH cI cJ cZ ad z) H → va_S A s.heap H locs → lv_has ls 7 [(0, .ref (ad 1)), (1, .int x1), (2, .int x2), (3, .int x3), (4, .int x4), (5, .int x5)] → W p l e R s m args below meth c H locs 0 0 Q (F0 m 13 ls [])) (x1 : Int32) (x2 : Int32) (x3 : Int32) (x4 : Int32) (x5 : Int32) (z0 : SH) {H : Heap} {locs : List Loc} {ls : Array Slot} (h : fX1_countBusier_48 N k13 x1 x2 x3 x4 x5 z0 = some r) (hP : va_P D vwCl (wH cI cJ cZ ad z0) H) (hS : va_S A s.heap H locs) (hl : lv_has ls 7 [(0, .ref (ad 1)), (1, .int x1), (2, .int x2), (3, .int x3), (4, .int x4), (5, .int x5)]) : W p l e R s m args below meth c H locs 0 0 Q (F0 m 48 ls []) := by
  unfold fX1_countBusier_48 at h
  have hx := C.1.1
  have hb := C.1.2.1
  refine lv_iinc (v := x4 + 1) (lv' := [(4, .int (x4 + 1)), (0, .ref (ad 1)), (1, .int x1), (2, .int x2), (3, .int x3), (5, .int x5)]) hx hb dX1_countBusier_48 hl (k := 4) rfl rfl (by decide) rfl (fun ls hl => ?_)
  exact wX1_countBusier_51 C hR N k13 K13 x1 x2 x3 (x4 + 1) x5 z0 h hP hS (lv_sub hl [1, 2, 3, 4, 0, 5] rfl)
set_option maxRecDepth 100000 in
set_option maxHeartbeats 4000000 in
theorem wX1_countBusier_13 {p : Program} {l : Launch} {e : Env} {R : Room} {s : State} {m : MethodId} {args : Array Value} {below : List Frame} {meth : Method} {c : Code} {Q : State → Prop} {D : va_G} {cI cJ cZ : ClassId} {ad : Nat → Nat} {A : Nat → Prop} (C : Cx p s m args c cX1_countBusier 7 wsX1_countBusier RX1 D vwCl (tyl cI cJ cZ) (wH cI cJ cZ ad) A R 2 44) {r : (Int32 × SH)} (hR : Ri p l e R s m args below meth c cX1_countBusier D vwCl (wH cI cJ cZ ad) A Q r) (N : Nat) (k13 : Int32 → Int32 → Int32 → Int32 → Int32 → SH → Option (Int32 × SH)) (K13 : ∀ (x1 : Int32) (x2 : Int32) (x3 : Int32) (x4 : Int32) (x5 : Int32) (z : SH) (H : Heap) (locs : List Loc) (ls : Array Slot), k13 x1 x2 x3 x4 x5 z = some r → va_P D vwCl (wH cI cJ cZ ad z) H → va_S A s.heap H locs → lv_has ls 7 [(0, .ref (ad 1)), (1, .int x1), (2, .int x2), (3, .int x3), (4, .int x4), (5, .int x5)] → W p l e R s m args below meth c H locs 0 0 Q (F0 m 13 ls [])) (x1 : Int32) (x2 : Int32) (x3 : Int32) (x4 : Int32) (x5 : Int32) (z0 : SH) {H : Heap} {locs : List Loc} {ls : Array Slot} (h : fX1_countBusier_13 N k13 x1 x2 x3 x4 x5 z0 = some r) (hP : va_P D vwCl (wH cI cJ cZ ad z0) H) (hS : va_S A s.heap H locs) (hl : lv_has ls 7 [(0, .ref (ad 1)), (1, .int x1), (2, .int x2), (3, .int x3), (4, .int x4), (5, .int x5)]) : W p l e R s m args below meth c H locs 0 0 Q (F0 m 13 ls []) := by
  unfold fX1_countBusier_13 at h
  have hx := C.1.1
  have hb := C.1.2.1
  refine lv_iload hx hb dX1_countBusier_13 (lv_at hl 5 rfl) ?_
  refine lv_sipush (v := 512) hx hb dX1_countBusier_15 (by decide) ?_
  refine lv_icmp_ge (tgt := 57) hx hb dX1_countBusier_18 (by decide) (fun c1 => ?_) (fun c1 => ?_)
  · replace h := (ite_h h).1 c1
    refine lv_iload hx hb dX1_countBusier_57 (lv_at hl 4 rfl) ?_
    exact hR 59 _ _ _ _ _ (Option.some.inj h).symm dX1_countBusier_59 hP hS
  · replace h := (ite_h h).2 c1
    refine lv_aload_n hx hb dX1_countBusier_21 rfl (lv_at hl 0 rfl) ?_
    refine lv_iload hx hb dX1_countBusier_22 (lv_at hl 5 rfl) ?_
    refine lv_iload_n hx hb dX1_countBusier_24 rfl (lv_at hl 2 rfl) ?_
    refine b_callVi (As := [.int x5, .int x2]) (rest := []) C hP hS h (mX1_turnover l D cI cJ cZ ad x5 x2 z0) (cwV 2 C.1.2.2.2.2 gX1_countBusier_X1_turnover rfl rfl rfl (by decide +kernel) ⟨Nat.le_trans (Nat.le_of_ble_eq_true rfl) C.2.2.2.2.1, Nat.le_trans (Nat.le_of_ble_eq_true rfl) C.2.2.2.2.2⟩) (va_recv C.2.1 hP (ci := 1) (q0 := 1) rfl (wH_1 cI cJ cZ ad z0)) rfl hl.1 rfl (Nat.le_of_ble_eq_true rfl) dX1_countBusier_25 (fun v2 z1 _ _ h hP hS => ?_)
    refine lv_istore (lv' := [(6, .int v2), (0, .ref (ad 1)), (1, .int x1), (2, .int x2), (3, .int x3), (4, .int x4), (5, .int x5)]) hx hb dX1_countBusier_28 hl (by decide) rfl (fun ls hl => ?_)
    refine lv_iload hx hb dX1_countBusier_30 (lv_at hl 0 rfl) ?_
    refine lv_iload_n hx hb dX1_countBusier_32 rfl (lv_at hl 4 rfl) ?_
    refine lv_icmp_gt (tgt := 48) hx hb dX1_countBusier_33 (by decide) (fun c1 => ?_) (fun c1 => ?_)
    · replace h := (ite_h h).1 c1
      exact wX1_countBusier_48 C hR N k13 K13 x1 x2 x3 x4 x5 z1 h hP hS (lv_sub hl [1, 2, 3, 4, 5, 6] rfl)
    · replace h := (ite_h h).2 c1
      refine lv_iload hx hb dX1_countBusier_36 (lv_at hl 0 rfl) ?_
      refine lv_iload_n hx hb dX1_countBusier_38 rfl (lv_at hl 4 rfl) ?_
      refine lv_icmp_ne (tgt := 51) hx hb dX1_countBusier_39 (by decide) (fun c1 => ?_) (fun c1 => ?_)
      · replace h := (ite_h h).2 c1
        exact wX1_countBusier_51 C hR N k13 K13 x1 x2 x3 x4 x5 z1 h hP hS (lv_sub hl [1, 2, 3, 4, 5, 6] rfl)
      · replace h := (ite_h h).1 c1
        refine lv_iload hx hb dX1_countBusier_42 (lv_at hl 6 rfl) ?_
        refine lv_iload_n hx hb dX1_countBusier_44 rfl (lv_at hl 2 rfl) ?_
        refine lv_icmp_ge (tgt := 51) hx hb dX1_countBusier_45 (by decide) (fun c1 => ?_) (fun c1 => ?_)
        · replace h := (ite_h h).1 c1
          exact wX1_countBusier_51 C hR N k13 K13 x1 x2 x3 x4 x5 z1 h hP hS (lv_sub hl [1, 2, 3, 4, 5, 6] rfl)
        · replace h := (ite_h h).2 c1
          exact wX1_countBusier_48 C hR N k13 K13 x1 x2 x3 x4 x5 z1 h hP hS (lv_sub hl [1, 2, 3, 4, 5, 6] rfl)
theorem wX1_countBusier_13_L {p : Program} {l : Launch} {e : Env} {R : Room} {s : State} {m : MethodId} {args : Array Value} {below : List Frame} {meth : Method} {c : Code} {Q : State → Prop} {D : va_G} {cI cJ cZ : ClassId} {ad : Nat → Nat} {A : Nat → Prop} (C : Cx p s m args c cX1_countBusier 7 wsX1_countBusier RX1 D vwCl (tyl cI cJ cZ) (wH cI cJ cZ ad) A R 2 44) {r : (Int32 × SH)} (hR : Ri p l e R s m args below meth c cX1_countBusier D vwCl (wH cI cJ cZ ad) A Q r) (N : Nat) : ∀ (n : Nat), ∀ (x1 : Int32) (x2 : Int32) (x3 : Int32) (x4 : Int32) (x5 : Int32) (z : SH) (H : Heap) (locs : List Loc) (ls : Array Slot), fX1_countBusier_13_L N n x1 x2 x3 x4 x5 z = some r → va_P D vwCl (wH cI cJ cZ ad z) H → va_S A s.heap H locs → lv_has ls 7 [(0, .ref (ad 1)), (1, .int x1), (2, .int x2), (3, .int x3), (4, .int x4), (5, .int x5)] → W p l e R s m args below meth c H locs 0 0 Q (F0 m 13 ls []) := by
  intro n
  induction n with
  | zero => intro x1 x2 x3 x4 x5 z H locs ls h; exact nomatch (show (none : Option (Int32 × SH)) = some r from h)
  | succ n ih => intro x1 x2 x3 x4 x5 z H locs ls h hP hS hl; exact wX1_countBusier_13 C hR N (fX1_countBusier_13_L N n) ih x1 x2 x3 x4 x5 z (show fX1_countBusier_13 N (fX1_countBusier_13_L N n) x1 x2 x3 x4 x5 z = some r from h) hP hS hl
set_option maxRecDepth 100000 in
set_option maxHeartbeats 4000000 in
theorem wX1_countBusier {p : Program} {l : Launch} {e : Env} {R : Room} {s : State} {m : MethodId} {args : Array Value} {below : List Frame} {meth : Method} {c : Code} {Q : State → Prop} {D : va_G} {cI cJ cZ : ClassId} {ad : Nat → Nat} {A : Nat → Prop} (C : Cx p s m args c cX1_countBusier 7 wsX1_countBusier RX1 D vwCl (tyl cI cJ cZ) (wH cI cJ cZ ad) A R 2 44) {r : (Int32 × SH)} (hR : Ri p l e R s m args below meth c cX1_countBusier D vwCl (wH cI cJ cZ ad) A Q r) (N : Nat) (a1 : Int32) (a2 : Int32) (z0 : SH) {H : Heap} {locs : List Loc} {ls : Array Slot} (h : fX1_countBusier N a1 a2 z0 = some r) (hP : va_P D vwCl (wH cI cJ cZ ad z0) H) (hS : va_S A s.heap H locs) (hl : lv_has ls 7 [(0, .ref (ad 1)), (1, .int a1), (2, .int a2)]) : W p l e R s m args below meth c H locs 0 0 Q (F0 m 0 ls []) := by
  unfold fX1_countBusier at h
  have hx := C.1.1
  have hb := C.1.2.1
  refine lv_aload_n hx hb dX1_countBusier_0 rfl (lv_at hl 0 rfl) ?_
  refine lv_iload_n hx hb dX1_countBusier_1 rfl (lv_at hl 1 rfl) ?_
  refine lv_iload_n hx hb dX1_countBusier_2 rfl (lv_at hl 2 rfl) ?_
  refine b_callVi (As := [.int a1, .int a2]) (rest := []) C hP hS h (mX1_turnover l D cI cJ cZ ad a1 a2 z0) (cwV 2 C.1.2.2.2.2 gX1_countBusier_X1_turnover rfl rfl rfl (by decide +kernel) ⟨Nat.le_trans (Nat.le_of_ble_eq_true rfl) C.2.2.2.2.1, Nat.le_trans (Nat.le_of_ble_eq_true rfl) C.2.2.2.2.2⟩) (va_recv C.2.1 hP (ci := 1) (q0 := 1) rfl (wH_1 cI cJ cZ ad z0)) rfl hl.1 rfl (Nat.le_of_ble_eq_true rfl) dX1_countBusier_3 (fun v2 z1 _ _ h hP hS => ?_)
  refine lv_istore_n (lv' := [(3, .int v2), (0, .ref (ad 1)), (1, .int a1), (2, .int a2)]) hx hb dX1_countBusier_6 rfl hl (by decide) rfl (fun ls hl => ?_)
  refine lv_iconst (v := 0) hx hb dX1_countBusier_7 (by decide) ?_
  refine lv_istore (lv' := [(4, .int 0), (3, .int v2), (0, .ref (ad 1)), (1, .int a1), (2, .int a2)]) hx hb dX1_countBusier_8 hl (by decide) rfl (fun ls hl => ?_)
  refine lv_iconst (v := 0) hx hb dX1_countBusier_10 (by decide) ?_
  refine lv_istore (lv' := [(5, .int 0), (4, .int 0), (3, .int v2), (0, .ref (ad 1)), (1, .int a1), (2, .int a2)]) hx hb dX1_countBusier_11 hl (by decide) rfl (fun ls hl => ?_)
  exact wX1_countBusier_13_L C hR N N a1 a2 v2 0 0 z1 _ _ _ h hP hS (lv_sub hl [3, 4, 5, 2, 1, 0] rfl)
theorem mX1_countBusier (l : Launch) (D : va_G) (cI cJ cZ : ClassId) (ad : Nat → Nat) (N : Nat) (a1 : Int32) (a2 : Int32) (z0 : SH) : ∀ (q : (Int32 × SH)) (sz : Nat), fX1_countBusier N a1 a2 z0 = some q → Met l yX1_countBusier wsX1_countBusier rmX1_countBusier (cP D vwCl (tyl cI cJ cZ) (wH cI cJ cZ ad z0) sz [.ref (ad 1), .int a1, .int a2]) (cQi D vwCl (wH cI cJ cZ ad) z0 sz q) 0 0 (va_A (wH cI cJ cZ ad z0) sz) := by
  intro q sz h
  refine ofW_i (cc := cX1_countBusier) (maxL := 7) (by decide) rfl (wH_same cI cJ cZ ad) (Nat.le_of_ble_eq_true rfl) (fun p e s m below meth c ls hsz C hR hP hl => ?_)
  exact wX1_countBusier C hR N a1 a2 z0 h hP va_S.rf hl
