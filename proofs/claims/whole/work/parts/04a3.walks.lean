abbrev rmX5_priceAt : Room := { frames := 1, cells := 0, slots := 0, locals := 23 }
theorem fX5_priceAt_i116 : Cond.fieldLink RX5 116 (TX5 9).1 (TX5 9).2.1 (TX5 9).2.2.1 ∈ wsX5_priceAt := by decide +kernel
theorem fX5_priceAt_i45 : Cond.fieldLink RX5 45 (TX5 14).1 (TX5 14).2.1 (TX5 14).2.2.1 ∈ wsX5_priceAt := by decide +kernel
theorem iX5_priceAt_X5 : ∀ x ∈ wsX50, x ∈ wsX5_priceAt := by decide +kernel
set_option maxRecDepth 100000 in
set_option maxHeartbeats 4000000 in
theorem wX5_priceAt_106 {p : Program} {l : Launch} {e : Env} {R : Room} {s : State} {m : MethodId} {args : Array Value} {below : List Frame} {meth : Method} {c : Code} {Q : State → Prop} {D : va_G} {cI cJ cZ : ClassId} {ad : Nat → Nat} {A : Nat → Prop} (C : Cx p s m args c cX5_priceAt 9 wsX5_priceAt RX5 D vwCl (tyl cI cJ cZ) (wM cI cJ cZ ad) A R 1 23) {r : (Int32 × SH)} (hR : Ri p l e R s m args below meth c cX5_priceAt D vwCl (wM cI cJ cZ ad) A Q r) (N : Nat) (k6 : Int32 → Int32 → Int32 → Int32 → Int32 → SH → Option (Int32 × SH)) (k18 : Int32 → Int32 → Int32 → Int32 → Int32 → Int32 → Int32 → SH → Option (Int32 × SH)) (K6 : ∀ (x1 : Int32) (x2 : Int32) (x3 : Int32) (x4 : Int32) (x5 : Int32) (z : SH) (H : Heap) (locs : List Loc) (ls : Array Slot), k6 x1 x2 x3 x4 x5 z = some r → va_P D vwCl (wM cI cJ cZ ad z) H → va_S A s.heap H locs → lv_has ls 9 [(0, .ref (ad 0)), (1, .int x1), (2, .int x2), (3, .int x3), (4, .int x4), (5, .int x5)] → W p l e R s m args below meth c H locs 0 0 Q (F0 m 6 ls [])) (K18 : ∀ (x1 : Int32) (x2 : Int32) (x3 : Int32) (x4 : Int32) (x5 : Int32) (x6 : Int32) (x7 : Int32) (z : SH) (H : Heap) (locs : List Loc) (ls : Array Slot), k18 x1 x2 x3 x4 x5 x6 x7 z = some r → va_P D vwCl (wM cI cJ cZ ad z) H → va_S A s.heap H locs → lv_has ls 9 [(0, .ref (ad 0)), (1, .int x1), (2, .int x2), (3, .int x3), (4, .int x4), (5, .int x5), (6, .int x6), (7, .int x7)] → W p l e R s m args below meth c H locs 0 0 Q (F0 m 18 ls [])) (x1 : Int32) (x2 : Int32) (x3 : Int32) (x4 : Int32) (x5 : Int32) (x7 : Int32) (t0 : Int32) (z0 : SH) {H : Heap} {locs : List Loc} {ls : Array Slot} (h : fX5_priceAt_106 N k6 k18 x1 x2 x3 x4 x5 x7 t0 z0 = some r) (hP : va_P D vwCl (wM cI cJ cZ ad z0) H) (hS : va_S A s.heap H locs) (hl : lv_has ls 9 [(0, .ref (ad 0)), (1, .int x1), (2, .int x2), (3, .int x3), (4, .int x4), (5, .int x5), (7, .int x7)]) : W p l e R s m args below meth c H locs 0 0 Q (F0 m 106 ls [.int t0]) := by
  unfold fX5_priceAt_106 at h
  have hx := C.1.1
  have hb := C.1.2.1
  refine lv_istore (lv' := [(6, .int t0), (0, .ref (ad 0)), (1, .int x1), (2, .int x2), (3, .int x3), (4, .int x4), (5, .int x5), (7, .int x7)]) hx hb dX5_priceAt_106 hl (by decide) rfl (fun ls hl => ?_)
  refine lv_iinc (v := x7 + 1) (lv' := [(7, .int (x7 + 1)), (6, .int t0), (0, .ref (ad 0)), (1, .int x1), (2, .int x2), (3, .int x3), (4, .int x4), (5, .int x5)]) hx hb dX5_priceAt_108 hl (k := 7) rfl rfl (by decide) rfl (fun ls hl => ?_)
  refine lv_goto (tgt := 18) hx hb dX5_priceAt_111 (by decide) ?_
  exact K18 x1 x2 x3 x4 x5 t0 (x7 + 1) z0 _ _ _ h hP hS (lv_sub hl [2, 3, 4, 5, 6, 7, 1, 0] rfl)
set_option maxRecDepth 100000 in
set_option maxHeartbeats 4000000 in
theorem wX5_priceAt_104 {p : Program} {l : Launch} {e : Env} {R : Room} {s : State} {m : MethodId} {args : Array Value} {below : List Frame} {meth : Method} {c : Code} {Q : State → Prop} {D : va_G} {cI cJ cZ : ClassId} {ad : Nat → Nat} {A : Nat → Prop} (C : Cx p s m args c cX5_priceAt 9 wsX5_priceAt RX5 D vwCl (tyl cI cJ cZ) (wM cI cJ cZ ad) A R 1 23) {r : (Int32 × SH)} (hR : Ri p l e R s m args below meth c cX5_priceAt D vwCl (wM cI cJ cZ ad) A Q r) (N : Nat) (k6 : Int32 → Int32 → Int32 → Int32 → Int32 → SH → Option (Int32 × SH)) (k18 : Int32 → Int32 → Int32 → Int32 → Int32 → Int32 → Int32 → SH → Option (Int32 × SH)) (K6 : ∀ (x1 : Int32) (x2 : Int32) (x3 : Int32) (x4 : Int32) (x5 : Int32) (z : SH) (H : Heap) (locs : List Loc) (ls : Array Slot), k6 x1 x2 x3 x4 x5 z = some r → va_P D vwCl (wM cI cJ cZ ad z) H → va_S A s.heap H locs → lv_has ls 9 [(0, .ref (ad 0)), (1, .int x1), (2, .int x2), (3, .int x3), (4, .int x4), (5, .int x5)] → W p l e R s m args below meth c H locs 0 0 Q (F0 m 6 ls [])) (K18 : ∀ (x1 : Int32) (x2 : Int32) (x3 : Int32) (x4 : Int32) (x5 : Int32) (x6 : Int32) (x7 : Int32) (z : SH) (H : Heap) (locs : List Loc) (ls : Array Slot), k18 x1 x2 x3 x4 x5 x6 x7 z = some r → va_P D vwCl (wM cI cJ cZ ad z) H → va_S A s.heap H locs → lv_has ls 9 [(0, .ref (ad 0)), (1, .int x1), (2, .int x2), (3, .int x3), (4, .int x4), (5, .int x5), (6, .int x6), (7, .int x7)] → W p l e R s m args below meth c H locs 0 0 Q (F0 m 18 ls [])) (x1 : Int32) (x2 : Int32) (x3 : Int32) (x4 : Int32) (x5 : Int32) (x6 : Int32) (x7 : Int32) (z0 : SH) {H : Heap} {locs : List Loc} {ls : Array Slot} (h : fX5_priceAt_104 N k6 k18 x1 x2 x3 x4 x5 x6 x7 z0 = some r) (hP : va_P D vwCl (wM cI cJ cZ ad z0) H) (hS : va_S A s.heap H locs) (hl : lv_has ls 9 [(0, .ref (ad 0)), (1, .int x1), (2, .int x2), (3, .int x3), (4, .int x4), (5, .int x5), (6, .int x6), (7, .int x7)]) : W p l e R s m args below meth c H locs 0 0 Q (F0 m 104 ls []) := by
  unfold fX5_priceAt_104 at h
  have hx := C.1.1
  have hb := C.1.2.1
  refine lv_iload hx hb dX5_priceAt_104 (lv_at hl 6 rfl) ?_
  exact wX5_priceAt_106 C hR N k6 k18 K6 K18 x1 x2 x3 x4 x5 x7 x6 z0 h hP hS (lv_sub hl [0, 1, 2, 3, 4, 5, 7] rfl)
set_option maxRecDepth 100000 in
set_option maxHeartbeats 4000000 in
theorem wX5_priceAt_94 {p : Program} {l : Launch} {e : Env} {R : Room} {s : State} {m : MethodId} {args : Array Value} {below : List Frame} {meth : Method} {c : Code} {Q : State → Prop} {D : va_G} {cI cJ cZ : ClassId} {ad : Nat → Nat} {A : Nat → Prop} (C : Cx p s m args c cX5_priceAt 9 wsX5_priceAt RX5 D vwCl (tyl cI cJ cZ) (wM cI cJ cZ ad) A R 1 23) {r : (Int32 × SH)} (hR : Ri p l e R s m args below meth c cX5_priceAt D vwCl (wM cI cJ cZ ad) A Q r) (N : Nat) (k6 : Int32 → Int32 → Int32 → Int32 → Int32 → SH → Option (Int32 × SH)) (k18 : Int32 → Int32 → Int32 → Int32 → Int32 → Int32 → Int32 → SH → Option (Int32 × SH)) (K6 : ∀ (x1 : Int32) (x2 : Int32) (x3 : Int32) (x4 : Int32) (x5 : Int32) (z : SH) (H : Heap) (locs : List Loc) (ls : Array Slot), k6 x1 x2 x3 x4 x5 z = some r → va_P D vwCl (wM cI cJ cZ ad z) H → va_S A s.heap H locs → lv_has ls 9 [(0, .ref (ad 0)), (1, .int x1), (2, .int x2), (3, .int x3), (4, .int x4), (5, .int x5)] → W p l e R s m args below meth c H locs 0 0 Q (F0 m 6 ls [])) (K18 : ∀ (x1 : Int32) (x2 : Int32) (x3 : Int32) (x4 : Int32) (x5 : Int32) (x6 : Int32) (x7 : Int32) (z : SH) (H : Heap) (locs : List Loc) (ls : Array Slot), k18 x1 x2 x3 x4 x5 x6 x7 z = some r → va_P D vwCl (wM cI cJ cZ ad z) H → va_S A s.heap H locs → lv_has ls 9 [(0, .ref (ad 0)), (1, .int x1), (2, .int x2), (3, .int x3), (4, .int x4), (5, .int x5), (6, .int x6), (7, .int x7)] → W p l e R s m args below meth c H locs 0 0 Q (F0 m 18 ls [])) (x1 : Int32) (x2 : Int32) (x3 : Int32) (x4 : Int32) (x5 : Int32) (x7 : Int32) (z0 : SH) {H : Heap} {locs : List Loc} {ls : Array Slot} (h : fX5_priceAt_94 N k6 k18 x1 x2 x3 x4 x5 x7 z0 = some r) (hP : va_P D vwCl (wM cI cJ cZ ad z0) H) (hS : va_S A s.heap H locs) (hl : lv_has ls 9 [(0, .ref (ad 0)), (1, .int x1), (2, .int x2), (3, .int x3), (4, .int x4), (5, .int x5), (7, .int x7)]) : W p l e R s m args below meth c H locs 0 0 Q (F0 m 94 ls []) := by
  unfold fX5_priceAt_94 at h
  have hx := C.1.1
  have hb := C.1.2.1
  refine lv_aload_n hx hb dX5_priceAt_94 rfl (lv_at hl 0 rfl) ?_
  refine b_getr C hP iX5_priceAt_X5 0 (wM_0 cI cJ cZ ad z0) rfl 14 (by decide) fX5_priceAt_i45 rfl rfl dX5_priceAt_95 ?_
  refine lv_iload hx hb dX5_priceAt_98 (lv_at hl 6 rfl) ?_
  refine b_iald C hP h 12 (wM_12 cI cJ cZ ad z0) 0 rfl dX5_priceAt_100 (fun v1 h => ?_)
  refine lv_goto (tgt := 106) hx hb dX5_priceAt_101 (by decide) ?_
  exact wX5_priceAt_106 C hR N k6 k18 K6 K18 x1 x2 x3 x4 x5 x7 v1 z0 h hP hS (lv_sub hl [0, 1, 2, 3, 4, 5, 6] rfl)
set_option maxRecDepth 100000 in
set_option maxHeartbeats 4000000 in
theorem wX5_priceAt_65 {p : Program} {l : Launch} {e : Env} {R : Room} {s : State} {m : MethodId} {args : Array Value} {below : List Frame} {meth : Method} {c : Code} {Q : State → Prop} {D : va_G} {cI cJ cZ : ClassId} {ad : Nat → Nat} {A : Nat → Prop} (C : Cx p s m args c cX5_priceAt 9 wsX5_priceAt RX5 D vwCl (tyl cI cJ cZ) (wM cI cJ cZ ad) A R 1 23) {r : (Int32 × SH)} (hR : Ri p l e R s m args below meth c cX5_priceAt D vwCl (wM cI cJ cZ ad) A Q r) (N : Nat) (k6 : Int32 → Int32 → Int32 → Int32 → Int32 → SH → Option (Int32 × SH)) (k18 : Int32 → Int32 → Int32 → Int32 → Int32 → Int32 → Int32 → SH → Option (Int32 × SH)) (K6 : ∀ (x1 : Int32) (x2 : Int32) (x3 : Int32) (x4 : Int32) (x5 : Int32) (z : SH) (H : Heap) (locs : List Loc) (ls : Array Slot), k6 x1 x2 x3 x4 x5 z = some r → va_P D vwCl (wM cI cJ cZ ad z) H → va_S A s.heap H locs → lv_has ls 9 [(0, .ref (ad 0)), (1, .int x1), (2, .int x2), (3, .int x3), (4, .int x4), (5, .int x5)] → W p l e R s m args below meth c H locs 0 0 Q (F0 m 6 ls [])) (K18 : ∀ (x1 : Int32) (x2 : Int32) (x3 : Int32) (x4 : Int32) (x5 : Int32) (x6 : Int32) (x7 : Int32) (z : SH) (H : Heap) (locs : List Loc) (ls : Array Slot), k18 x1 x2 x3 x4 x5 x6 x7 z = some r → va_P D vwCl (wM cI cJ cZ ad z) H → va_S A s.heap H locs → lv_has ls 9 [(0, .ref (ad 0)), (1, .int x1), (2, .int x2), (3, .int x3), (4, .int x4), (5, .int x5), (6, .int x6), (7, .int x7)] → W p l e R s m args below meth c H locs 0 0 Q (F0 m 18 ls [])) (x1 : Int32) (x2 : Int32) (x3 : Int32) (x4 : Int32) (x5 : Int32) (x6 : Int32) (x7 : Int32) (t0 : Int32) (z0 : SH) {H : Heap} {locs : List Loc} {ls : Array Slot} (h : fX5_priceAt_65 N k6 k18 x1 x2 x3 x4 x5 x6 x7 t0 z0 = some r) (hP : va_P D vwCl (wM cI cJ cZ ad z0) H) (hS : va_S A s.heap H locs) (hl : lv_has ls 9 [(0, .ref (ad 0)), (1, .int x1), (2, .int x2), (3, .int x3), (4, .int x4), (5, .int x5), (6, .int x6), (7, .int x7)]) : W p l e R s m args below meth c H locs 0 0 Q (F0 m 65 ls [.int t0]) := by
  unfold fX5_priceAt_65 at h
  have hx := C.1.1
  have hb := C.1.2.1
  refine lv_istore (lv' := [(8, .int t0), (0, .ref (ad 0)), (1, .int x1), (2, .int x2), (3, .int x3), (4, .int x4), (5, .int x5), (6, .int x6), (7, .int x7)]) hx hb dX5_priceAt_65 hl (by decide) rfl (fun ls hl => ?_)
  refine lv_iload hx hb dX5_priceAt_67 (lv_at hl 0 rfl) ?_
  refine lv_if_eq (tgt := 104) hx hb dX5_priceAt_69 (by decide) (fun c1 => ?_) (fun c1 => ?_)
  · replace h := (ite_h h).1 c1
    exact wX5_priceAt_104 C hR N k6 k18 K6 K18 x1 x2 x3 x4 x5 x6 x7 z0 h hP hS (lv_sub hl [1, 2, 3, 4, 5, 6, 7, 8] rfl)
  · replace h := (ite_h h).2 c1
    refine lv_iload hx hb dX5_priceAt_72 (lv_at hl 7 rfl) ?_
    refine lv_iconst (v := -1) hx hb dX5_priceAt_74 (by decide) ?_
    refine lv_icmp_eq (tgt := 94) hx hb dX5_priceAt_75 (by decide) (fun c1 => ?_) (fun c1 => ?_)
    · replace h := (ite_h h).1 c1
      exact wX5_priceAt_94 C hR N k6 k18 K6 K18 x1 x2 x3 x4 x5 x7 z0 h hP hS (lv_sub hl [1, 2, 3, 4, 5, 6, 8] rfl)
    · replace h := (ite_h h).2 c1
      refine lv_iload_n hx hb dX5_priceAt_78 rfl (lv_at hl 3 rfl) ?_
      refine lv_aload_n hx hb dX5_priceAt_79 rfl (lv_at hl 1 rfl) ?_
      refine b_getr C hP iX5_priceAt_X5 0 (wM_0 cI cJ cZ ad z0) rfl 14 (by decide) fX5_priceAt_i45 rfl rfl dX5_priceAt_80 ?_
      refine lv_iload hx hb dX5_priceAt_83 (lv_at hl 8 rfl) ?_
      refine b_iald C hP h 12 (wM_12 cI cJ cZ ad z0) 0 rfl dX5_priceAt_85 (fun v1 h => ?_)
      refine lv_iload hx hb dX5_priceAt_86 (lv_at hl 7 rfl) ?_
      refine b_callSi (As := [.int x2, .int v1, .int x6]) (rest := []) C hP hS h (mX5_isBetter l D cI cJ cZ ad x2 v1 x6 z0) (va_cwS 3 C.1.2.2.2.2 gX5_priceAt_X5_isBetter rfl rfl rfl (by decide +kernel) ⟨Nat.le_trans (Nat.le_of_ble_eq_true rfl) C.2.2.2.2.1, Nat.le_trans (Nat.le_of_ble_eq_true rfl) C.2.2.2.2.2⟩) rfl hl.1 rfl (Nat.le_of_ble_eq_true rfl) dX5_priceAt_88 (fun v3 z2 _ _ h hP hS => ?_)
      refine lv_if_eq (tgt := 104) hx hb dX5_priceAt_91 (by decide) (fun c1 => ?_) (fun c1 => ?_)
      · replace h := (ite_h h).1 c1
        exact wX5_priceAt_104 C hR N k6 k18 K6 K18 x1 x2 x3 x4 x5 x6 x7 z2 h hP hS (lv_sub hl [1, 2, 3, 4, 5, 6, 7, 8] rfl)
      · replace h := (ite_h h).2 c1
        exact wX5_priceAt_94 C hR N k6 k18 K6 K18 x1 x2 x3 x4 x5 x7 z2 h hP hS (lv_sub hl [1, 2, 3, 4, 5, 6, 8] rfl)
set_option maxRecDepth 100000 in
set_option maxHeartbeats 4000000 in
theorem wX5_priceAt_64 {p : Program} {l : Launch} {e : Env} {R : Room} {s : State} {m : MethodId} {args : Array Value} {below : List Frame} {meth : Method} {c : Code} {Q : State → Prop} {D : va_G} {cI cJ cZ : ClassId} {ad : Nat → Nat} {A : Nat → Prop} (C : Cx p s m args c cX5_priceAt 9 wsX5_priceAt RX5 D vwCl (tyl cI cJ cZ) (wM cI cJ cZ ad) A R 1 23) {r : (Int32 × SH)} (hR : Ri p l e R s m args below meth c cX5_priceAt D vwCl (wM cI cJ cZ ad) A Q r) (N : Nat) (k6 : Int32 → Int32 → Int32 → Int32 → Int32 → SH → Option (Int32 × SH)) (k18 : Int32 → Int32 → Int32 → Int32 → Int32 → Int32 → Int32 → SH → Option (Int32 × SH)) (K6 : ∀ (x1 : Int32) (x2 : Int32) (x3 : Int32) (x4 : Int32) (x5 : Int32) (z : SH) (H : Heap) (locs : List Loc) (ls : Array Slot), k6 x1 x2 x3 x4 x5 z = some r → va_P D vwCl (wM cI cJ cZ ad z) H → va_S A s.heap H locs → lv_has ls 9 [(0, .ref (ad 0)), (1, .int x1), (2, .int x2), (3, .int x3), (4, .int x4), (5, .int x5)] → W p l e R s m args below meth c H locs 0 0 Q (F0 m 6 ls [])) (K18 : ∀ (x1 : Int32) (x2 : Int32) (x3 : Int32) (x4 : Int32) (x5 : Int32) (x6 : Int32) (x7 : Int32) (z : SH) (H : Heap) (locs : List Loc) (ls : Array Slot), k18 x1 x2 x3 x4 x5 x6 x7 z = some r → va_P D vwCl (wM cI cJ cZ ad z) H → va_S A s.heap H locs → lv_has ls 9 [(0, .ref (ad 0)), (1, .int x1), (2, .int x2), (3, .int x3), (4, .int x4), (5, .int x5), (6, .int x6), (7, .int x7)] → W p l e R s m args below meth c H locs 0 0 Q (F0 m 18 ls [])) (x1 : Int32) (x2 : Int32) (x3 : Int32) (x4 : Int32) (x5 : Int32) (x6 : Int32) (x7 : Int32) (z0 : SH) {H : Heap} {locs : List Loc} {ls : Array Slot} (h : fX5_priceAt_64 N k6 k18 x1 x2 x3 x4 x5 x6 x7 z0 = some r) (hP : va_P D vwCl (wM cI cJ cZ ad z0) H) (hS : va_S A s.heap H locs) (hl : lv_has ls 9 [(0, .ref (ad 0)), (1, .int x1), (2, .int x2), (3, .int x3), (4, .int x4), (5, .int x5), (6, .int x6), (7, .int x7)]) : W p l e R s m args below meth c H locs 0 0 Q (F0 m 64 ls []) := by
  unfold fX5_priceAt_64 at h
  have hx := C.1.1
  have hb := C.1.2.1
  refine lv_iconst (v := 0) hx hb dX5_priceAt_64 (by decide) ?_
  exact wX5_priceAt_65 C hR N k6 k18 K6 K18 x1 x2 x3 x4 x5 x6 x7 0 z0 h hP hS (lv_sub hl [0, 1, 2, 3, 4, 5, 6, 7] rfl)
set_option maxRecDepth 100000 in
set_option maxHeartbeats 4000000 in
theorem wX5_priceAt_60 {p : Program} {l : Launch} {e : Env} {R : Room} {s : State} {m : MethodId} {args : Array Value} {below : List Frame} {meth : Method} {c : Code} {Q : State → Prop} {D : va_G} {cI cJ cZ : ClassId} {ad : Nat → Nat} {A : Nat → Prop} (C : Cx p s m args c cX5_priceAt 9 wsX5_priceAt RX5 D vwCl (tyl cI cJ cZ) (wM cI cJ cZ ad) A R 1 23) {r : (Int32 × SH)} (hR : Ri p l e R s m args below meth c cX5_priceAt D vwCl (wM cI cJ cZ ad) A Q r) (N : Nat) (k6 : Int32 → Int32 → Int32 → Int32 → Int32 → SH → Option (Int32 × SH)) (k18 : Int32 → Int32 → Int32 → Int32 → Int32 → Int32 → Int32 → SH → Option (Int32 × SH)) (K6 : ∀ (x1 : Int32) (x2 : Int32) (x3 : Int32) (x4 : Int32) (x5 : Int32) (z : SH) (H : Heap) (locs : List Loc) (ls : Array Slot), k6 x1 x2 x3 x4 x5 z = some r → va_P D vwCl (wM cI cJ cZ ad z) H → va_S A s.heap H locs → lv_has ls 9 [(0, .ref (ad 0)), (1, .int x1), (2, .int x2), (3, .int x3), (4, .int x4), (5, .int x5)] → W p l e R s m args below meth c H locs 0 0 Q (F0 m 6 ls [])) (K18 : ∀ (x1 : Int32) (x2 : Int32) (x3 : Int32) (x4 : Int32) (x5 : Int32) (x6 : Int32) (x7 : Int32) (z : SH) (H : Heap) (locs : List Loc) (ls : Array Slot), k18 x1 x2 x3 x4 x5 x6 x7 z = some r → va_P D vwCl (wM cI cJ cZ ad z) H → va_S A s.heap H locs → lv_has ls 9 [(0, .ref (ad 0)), (1, .int x1), (2, .int x2), (3, .int x3), (4, .int x4), (5, .int x5), (6, .int x6), (7, .int x7)] → W p l e R s m args below meth c H locs 0 0 Q (F0 m 18 ls [])) (x1 : Int32) (x2 : Int32) (x3 : Int32) (x4 : Int32) (x5 : Int32) (x6 : Int32) (x7 : Int32) (z0 : SH) {H : Heap} {locs : List Loc} {ls : Array Slot} (h : fX5_priceAt_60 N k6 k18 x1 x2 x3 x4 x5 x6 x7 z0 = some r) (hP : va_P D vwCl (wM cI cJ cZ ad z0) H) (hS : va_S A s.heap H locs) (hl : lv_has ls 9 [(0, .ref (ad 0)), (1, .int x1), (2, .int x2), (3, .int x3), (4, .int x4), (5, .int x5), (6, .int x6), (7, .int x7)]) : W p l e R s m args below meth c H locs 0 0 Q (F0 m 60 ls []) := by
  unfold fX5_priceAt_60 at h
  have hx := C.1.1
  have hb := C.1.2.1
  refine lv_iconst (v := 1) hx hb dX5_priceAt_60 (by decide) ?_
  refine lv_goto (tgt := 65) hx hb dX5_priceAt_61 (by decide) ?_
  exact wX5_priceAt_65 C hR N k6 k18 K6 K18 x1 x2 x3 x4 x5 x6 x7 1 z0 h hP hS (lv_sub hl [0, 1, 2, 3, 4, 5, 6, 7] rfl)
set_option maxRecDepth 100000 in
set_option maxHeartbeats 4000000 in
theorem wX5_priceAt_18 {p : Program} {l : Launch} {e : Env} {R : Room} {s : State} {m : MethodId} {args : Array Value} {below : List Frame} {meth : Method} {c : Code} {Q : State → Prop} {D : va_G} {cI cJ cZ : ClassId} {ad : Nat → Nat} {A : Nat → Prop} (C : Cx p s m args c cX5_priceAt 9 wsX5_priceAt RX5 D vwCl (tyl cI cJ cZ) (wM cI cJ cZ ad) A R 1 23) {r : (Int32 × SH)} (hR : Ri p l e R s m args below meth c cX5_priceAt D vwCl (wM cI cJ cZ ad) A Q r) (N : Nat) (k6 : Int32 → Int32 → Int32 → Int32 → Int32 → SH → Option (Int32 × SH)) (k18 : Int32 → Int32 → Int32 → Int32 → Int32 → Int32 → Int32 → SH → Option (Int32 × SH)) (K6 : ∀ (x1 : Int32) (x2 : Int32) (x3 : Int32) (x4 : Int32) (x5 : Int32) (z : SH) (H : Heap) (locs : List Loc) (ls : Array Slot), k6 x1 x2 x3 x4 x5 z = some r → va_P D vwCl (wM cI cJ cZ ad z) H → va_S A s.heap H locs → lv_has ls 9 [(0, .ref (ad 0)), (1, .int x1), (2, .int x2), (3, .int x3), (4, .int x4), (5, .int x5)] → W p l e R s m args below meth c H locs 0 0 Q (F0 m 6 ls [])) (K18 : ∀ (x1 : Int32) (x2 : Int32) (x3 : Int32) (x4 : Int32) (x5 : Int32) (x6 : Int32) (x7 : Int32) (z : SH) (H : Heap) (locs : List Loc) (ls : Array Slot), k18 x1 x2 x3 x4 x5 x6 x7 z = some r → va_P D vwCl (wM cI cJ cZ ad z) H → va_S A s.heap H locs → lv_has ls 9 [(0, .ref (ad 0)), (1, .int x1), (2, .int x2), (3, .int x3), (4, .int x4), (5, .int x5), (6, .int x6), (7, .int x7)] → W p l e R s m args below meth c H locs 0 0 Q (F0 m 18 ls [])) (x1 : Int32) (x2 : Int32) (x3 : Int32) (x4 : Int32) (x5 : Int32) (x6 : Int32) (x7 : Int32) (z0 : SH) {H : Heap} {locs : List Loc} {ls : Array Slot} (h : fX5_priceAt_18 N k6 k18 x1 x2 x3 x4 x5 x6 x7 z0 = some r) (hP : va_P D vwCl (wM cI cJ cZ ad z0) H) (hS : va_S A s.heap H locs) (hl : lv_has ls 9 [(0, .ref (ad 0)), (1, .int x1), (2, .int x2), (3, .int x3), (4, .int x4), (5, .int x5), (6, .int x6), (7, .int x7)]) : W p l e R s m args below meth c H locs 0 0 Q (F0 m 18 ls []) := by
  unfold fX5_priceAt_18 at h
  have hx := C.1.1
  have hb := C.1.2.1
  refine lv_iload hx hb dX5_priceAt_18 (lv_at hl 7 rfl) ?_
  refine lv_aload_n hx hb dX5_priceAt_20 rfl (lv_at hl 0 rfl) ?_
  refine b_geti C hP h iX5_priceAt_X5 0 (wM_0 cI cJ cZ ad z0) rfl 9 (by decide) fX5_priceAt_i116 rfl rfl dX5_priceAt_21 (fun v1 h => ?_)
  refine lv_icmp_ge (tgt := 114) hx hb dX5_priceAt_24 (by decide) (fun c1 => ?_) (fun c1 => ?_)
  · replace h := (ite_h h).1 c1
    refine lv_iload hx hb dX5_priceAt_114 (lv_at hl 6 rfl) ?_
    refine lv_istore (lv' := [(4, .int x6), (0, .ref (ad 0)), (1, .int x1), (2, .int x2), (3, .int x3), (5, .int x5), (6, .int x6), (7, .int x7)]) hx hb dX5_priceAt_116 hl (by decide) rfl (fun ls hl => ?_)
    refine lv_iload hx hb dX5_priceAt_118 (lv_at hl 0 rfl) ?_
    refine lv_iconst (v := -1) hx hb dX5_priceAt_120 (by decide) ?_
    refine lv_icmp_ne (tgt := 126) hx hb dX5_priceAt_121 (by decide) (fun c1 => ?_) (fun c1 => ?_)
    · replace h := (ite_h h).2 c1
      refine lv_iinc (v := x5 + 1) (lv' := [(5, .int (x5 + 1)), (4, .int x6), (0, .ref (ad 0)), (1, .int x1), (2, .int x2), (3, .int x3), (6, .int x6), (7, .int x7)]) hx hb dX5_priceAt_126 hl (k := 5) rfl rfl (by decide) rfl (fun ls hl => ?_)
      refine lv_goto (tgt := 6) hx hb dX5_priceAt_129 (by decide) ?_
      exact K6 x1 x2 x3 x6 (x5 + 1) z0 _ _ _ h hP hS (lv_sub hl [2, 3, 4, 5, 1, 0] rfl)
    · replace h := (ite_h h).1 c1
      refine lv_iconst (v := -1) hx hb dX5_priceAt_124 (by decide) ?_
      exact hR 125 _ _ _ _ _ (Option.some.inj h).symm dX5_priceAt_125 hP hS
  · replace h := (ite_h h).2 c1
    refine lv_aload_n hx hb dX5_priceAt_27 rfl (lv_at hl 0 rfl) ?_
    refine lv_iload hx hb dX5_priceAt_28 (lv_at hl 7 rfl) ?_
    refine lv_iload_n hx hb dX5_priceAt_30 rfl (lv_at hl 1 rfl) ?_
    refine lv_iload_n hx hb dX5_priceAt_31 rfl (lv_at hl 2 rfl) ?_
    refine b_callVi (As := [.int x7, .int x1, .int x2]) (rest := []) C hP hS h (mX5_rests l D cI cJ cZ ad x7 x1 x2 z0) (cwV 3 C.1.2.2.2.2 gX5_priceAt_X5_rests rfl rfl rfl (by decide +kernel) ⟨Nat.le_trans (Nat.le_of_ble_eq_true rfl) C.2.2.2.2.1, Nat.le_trans (Nat.le_of_ble_eq_true rfl) C.2.2.2.2.2⟩) (va_recv C.2.1 hP (ci := 5) (q0 := 0) rfl (wM_0 cI cJ cZ ad z0)) rfl hl.1 rfl (Nat.le_of_ble_eq_true rfl) dX5_priceAt_32 (fun v3 z2 _ _ h hP hS => ?_)
    refine lv_if_eq (tgt := 64) hx hb dX5_priceAt_35 (by decide) (fun c1 => ?_) (fun c1 => ?_)
    · replace h := (ite_h h).1 c1
      exact wX5_priceAt_64 C hR N k6 k18 K6 K18 x1 x2 x3 x4 x5 x6 x7 z2 h hP hS (lv_sub hl [0, 1, 2, 3, 4, 5, 6, 7] rfl)
    · replace h := (ite_h h).2 c1
      refine lv_iload hx hb dX5_priceAt_38 (lv_at hl 4 rfl) ?_
      refine lv_iconst (v := -1) hx hb dX5_priceAt_40 (by decide) ?_
      refine lv_icmp_eq (tgt := 60) hx hb dX5_priceAt_41 (by decide) (fun c1 => ?_) (fun c1 => ?_)
      · replace h := (ite_h h).1 c1
        exact wX5_priceAt_60 C hR N k6 k18 K6 K18 x1 x2 x3 x4 x5 x6 x7 z2 h hP hS (lv_sub hl [0, 1, 2, 3, 4, 5, 6, 7] rfl)
      · replace h := (ite_h h).2 c1
        refine lv_iload_n hx hb dX5_priceAt_44 rfl (lv_at hl 2 rfl) ?_
        refine lv_iload hx hb dX5_priceAt_45 (lv_at hl 4 rfl) ?_
        refine lv_aload_n hx hb dX5_priceAt_47 rfl (lv_at hl 0 rfl) ?_
        refine b_getr C hP iX5_priceAt_X5 0 (wM_0 cI cJ cZ ad z2) rfl 14 (by decide) fX5_priceAt_i45 rfl rfl dX5_priceAt_48 ?_
        refine lv_iload hx hb dX5_priceAt_51 (lv_at hl 7 rfl) ?_
        refine b_iald C hP h 12 (wM_12 cI cJ cZ ad z2) 0 rfl dX5_priceAt_53 (fun v4 h => ?_)
        refine b_callSi (As := [.int x2, .int x4, .int v4]) (rest := []) C hP hS h (mX5_isBetter l D cI cJ cZ ad x2 x4 v4 z2) (va_cwS 3 C.1.2.2.2.2 gX5_priceAt_X5_isBetter rfl rfl rfl (by decide +kernel) ⟨Nat.le_trans (Nat.le_of_ble_eq_true rfl) C.2.2.2.2.1, Nat.le_trans (Nat.le_of_ble_eq_true rfl) C.2.2.2.2.2⟩) rfl hl.1 rfl (Nat.le_of_ble_eq_true rfl) dX5_priceAt_54 (fun v6 z5 _ _ h hP hS => ?_)
        refine lv_if_eq (tgt := 64) hx hb dX5_priceAt_57 (by decide) (fun c1 => ?_) (fun c1 => ?_)
        · replace h := (ite_h h).1 c1
          exact wX5_priceAt_64 C hR N k6 k18 K6 K18 x1 x2 x3 x4 x5 x6 x7 z5 h hP hS (lv_sub hl [0, 1, 2, 3, 4, 5, 6, 7] rfl)
        · replace h := (ite_h h).2 c1
          exact wX5_priceAt_60 C hR N k6 k18 K6 K18 x1 x2 x3 x4 x5 x6 x7 z5 h hP hS (lv_sub hl [0, 1, 2, 3, 4, 5, 6, 7] rfl)
theorem wX5_priceAt_18_L {p : Program} {l : Launch} {e : Env} {R : Room} {s : State} {m : MethodId} {args : Array Value} {below : List Frame} {meth : Method} {c : Code} {Q : State → Prop} {D : va_G} {cI cJ cZ : ClassId} {ad : Nat → Nat} {A : Nat → Prop} (C : Cx p s m args c cX5_priceAt 9 wsX5_priceAt RX5 D vwCl (tyl cI cJ cZ) (wM cI cJ cZ ad) A R 1 23) {r : (Int32 × SH)} (hR : Ri p l e R s m args below meth c cX5_priceAt D vwCl (wM cI cJ cZ ad) A Q r) (N : Nat) (k6 : Int32 → Int32 → Int32 → Int32 → Int32 → SH → Option (Int32 × SH)) (K6 : ∀ (x1 : Int32) (x2 : Int32) (x3 : Int32) (x4 : Int32) (x5 : Int32) (z : SH) (H : Heap) (locs : List Loc) (ls : Array Slot), k6 x1 x2 x3 x4 x5 z = some r → va_P D vwCl (wM cI cJ cZ ad z) H → va_S A s.heap H locs → lv_has ls 9 [(0, .ref (ad 0)), (1, .int x1), (2, .int x2), (3, .int x3), (4, .int x4), (5, .int x5)] → W p l e R s m args below meth c H locs 0 0 Q (F0 m 6 ls [])) : ∀ (n : Nat), ∀ (x1 : Int32) (x2 : Int32) (x3 : Int32) (x4 : Int32) (x5 : Int32) (x6 : Int32) (x7 : Int32) (z : SH) (H : Heap) (locs : List Loc) (ls : Array Slot), fX5_priceAt_18_L N k6 n x1 x2 x3 x4 x5 x6 x7 z = some r → va_P D vwCl (wM cI cJ cZ ad z) H → va_S A s.heap H locs → lv_has ls 9 [(0, .ref (ad 0)), (1, .int x1), (2, .int x2), (3, .int x3), (4, .int x4), (5, .int x5), (6, .int x6), (7, .int x7)] → W p l e R s m args below meth c H locs 0 0 Q (F0 m 18 ls []) := by
  intro n
  induction n with
  | zero => intro x1 x2 x3 x4 x5 x6 x7 z H locs ls h; exact nomatch (show (none : Option (Int32 × SH)) = some r from h)
  | succ n ih => intro x1 x2 x3 x4 x5 x6 x7 z H locs ls h hP hS hl; exact wX5_priceAt_18 C hR N k6 (fX5_priceAt_18_L N k6 n) K6 ih x1 x2 x3 x4 x5 x6 x7 z (show fX5_priceAt_18 N k6 (fX5_priceAt_18_L N k6 n) x1 x2 x3 x4 x5 x6 x7 z = some r from h) hP hS hl
set_option maxRecDepth 100000 in
set_option maxHeartbeats 4000000 in
theorem wX5_priceAt_6 {p : Program} {l : Launch} {e : Env} {R : Room} {s : State} {m : MethodId} {args : Array Value} {below : List Frame} {meth : Method} {c : Code} {Q : State → Prop} {D : va_G} {cI cJ cZ : ClassId} {ad : Nat → Nat} {A : Nat → Prop} (C : Cx p s m args c cX5_priceAt 9 wsX5_priceAt RX5 D vwCl (tyl cI cJ cZ) (wM cI cJ cZ ad) A R 1 23) {r : (Int32 × SH)} (hR : Ri p l e R s m args below meth c cX5_priceAt D vwCl (wM cI cJ cZ ad) A Q r) (N : Nat) (k6 : Int32 → Int32 → Int32 → Int32 → Int32 → SH → Option (Int32 × SH)) (K6 : ∀ (x1 : Int32) (x2 : Int32) (x3 : Int32) (x4 : Int32) (x5 : Int32) (z : SH) (H : Heap) (locs : List Loc) (ls : Array Slot), k6 x1 x2 x3 x4 x5 z = some r → va_P D vwCl (wM cI cJ cZ ad z) H → va_S A s.heap H locs → lv_has ls 9 [(0, .ref (ad 0)), (1, .int x1), (2, .int x2), (3, .int x3), (4, .int x4), (5, .int x5)] → W p l e R s m args below meth c H locs 0 0 Q (F0 m 6 ls [])) (x1 : Int32) (x2 : Int32) (x3 : Int32) (x4 : Int32) (x5 : Int32) (z0 : SH) {H : Heap} {locs : List Loc} {ls : Array Slot} (h : fX5_priceAt_6 N k6 x1 x2 x3 x4 x5 z0 = some r) (hP : va_P D vwCl (wM cI cJ cZ ad z0) H) (hS : va_S A s.heap H locs) (hl : lv_has ls 9 [(0, .ref (ad 0)), (1, .int x1), (2, .int x2), (3, .int x3), (4, .int x4), (5, .int x5)]) : W p l e R s m args below meth c H locs 0 0 Q (F0 m 6 ls []) := by
  unfold fX5_priceAt_6 at h
  have hx := C.1.1
  have hb := C.1.2.1
  refine lv_iload hx hb dX5_priceAt_6 (lv_at hl 5 rfl) ?_
  refine lv_iload_n hx hb dX5_priceAt_8 rfl (lv_at hl 3 rfl) ?_
  refine lv_icmp_gt (tgt := 132) hx hb dX5_priceAt_9 (by decide) (fun c1 => ?_) (fun c1 => ?_)
  · replace h := (ite_h h).1 c1
    refine lv_iload hx hb dX5_priceAt_132 (lv_at hl 4 rfl) ?_
    exact hR 134 _ _ _ _ _ (Option.some.inj h).symm dX5_priceAt_134 hP hS
  · replace h := (ite_h h).2 c1
    refine lv_iconst (v := -1) hx hb dX5_priceAt_12 (by decide) ?_
    refine lv_istore (lv' := [(6, .int ((-1))), (0, .ref (ad 0)), (1, .int x1), (2, .int x2), (3, .int x3), (4, .int x4), (5, .int x5)]) hx hb dX5_priceAt_13 hl (by decide) rfl (fun ls hl => ?_)
    refine lv_iconst (v := 0) hx hb dX5_priceAt_15 (by decide) ?_
    refine lv_istore (lv' := [(7, .int 0), (6, .int ((-1))), (0, .ref (ad 0)), (1, .int x1), (2, .int x2), (3, .int x3), (4, .int x4), (5, .int x5)]) hx hb dX5_priceAt_16 hl (by decide) rfl (fun ls hl => ?_)
    exact wX5_priceAt_18_L C hR N k6 K6 N x1 x2 x3 x4 x5 ((-1)) 0 z0 _ _ _ h hP hS (lv_sub hl [2, 3, 4, 5, 6, 7, 1, 0] rfl)
theorem wX5_priceAt_6_L {p : Program} {l : Launch} {e : Env} {R : Room} {s : State} {m : MethodId} {args : Array Value} {below : List Frame} {meth : Method} {c : Code} {Q : State → Prop} {D : va_G} {cI cJ cZ : ClassId} {ad : Nat → Nat} {A : Nat → Prop} (C : Cx p s m args c cX5_priceAt 9 wsX5_priceAt RX5 D vwCl (tyl cI cJ cZ) (wM cI cJ cZ ad) A R 1 23) {r : (Int32 × SH)} (hR : Ri p l e R s m args below meth c cX5_priceAt D vwCl (wM cI cJ cZ ad) A Q r) (N : Nat) : ∀ (n : Nat), ∀ (x1 : Int32) (x2 : Int32) (x3 : Int32) (x4 : Int32) (x5 : Int32) (z : SH) (H : Heap) (locs : List Loc) (ls : Array Slot), fX5_priceAt_6_L N n x1 x2 x3 x4 x5 z = some r → va_P D vwCl (wM cI cJ cZ ad z) H → va_S A s.heap H locs → lv_has ls 9 [(0, .ref (ad 0)), (1, .int x1), (2, .int x2), (3, .int x3), (4, .int x4), (5, .int x5)] → W p l e R s m args below meth c H locs 0 0 Q (F0 m 6 ls []) := by
  intro n
  induction n with
  | zero => intro x1 x2 x3 x4 x5 z H locs ls h; exact nomatch (show (none : Option (Int32 × SH)) = some r from h)
  | succ n ih => intro x1 x2 x3 x4 x5 z H locs ls h hP hS hl; exact wX5_priceAt_6 C hR N (fX5_priceAt_6_L N n) ih x1 x2 x3 x4 x5 z (show fX5_priceAt_6 N (fX5_priceAt_6_L N n) x1 x2 x3 x4 x5 z = some r from h) hP hS hl
set_option maxRecDepth 100000 in
set_option maxHeartbeats 4000000 in
theorem wX5_priceAt {p : Program} {l : Launch} {e : Env} {R : Room} {s : State} {m : MethodId} {args : Array Value} {below : List Frame} {meth : Method} {c : Code} {Q : State → Prop} {D : va_G} {cI cJ cZ : ClassId} {ad : Nat → Nat} {A : Nat → Prop} (C : Cx p s m args c cX5_priceAt 9 wsX5_priceAt RX5 D vwCl (tyl cI cJ cZ) (wM cI cJ cZ ad) A R 1 23) {r : (Int32 × SH)} (hR : Ri p l e R s m args below meth c cX5_priceAt D vwCl (wM cI cJ cZ ad) A Q r) (N : Nat) (a1 : Int32) (a2 : Int32) (a3 : Int32) (z0 : SH) {H : Heap} {locs : List Loc} {ls : Array Slot} (h : fX5_priceAt N a1 a2 a3 z0 = some r) (hP : va_P D vwCl (wM cI cJ cZ ad z0) H) (hS : va_S A s.heap H locs) (hl : lv_has ls 9 [(0, .ref (ad 0)), (1, .int a1), (2, .int a2), (3, .int a3)]) : W p l e R s m args below meth c H locs 0 0 Q (F0 m 0 ls []) := by
  unfold fX5_priceAt at h
  have hx := C.1.1
  have hb := C.1.2.1
  refine lv_iconst (v := -1) hx hb dX5_priceAt_0 (by decide) ?_
  refine lv_istore (lv' := [(4, .int ((-1))), (0, .ref (ad 0)), (1, .int a1), (2, .int a2), (3, .int a3)]) hx hb dX5_priceAt_1 hl (by decide) rfl (fun ls hl => ?_)
  refine lv_iconst (v := 0) hx hb dX5_priceAt_3 (by decide) ?_
  refine lv_istore (lv' := [(5, .int 0), (4, .int ((-1))), (0, .ref (ad 0)), (1, .int a1), (2, .int a2), (3, .int a3)]) hx hb dX5_priceAt_4 hl (by decide) rfl (fun ls hl => ?_)
  exact wX5_priceAt_6_L C hR N N a1 a2 a3 ((-1)) 0 z0 _ _ _ h hP hS (lv_sub hl [2, 3, 4, 5, 1, 0] rfl)
theorem mX5_priceAt (l : Launch) (D : va_G) (cI cJ cZ : ClassId) (ad : Nat → Nat) (N : Nat) (a1 : Int32) (a2 : Int32) (a3 : Int32) (z0 : SH) : ∀ (q : (Int32 × SH)) (sz : Nat), fX5_priceAt N a1 a2 a3 z0 = some q → Met l yX5_priceAt wsX5_priceAt rmX5_priceAt (cP D vwCl (tyl cI cJ cZ) (wM cI cJ cZ ad z0) sz [.ref (ad 0), .int a1, .int a2, .int a3]) (cQi D vwCl (wM cI cJ cZ ad) z0 sz q) 0 0 (va_A (wM cI cJ cZ ad z0) sz) := by
  intro q sz h
  refine ofW_i (cc := cX5_priceAt) (maxL := 9) (by decide) rfl (wM_same cI cJ cZ ad) (Nat.le_of_ble_eq_true rfl) (fun p e s m below meth c ls hsz C hR hP hl => ?_)
  exact wX5_priceAt C hR N a1 a2 a3 z0 h hP va_S.rf hl
abbrev rmX5_priceCount : Room := { frames := 2, cells := 0, slots := 0, locals := 51 }
set_option maxRecDepth 100000 in
set_option maxHeartbeats 4000000 in
theorem wX5_priceCount_2 {p : Program} {l : Launch} {e : Env} {R : Room} {s : State} {m : MethodId} {args : Array Value} {below : List Frame} {meth : Method} {c : Code} {Q : State → Prop} {D : va_G} {cI cJ cZ : ClassId} {ad : Nat → Nat} {A : Nat → Prop} (C : Cx p s m args c cX5_priceCount 4 wsX5_priceCount RX5 D vwCl (tyl cI cJ cZ) (wM cI cJ cZ ad) A R 2 51) {r : (Int32 × SH)} (hR : Ri p l e R s m args below meth c cX5_priceCount D vwCl (wM cI cJ cZ ad) A Q r) (N : Nat) (k2 : Int32 → Int32 → Int32 → SH → Option (Int32 × SH)) (K2 : ∀ (x1 : Int32) (x2 : Int32) (x3 : Int32) (z : SH) (H : Heap) (locs : List Loc) (ls : Array Slot), k2 x1 x2 x3 z = some r → va_P D vwCl (wM cI cJ cZ ad z) H → va_S A s.heap H locs → lv_has ls 4 [(0, .ref (ad 0)), (1, .int x1), (2, .int x2), (3, .int x3)] → W p l e R s m args below meth c H locs 0 0 Q (F0 m 2 ls [])) (x1 : Int32) (x2 : Int32) (x3 : Int32) (z0 : SH) {H : Heap} {locs : List Loc} {ls : Array Slot} (h : fX5_priceCount_2 N k2 x1 x2 x3 z0 = some r) (hP : va_P D vwCl (wM cI cJ cZ ad z0) H) (hS : va_S A s.heap H locs) (hl : lv_has ls 4 [(0, .ref (ad 0)), (1, .int x1), (2, .int x2), (3, .int x3)]) : W p l e R s m args below meth c H locs 0 0 Q (F0 m 2 ls []) := by
  unfold fX5_priceCount_2 at h
  have hx := C.1.1
  have hb := C.1.2.1
  refine lv_aload_n hx hb dX5_priceCount_2 rfl (lv_at hl 0 rfl) ?_
  refine lv_iload_n hx hb dX5_priceCount_3 rfl (lv_at hl 1 rfl) ?_
  refine lv_iload_n hx hb dX5_priceCount_4 rfl (lv_at hl 2 rfl) ?_
  refine lv_iload_n hx hb dX5_priceCount_5 rfl (lv_at hl 3 rfl) ?_
  refine b_callVi (As := [.int x1, .int x2, .int x3]) (rest := []) C hP hS h (mX5_priceAt l D cI cJ cZ ad N x1 x2 x3 z0) (cwV 3 C.1.2.2.2.2 gX5_priceCount_X5_priceAt rfl rfl rfl (by decide +kernel) ⟨Nat.le_trans (Nat.le_of_ble_eq_true rfl) C.2.2.2.2.1, Nat.le_trans (Nat.le_of_ble_eq_true rfl) C.2.2.2.2.2⟩) (va_recv C.2.1 hP (ci := 5) (q0 := 0) rfl (wM_0 cI cJ cZ ad z0)) rfl hl.1 rfl (Nat.le_of_ble_eq_true rfl) dX5_priceCount_6 (fun v2 z1 _ _ h hP hS => ?_)
  refine lv_iconst (v := -1) hx hb dX5_priceCount_9 (by decide) ?_
  refine lv_icmp_eq (tgt := 19) hx hb dX5_priceCount_10 (by decide) (fun c1 => ?_) (fun c1 => ?_)
  · replace h := (ite_h h).1 c1
    refine lv_iload_n hx hb dX5_priceCount_19 rfl (lv_at hl 3 rfl) ?_
    exact hR 20 _ _ _ _ _ (Option.some.inj h).symm dX5_priceCount_20 hP hS
  · replace h := (ite_h h).2 c1
    refine lv_iinc (v := x3 + 1) (lv' := [(3, .int (x3 + 1)), (0, .ref (ad 0)), (1, .int x1), (2, .int x2)]) hx hb dX5_priceCount_13 hl (k := 3) rfl rfl (by decide) rfl (fun ls hl => ?_)
    refine lv_goto (tgt := 2) hx hb dX5_priceCount_16 (by decide) ?_
    exact K2 x1 x2 (x3 + 1) z1 _ _ _ h hP hS (lv_sub hl [1, 2, 3, 0] rfl)
theorem wX5_priceCount_2_L {p : Program} {l : Launch} {e : Env} {R : Room} {s : State} {m : MethodId} {args : Array Value} {below : List Frame} {meth : Method} {c : Code} {Q : State → Prop} {D : va_G} {cI cJ cZ : ClassId} {ad : Nat → Nat} {A : Nat → Prop} (C : Cx p s m args c cX5_priceCount 4 wsX5_priceCount RX5 D vwCl (tyl cI cJ cZ) (wM cI cJ cZ ad) A R 2 51) {r : (Int32 × SH)} (hR : Ri p l e R s m args below meth c cX5_priceCount D vwCl (wM cI cJ cZ ad) A Q r) (N : Nat) : ∀ (n : Nat), ∀ (x1 : Int32) (x2 : Int32) (x3 : Int32) (z : SH) (H : Heap) (locs : List Loc) (ls : Array Slot), fX5_priceCount_2_L N n x1 x2 x3 z = some r → va_P D vwCl (wM cI cJ cZ ad z) H → va_S A s.heap H locs → lv_has ls 4 [(0, .ref (ad 0)), (1, .int x1), (2, .int x2), (3, .int x3)] → W p l e R s m args below meth c H locs 0 0 Q (F0 m 2 ls []) := by
  intro n
  induction n with
  | zero => intro x1 x2 x3 z H locs ls h; exact nomatch (show (none : Option (Int32 × SH)) = some r from h)
  | succ n ih => intro x1 x2 x3 z H locs ls h hP hS hl; exact wX5_priceCount_2 C hR N (fX5_priceCount_2_L N n) ih x1 x2 x3 z (show fX5_priceCount_2 N (fX5_priceCount_2_L N n) x1 x2 x3 z = some r from h) hP hS hl
set_option maxRecDepth 100000 in
set_option maxHeartbeats 4000000 in
theorem wX5_priceCount {p : Program} {l : Launch} {e : Env} {R : Room} {s : State} {m : MethodId} {args : Array Value} {below : List Frame} {meth : Method} {c : Code} {Q : State → Prop} {D : va_G} {cI cJ cZ : ClassId} {ad : Nat → Nat} {A : Nat → Prop} (C : Cx p s m args c cX5_priceCount 4 wsX5_priceCount RX5 D vwCl (tyl cI cJ cZ) (wM cI cJ cZ ad) A R 2 51) {r : (Int32 × SH)} (hR : Ri p l e R s m args below meth c cX5_priceCount D vwCl (wM cI cJ cZ ad) A Q r) (N : Nat) (a1 : Int32) (a2 : Int32) (z0 : SH) {H : Heap} {locs : List Loc} {ls : Array Slot} (h : fX5_priceCount N a1 a2 z0 = some r) (hP : va_P D vwCl (wM cI cJ cZ ad z0) H) (hS : va_S A s.heap H locs) (hl : lv_has ls 4 [(0, .ref (ad 0)), (1, .int a1), (2, .int a2)]) : W p l e R s m args below meth c H locs 0 0 Q (F0 m 0 ls []) := by
  unfold fX5_priceCount at h
  have hx := C.1.1
  have hb := C.1.2.1
  refine lv_iconst (v := 0) hx hb dX5_priceCount_0 (by decide) ?_
  refine lv_istore_n (lv' := [(3, .int 0), (0, .ref (ad 0)), (1, .int a1), (2, .int a2)]) hx hb dX5_priceCount_1 rfl hl (by decide) rfl (fun ls hl => ?_)
  exact wX5_priceCount_2_L C hR N N a1 a2 0 z0 _ _ _ h hP hS (lv_sub hl [1, 2, 3, 0] rfl)
theorem mX5_priceCount (l : Launch) (D : va_G) (cI cJ cZ : ClassId) (ad : Nat → Nat) (N : Nat) (a1 : Int32) (a2 : Int32) (z0 : SH) : ∀ (q : (Int32 × SH)) (sz : Nat), fX5_priceCount N a1 a2 z0 = some q → Met l yX5_priceCount wsX5_priceCount rmX5_priceCount (cP D vwCl (tyl cI cJ cZ) (wM cI cJ cZ ad z0) sz [.ref (ad 0), .int a1, .int a2]) (cQi D vwCl (wM cI cJ cZ ad) z0 sz q) 0 0 (va_A (wM cI cJ cZ ad z0) sz) := by
  intro q sz h
  refine ofW_i (cc := cX5_priceCount) (maxL := 4) (by decide) rfl (wM_same cI cJ cZ ad) (Nat.le_of_ble_eq_true rfl) (fun p e s m below meth c ls hsz C hR hP hl => ?_)
  exact wX5_priceCount C hR N a1 a2 z0 h hP va_S.rf hl
abbrev rmX5_depth : Room := { frames := 3, cells := 0, slots := 0, locals := 74 }
theorem fX5_depth_i116 : Cond.fieldLink RX5 116 (TX5 9).1 (TX5 9).2.1 (TX5 9).2.2.1 ∈ wsX5_depth := by decide +kernel
theorem fX5_depth_i45 : Cond.fieldLink RX5 45 (TX5 14).1 (TX5 14).2.1 (TX5 14).2.2.1 ∈ wsX5_depth := by decide +kernel
theorem fX5_depth_i51 : Cond.fieldLink RX5 51 (TX5 16).1 (TX5 16).2.1 (TX5 16).2.2.1 ∈ wsX5_depth := by decide +kernel
theorem fX5_depth_i93 : Cond.fieldLink RX5 93 (TX5 0).1 (TX5 0).2.1 (TX5 0).2.2.1 ∈ wsX5_depth := by decide +kernel
theorem iX5_depth_X5 : ∀ x ∈ wsX50, x ∈ wsX5_depth := by decide +kernel
set_option maxRecDepth 100000 in
set_option maxHeartbeats 4000000 in
theorem wX5_depth_112 {p : Program} {l : Launch} {e : Env} {R : Room} {s : State} {m : MethodId} {args : Array Value} {below : List Frame} {meth : Method} {c : Code} {Q : State → Prop} {D : va_G} {cI cJ cZ : ClassId} {ad : Nat → Nat} {A : Nat → Prop} (C : Cx p s m args c cX5_depth 6 wsX5_depth RX5 D vwCl (tyl cI cJ cZ) (wM cI cJ cZ ad) A R 3 74) {r : (Int32 × SH)} (hR : Ri p l e R s m args below meth c cX5_depth D vwCl (wM cI cJ cZ ad) A Q r) (N : Nat) (k66 : Int32 → Int32 → Int32 → Int32 → Int32 → SH → Option (Int32 × SH)) (K66 : ∀ (x1 : Int32) (x2 : Int32) (x3 : Int32) (x4 : Int32) (x5 : Int32) (z : SH) (H : Heap) (locs : List Loc) (ls : Array Slot), k66 x1 x2 x3 x4 x5 z = some r → va_P D vwCl (wM cI cJ cZ ad z) H → va_S A s.heap H locs → lv_has ls 6 [(0, .ref (ad 0)), (1, .int x1), (2, .int x2), (3, .int x3), (4, .int x4), (5, .int x5)] → W p l e R s m args below meth c H locs 0 0 Q (F0 m 66 ls [])) (x1 : Int32) (x2 : Int32) (x3 : Int32) (x5 : Int32) (t0 : Int32) (z0 : SH) {H : Heap} {locs : List Loc} {ls : Array Slot} (h : fX5_depth_112 N k66 x1 x2 x3 x5 t0 z0 = some r) (hP : va_P D vwCl (wM cI cJ cZ ad z0) H) (hS : va_S A s.heap H locs) (hl : lv_has ls 6 [(0, .ref (ad 0)), (1, .int x1), (2, .int x2), (3, .int x3), (5, .int x5)]) : W p l e R s m args below meth c H locs 0 0 Q (F0 m 112 ls [.int t0]) := by
  unfold fX5_depth_112 at h
  have hx := C.1.1
  have hb := C.1.2.1
  refine lv_istore (lv' := [(4, .int t0), (0, .ref (ad 0)), (1, .int x1), (2, .int x2), (3, .int x3), (5, .int x5)]) hx hb dX5_depth_112 hl (by decide) rfl (fun ls hl => ?_)
  refine lv_iinc (v := x5 + 1) (lv' := [(5, .int (x5 + 1)), (4, .int t0), (0, .ref (ad 0)), (1, .int x1), (2, .int x2), (3, .int x3)]) hx hb dX5_depth_114 hl (k := 5) rfl rfl (by decide) rfl (fun ls hl => ?_)
  refine lv_goto (tgt := 66) hx hb dX5_depth_117 (by decide) ?_
  exact K66 x1 x2 x3 t0 (x5 + 1) z0 _ _ _ h hP hS (lv_sub hl [2, 3, 4, 5, 1, 0] rfl)
set_option maxRecDepth 100000 in
set_option maxHeartbeats 4000000 in
theorem wX5_depth_110 {p : Program} {l : Launch} {e : Env} {R : Room} {s : State} {m : MethodId} {args : Array Value} {below : List Frame} {meth : Method} {c : Code} {Q : State → Prop} {D : va_G} {cI cJ cZ : ClassId} {ad : Nat → Nat} {A : Nat → Prop} (C : Cx p s m args c cX5_depth 6 wsX5_depth RX5 D vwCl (tyl cI cJ cZ) (wM cI cJ cZ ad) A R 3 74) {r : (Int32 × SH)} (hR : Ri p l e R s m args below meth c cX5_depth D vwCl (wM cI cJ cZ ad) A Q r) (N : Nat) (k66 : Int32 → Int32 → Int32 → Int32 → Int32 → SH → Option (Int32 × SH)) (K66 : ∀ (x1 : Int32) (x2 : Int32) (x3 : Int32) (x4 : Int32) (x5 : Int32) (z : SH) (H : Heap) (locs : List Loc) (ls : Array Slot), k66 x1 x2 x3 x4 x5 z = some r → va_P D vwCl (wM cI cJ cZ ad z) H → va_S A s.heap H locs → lv_has ls 6 [(0, .ref (ad 0)), (1, .int x1), (2, .int x2), (3, .int x3), (4, .int x4), (5, .int x5)] → W p l e R s m args below meth c H locs 0 0 Q (F0 m 66 ls [])) (x1 : Int32) (x2 : Int32) (x3 : Int32) (x4 : Int32) (x5 : Int32) (z0 : SH) {H : Heap} {locs : List Loc} {ls : Array Slot} (h : fX5_depth_110 N k66 x1 x2 x3 x4 x5 z0 = some r) (hP : va_P D vwCl (wM cI cJ cZ ad z0) H) (hS : va_S A s.heap H locs) (hl : lv_has ls 6 [(0, .ref (ad 0)), (1, .int x1), (2, .int x2), (3, .int x3), (4, .int x4), (5, .int x5)]) : W p l e R s m args below meth c H locs 0 0 Q (F0 m 110 ls []) := by
  unfold fX5_depth_110 at h
  have hx := C.1.1
  have hb := C.1.2.1
  refine lv_iload hx hb dX5_depth_110 (lv_at hl 4 rfl) ?_
  exact wX5_depth_112 C hR N k66 K66 x1 x2 x3 x5 x4 z0 h hP hS (lv_sub hl [0, 1, 2, 3, 5] rfl)
set_option maxRecDepth 100000 in
set_option maxHeartbeats 4000000 in
theorem wX5_depth_66 {p : Program} {l : Launch} {e : Env} {R : Room} {s : State} {m : MethodId} {args : Array Value} {below : List Frame} {meth : Method} {c : Code} {Q : State → Prop} {D : va_G} {cI cJ cZ : ClassId} {ad : Nat → Nat} {A : Nat → Prop} (C : Cx p s m args c cX5_depth 6 wsX5_depth RX5 D vwCl (tyl cI cJ cZ) (wM cI cJ cZ ad) A R 3 74) {r : (Int32 × SH)} (hR : Ri p l e R s m args below meth c cX5_depth D vwCl (wM cI cJ cZ ad) A Q r) (N : Nat) (k66 : Int32 → Int32 → Int32 → Int32 → Int32 → SH → Option (Int32 × SH)) (K66 : ∀ (x1 : Int32) (x2 : Int32) (x3 : Int32) (x4 : Int32) (x5 : Int32) (z : SH) (H : Heap) (locs : List Loc) (ls : Array Slot), k66 x1 x2 x3 x4 x5 z = some r → va_P D vwCl (wM cI cJ cZ ad z) H → va_S A s.heap H locs → lv_has ls 6 [(0, .ref (ad 0)), (1, .int x1), (2, .int x2), (3, .int x3), (4, .int x4), (5, .int x5)] → W p l e R s m args below meth c H locs 0 0 Q (F0 m 66 ls [])) (x1 : Int32) (x2 : Int32) (x3 : Int32) (x4 : Int32) (x5 : Int32) (z0 : SH) {H : Heap} {locs : List Loc} {ls : Array Slot} (h : fX5_depth_66 N k66 x1 x2 x3 x4 x5 z0 = some r) (hP : va_P D vwCl (wM cI cJ cZ ad z0) H) (hS : va_S A s.heap H locs) (hl : lv_has ls 6 [(0, .ref (ad 0)), (1, .int x1), (2, .int x2), (3, .int x3), (4, .int x4), (5, .int x5)]) : W p l e R s m args below meth c H locs 0 0 Q (F0 m 66 ls []) := by
  unfold fX5_depth_66 at h
  have hx := C.1.1
  have hb := C.1.2.1
  refine lv_iload hx hb dX5_depth_66 (lv_at hl 5 rfl) ?_
  refine lv_aload_n hx hb dX5_depth_68 rfl (lv_at hl 0 rfl) ?_
  refine b_geti C hP h iX5_depth_X5 0 (wM_0 cI cJ cZ ad z0) rfl 9 (by decide) fX5_depth_i116 rfl rfl dX5_depth_69 (fun v1 h => ?_)
  refine lv_icmp_ge (tgt := 120) hx hb dX5_depth_72 (by decide) (fun c1 => ?_) (fun c1 => ?_)
  · replace h := (ite_h h).1 c1
    refine lv_iload hx hb dX5_depth_120 (lv_at hl 4 rfl) ?_
    exact hR 122 _ _ _ _ _ (Option.some.inj h).symm dX5_depth_122 hP hS
  · replace h := (ite_h h).2 c1
    refine lv_aload_n hx hb dX5_depth_75 rfl (lv_at hl 0 rfl) ?_
    refine lv_iload hx hb dX5_depth_76 (lv_at hl 5 rfl) ?_
    refine lv_iload_n hx hb dX5_depth_78 rfl (lv_at hl 1 rfl) ?_
    refine lv_iload_n hx hb dX5_depth_79 rfl (lv_at hl 2 rfl) ?_
    refine b_callVi (As := [.int x5, .int x1, .int x2]) (rest := []) C hP hS h (mX5_rests l D cI cJ cZ ad x5 x1 x2 z0) (cwV 3 C.1.2.2.2.2 gX5_depth_X5_rests rfl rfl rfl (by decide +kernel) ⟨Nat.le_trans (Nat.le_of_ble_eq_true rfl) C.2.2.2.2.1, Nat.le_trans (Nat.le_of_ble_eq_true rfl) C.2.2.2.2.2⟩) (va_recv C.2.1 hP (ci := 5) (q0 := 0) rfl (wM_0 cI cJ cZ ad z0)) rfl hl.1 rfl (Nat.le_of_ble_eq_true rfl) dX5_depth_80 (fun v3 z2 _ _ h hP hS => ?_)
    refine lv_if_eq (tgt := 110) hx hb dX5_depth_83 (by decide) (fun c1 => ?_) (fun c1 => ?_)
    · replace h := (ite_h h).1 c1
      exact wX5_depth_110 C hR N k66 K66 x1 x2 x3 x4 x5 z2 h hP hS (lv_sub hl [0, 1, 2, 3, 4, 5] rfl)
    · replace h := (ite_h h).2 c1
      refine lv_aload_n hx hb dX5_depth_86 rfl (lv_at hl 0 rfl) ?_
      refine b_getr C hP iX5_depth_X5 0 (wM_0 cI cJ cZ ad z2) rfl 14 (by decide) fX5_depth_i45 rfl rfl dX5_depth_87 ?_
      refine lv_iload hx hb dX5_depth_90 (lv_at hl 5 rfl) ?_
      refine b_iald C hP h 12 (wM_12 cI cJ cZ ad z2) 0 rfl dX5_depth_92 (fun v4 h => ?_)
      refine lv_iload_n hx hb dX5_depth_93 rfl (lv_at hl 3 rfl) ?_
      refine lv_icmp_ne (tgt := 110) hx hb dX5_depth_94 (by decide) (fun c1 => ?_) (fun c1 => ?_)
      · replace h := (ite_h h).2 c1
        exact wX5_depth_110 C hR N k66 K66 x1 x2 x3 x4 x5 z2 h hP hS (lv_sub hl [0, 1, 2, 3, 4, 5] rfl)
      · replace h := (ite_h h).1 c1
        refine lv_iload hx hb dX5_depth_97 (lv_at hl 4 rfl) ?_
        refine lv_aload_n hx hb dX5_depth_99 rfl (lv_at hl 0 rfl) ?_
        refine b_getr C hP iX5_depth_X5 0 (wM_0 cI cJ cZ ad z2) rfl 16 (by decide) fX5_depth_i51 rfl rfl dX5_depth_100 ?_
        refine lv_iload hx hb dX5_depth_103 (lv_at hl 5 rfl) ?_
        refine b_iald C hP h 14 (wM_14 cI cJ cZ ad z2) 0 rfl dX5_depth_105 (fun v5 h => ?_)
        refine lv_iadd hx hb dX5_depth_106 ?_
        refine lv_goto (tgt := 112) hx hb dX5_depth_107 (by decide) ?_
        exact wX5_depth_112 C hR N k66 K66 x1 x2 x3 x5 (x4 + v5) z2 h hP hS (lv_sub hl [0, 1, 2, 3, 5] rfl)
theorem wX5_depth_66_L {p : Program} {l : Launch} {e : Env} {R : Room} {s : State} {m : MethodId} {args : Array Value} {below : List Frame} {meth : Method} {c : Code} {Q : State → Prop} {D : va_G} {cI cJ cZ : ClassId} {ad : Nat → Nat} {A : Nat → Prop} (C : Cx p s m args c cX5_depth 6 wsX5_depth RX5 D vwCl (tyl cI cJ cZ) (wM cI cJ cZ ad) A R 3 74) {r : (Int32 × SH)} (hR : Ri p l e R s m args below meth c cX5_depth D vwCl (wM cI cJ cZ ad) A Q r) (N : Nat) : ∀ (n : Nat), ∀ (x1 : Int32) (x2 : Int32) (x3 : Int32) (x4 : Int32) (x5 : Int32) (z : SH) (H : Heap) (locs : List Loc) (ls : Array Slot), fX5_depth_66_L N n x1 x2 x3 x4 x5 z = some r → va_P D vwCl (wM cI cJ cZ ad z) H → va_S A s.heap H locs → lv_has ls 6 [(0, .ref (ad 0)), (1, .int x1), (2, .int x2), (3, .int x3), (4, .int x4), (5, .int x5)] → W p l e R s m args below meth c H locs 0 0 Q (F0 m 66 ls []) := by
  intro n
  induction n with
  | zero => intro x1 x2 x3 x4 x5 z H locs ls h; exact nomatch (show (none : Option (Int32 × SH)) = some r from h)
  | succ n ih => intro x1 x2 x3 x4 x5 z H locs ls h hP hS hl; exact wX5_depth_66 C hR N (fX5_depth_66_L N n) ih x1 x2 x3 x4 x5 z (show fX5_depth_66 N (fX5_depth_66_L N n) x1 x2 x3 x4 x5 z = some r from h) hP hS hl
set_option maxRecDepth 100000 in
set_option maxHeartbeats 4000000 in
theorem wX5_depth_37 {p : Program} {l : Launch} {e : Env} {R : Room} {s : State} {m : MethodId} {args : Array Value} {below : List Frame} {meth : Method} {c : Code} {Q : State → Prop} {D : va_G} {cI cJ cZ : ClassId} {ad : Nat → Nat} {A : Nat → Prop} (C : Cx p s m args c cX5_depth 6 wsX5_depth RX5 D vwCl (tyl cI cJ cZ) (wM cI cJ cZ ad) A R 3 74) {r : (Int32 × SH)} (hR : Ri p l e R s m args below meth c cX5_depth D vwCl (wM cI cJ cZ ad) A Q r) (N : Nat) (x1 : Int32) (x2 : Int32) (x3 : Int32) (t0 : Int32) (z0 : SH) {H : Heap} {locs : List Loc} {ls : Array Slot} (h : fX5_depth_37 N x1 x2 x3 t0 z0 = some r) (hP : va_P D vwCl (wM cI cJ cZ ad z0) H) (hS : va_S A s.heap H locs) (hl : lv_has ls 6 [(0, .ref (ad 0)), (1, .int x1), (2, .int x2), (3, .int x3)]) : W p l e R s m args below meth c H locs 0 0 Q (F0 m 37 ls [.int t0, .ref (ad 0)]) := by
  unfold fX5_depth_37 at h
  have hx := C.1.1
  have hb := C.1.2.1
  refine b_puti C hP hS h iX5_depth_X5 tyX5 tyX5_ok nmX5 0 (wM_0 cI cJ cZ ad z0) rfl 0 (by decide) fX5_depth_i93 rfl rfl rfl (Nat.le_of_ble_eq_true rfl) (wM_si0 cI cJ cZ ad z0 _) dX5_depth_37 (fun z1 _ _ h hP hS => ?_)
  refine lv_aload_n hx hb dX5_depth_40 rfl (lv_at hl 0 rfl) ?_
  refine b_geti C hP h iX5_depth_X5 0 (wM_0 cI cJ cZ ad z1) rfl 0 (by decide) fX5_depth_i93 rfl rfl dX5_depth_41 (fun v2 h => ?_)
  refine lv_if_le (tgt := 49) hx hb dX5_depth_44 (by decide) (fun c1 => ?_) (fun c1 => ?_)
  · replace h := (ite_h h).1 c1
    refine lv_iload_n hx hb dX5_depth_49 rfl (lv_at hl 3 rfl) ?_
    refine lv_if_ne (tgt := 60) hx hb dX5_depth_50 (by decide) (fun c1 => ?_) (fun c1 => ?_)
    · replace h := (ite_h h).2 c1
      refine lv_iconst (v := 0) hx hb dX5_depth_60 (by decide) ?_
      refine lv_istore (lv' := [(4, .int 0), (0, .ref (ad 0)), (1, .int x1), (2, .int x2), (3, .int x3)]) hx hb dX5_depth_61 hl (by decide) rfl (fun ls hl => ?_)
      refine lv_iconst (v := 0) hx hb dX5_depth_63 (by decide) ?_
      refine lv_istore (lv' := [(5, .int 0), (4, .int 0), (0, .ref (ad 0)), (1, .int x1), (2, .int x2), (3, .int x3)]) hx hb dX5_depth_64 hl (by decide) rfl (fun ls hl => ?_)
      exact wX5_depth_66_L C hR N N x1 x2 x3 0 0 z1 _ _ _ h hP hS (lv_sub hl [2, 3, 4, 5, 1, 0] rfl)
    · replace h := (ite_h h).1 c1
      refine lv_aload_n hx hb dX5_depth_53 rfl (lv_at hl 0 rfl) ?_
      refine lv_iload_n hx hb dX5_depth_54 rfl (lv_at hl 1 rfl) ?_
      refine lv_iload_n hx hb dX5_depth_55 rfl (lv_at hl 2 rfl) ?_
      refine b_callVi (As := [.int x1, .int x2]) (rest := []) C hP hS h (mX5_priceCount l D cI cJ cZ ad N x1 x2 z1) (cwV 2 C.1.2.2.2.2 gX5_depth_X5_priceCount rfl rfl rfl (by decide +kernel) ⟨Nat.le_trans (Nat.le_of_ble_eq_true rfl) C.2.2.2.2.1, Nat.le_trans (Nat.le_of_ble_eq_true rfl) C.2.2.2.2.2⟩) (va_recv C.2.1 hP (ci := 5) (q0 := 0) rfl (wM_0 cI cJ cZ ad z1)) rfl hl.1 rfl (Nat.le_of_ble_eq_true rfl) dX5_depth_56 (fun v4 z3 _ _ h hP hS => ?_)
      exact hR 59 _ _ _ _ _ (Option.some.inj h).symm dX5_depth_59 hP hS
  · replace h := (ite_h h).2 c1
    refine lv_iconst (v := 0) hx hb dX5_depth_47 (by decide) ?_
    exact hR 48 _ _ _ _ _ (Option.some.inj h).symm dX5_depth_48 hP hS
set_option maxRecDepth 100000 in
set_option maxHeartbeats 4000000 in
theorem wX5_depth_32 {p : Program} {l : Launch} {e : Env} {R : Room} {s : State} {m : MethodId} {args : Array Value} {below : List Frame} {meth : Method} {c : Code} {Q : State → Prop} {D : va_G} {cI cJ cZ : ClassId} {ad : Nat → Nat} {A : Nat → Prop} (C : Cx p s m args c cX5_depth 6 wsX5_depth RX5 D vwCl (tyl cI cJ cZ) (wM cI cJ cZ ad) A R 3 74) {r : (Int32 × SH)} (hR : Ri p l e R s m args below meth c cX5_depth D vwCl (wM cI cJ cZ ad) A Q r) (N : Nat) (x1 : Int32) (x2 : Int32) (x3 : Int32) (z0 : SH) {H : Heap} {locs : List Loc} {ls : Array Slot} (h : fX5_depth_32 N x1 x2 x3 z0 = some r) (hP : va_P D vwCl (wM cI cJ cZ ad z0) H) (hS : va_S A s.heap H locs) (hl : lv_has ls 6 [(0, .ref (ad 0)), (1, .int x1), (2, .int x2), (3, .int x3)]) : W p l e R s m args below meth c H locs 0 0 Q (F0 m 32 ls [.ref (ad 0)]) := by
  unfold fX5_depth_32 at h
  have hx := C.1.1
  have hb := C.1.2.1
  refine lv_iconst (v := 2) hx hb dX5_depth_32 (by decide) ?_
  refine lv_goto (tgt := 37) hx hb dX5_depth_33 (by decide) ?_
  exact wX5_depth_37 C hR N x1 x2 x3 2 z0 h hP hS (lv_sub hl [0, 1, 2, 3] rfl)
set_option maxRecDepth 100000 in
set_option maxHeartbeats 4000000 in
theorem wX5_depth {p : Program} {l : Launch} {e : Env} {R : Room} {s : State} {m : MethodId} {args : Array Value} {below : List Frame} {meth : Method} {c : Code} {Q : State → Prop} {D : va_G} {cI cJ cZ : ClassId} {ad : Nat → Nat} {A : Nat → Prop} (C : Cx p s m args c cX5_depth 6 wsX5_depth RX5 D vwCl (tyl cI cJ cZ) (wM cI cJ cZ ad) A R 3 74) {r : (Int32 × SH)} (hR : Ri p l e R s m args below meth c cX5_depth D vwCl (wM cI cJ cZ ad) A Q r) (N : Nat) (a1 : Int32) (a2 : Int32) (a3 : Int32) (z0 : SH) {H : Heap} {locs : List Loc} {ls : Array Slot} (h : fX5_depth N a1 a2 a3 z0 = some r) (hP : va_P D vwCl (wM cI cJ cZ ad z0) H) (hS : va_S A s.heap H locs) (hl : lv_has ls 6 [(0, .ref (ad 0)), (1, .int a1), (2, .int a2), (3, .int a3)]) : W p l e R s m args below meth c H locs 0 0 Q (F0 m 0 ls []) := by
  unfold fX5_depth at h
  have hx := C.1.1
  have hb := C.1.2.1
  refine lv_aload_n hx hb dX5_depth_0 rfl (lv_at hl 0 rfl) ?_
  refine lv_iload_n hx hb dX5_depth_1 rfl (lv_at hl 1 rfl) ?_
  refine b_callSi (As := [.int a1]) (rest := [.ref (ad 0)]) C hP hS h (mX5_isSymbol l D cI cJ cZ ad a1 z0) (va_cwS 1 C.1.2.2.2.2 gX5_depth_X5_isSymbol rfl rfl rfl (by decide +kernel) ⟨Nat.le_trans (Nat.le_of_ble_eq_true rfl) C.2.2.2.2.1, Nat.le_trans (Nat.le_of_ble_eq_true rfl) C.2.2.2.2.2⟩) rfl hl.1 rfl (Nat.le_of_ble_eq_true rfl) dX5_depth_2 (fun v2 z1 _ _ h hP hS => ?_)
  refine lv_if_ne (tgt := 12) hx hb dX5_depth_5 (by decide) (fun c1 => ?_) (fun c1 => ?_)
  · replace h := (ite_h h).2 c1
    refine lv_iload_n hx hb dX5_depth_12 rfl (lv_at hl 2 rfl) ?_
    refine lv_iconst (v := 0) hx hb dX5_depth_13 (by decide) ?_
    refine lv_iconst (v := 1) hx hb dX5_depth_14 (by decide) ?_
    refine b_callSi (As := [.int a2, .int 0, .int 1]) (rest := [.ref (ad 0)]) C hP hS h (mX5_isIn l D cI cJ cZ ad a2 0 1 z1) (va_cwS 3 C.1.2.2.2.2 gX5_depth_X5_isIn rfl rfl rfl (by decide +kernel) ⟨Nat.le_trans (Nat.le_of_ble_eq_true rfl) C.2.2.2.2.1, Nat.le_trans (Nat.le_of_ble_eq_true rfl) C.2.2.2.2.2⟩) rfl hl.1 rfl (Nat.le_of_ble_eq_true rfl) dX5_depth_15 (fun v4 z3 _ _ h hP hS => ?_)
    refine lv_if_eq (tgt := 32) hx hb dX5_depth_18 (by decide) (fun c1 => ?_) (fun c1 => ?_)
    · replace h := (ite_h h).1 c1
      exact wX5_depth_32 C hR N a1 a2 a3 z3 h hP hS (lv_sub hl [0, 1, 2, 3] rfl)
    · replace h := (ite_h h).2 c1
      refine lv_iload_n hx hb dX5_depth_21 rfl (lv_at hl 3 rfl) ?_
      refine lv_iconst (v := 0) hx hb dX5_depth_22 (by decide) ?_
      refine lv_sipush (v := 10000) hx hb dX5_depth_23 (by decide) ?_
      refine b_callSi (As := [.int a3, .int 0, .int 10000]) (rest := [.ref (ad 0)]) C hP hS h (mX5_isIn l D cI cJ cZ ad a3 0 10000 z3) (va_cwS 3 C.1.2.2.2.2 gX5_depth_X5_isIn rfl rfl rfl (by decide +kernel) ⟨Nat.le_trans (Nat.le_of_ble_eq_true rfl) C.2.2.2.2.1, Nat.le_trans (Nat.le_of_ble_eq_true rfl) C.2.2.2.2.2⟩) rfl hl.1 rfl (Nat.le_of_ble_eq_true rfl) dX5_depth_26 (fun v6 z5 _ _ h hP hS => ?_)
      refine lv_if_ne (tgt := 36) hx hb dX5_depth_29 (by decide) (fun c1 => ?_) (fun c1 => ?_)
      · replace h := (ite_h h).2 c1
        refine lv_iconst (v := 0) hx hb dX5_depth_36 (by decide) ?_
        exact wX5_depth_37 C hR N a1 a2 a3 0 z5 h hP hS (lv_sub hl [0, 1, 2, 3] rfl)
      · replace h := (ite_h h).1 c1
        exact wX5_depth_32 C hR N a1 a2 a3 z5 h hP hS (lv_sub hl [0, 1, 2, 3] rfl)
  · replace h := (ite_h h).1 c1
    refine lv_iconst (v := 1) hx hb dX5_depth_8 (by decide) ?_
    refine lv_goto (tgt := 37) hx hb dX5_depth_9 (by decide) ?_
    exact wX5_depth_37 C hR N a1 a2 a3 1 z1 h hP hS (lv_sub hl [0, 1, 2, 3] rfl)
theorem mX5_depth (l : Launch) (D : va_G) (cI cJ cZ : ClassId) (ad : Nat → Nat) (N : Nat) (a1 : Int32) (a2 : Int32) (a3 : Int32) (z0 : SH) : ∀ (q : (Int32 × SH)) (sz : Nat), fX5_depth N a1 a2 a3 z0 = some q → Met l yX5_depth wsX5_depth rmX5_depth (cP D vwCl (tyl cI cJ cZ) (wM cI cJ cZ ad z0) sz [.ref (ad 0), .int a1, .int a2, .int a3]) (cQi D vwCl (wM cI cJ cZ ad) z0 sz q) 0 0 (va_A (wM cI cJ cZ ad z0) sz) := by
  intro q sz h
  refine ofW_i (cc := cX5_depth) (maxL := 6) (by decide) rfl (wM_same cI cJ cZ ad) (Nat.le_of_ble_eq_true rfl) (fun p e s m below meth c ls hsz C hR hP hl => ?_)
  exact wX5_depth C hR N a1 a2 a3 z0 h hP va_S.rf hl
abbrev rmX5_level : Room := { frames := 2, cells := 0, slots := 0, locals := 51 }
theorem fX5_level_i116 : Cond.fieldLink RX5 116 (TX5 9).1 (TX5 9).2.1 (TX5 9).2.2.1 ∈ wsX5_level := by decide +kernel
theorem fX5_level_i45 : Cond.fieldLink RX5 45 (TX5 14).1 (TX5 14).2.1 (TX5 14).2.2.1 ∈ wsX5_level := by decide +kernel
theorem fX5_level_i48 : Cond.fieldLink RX5 48 (TX5 15).1 (TX5 15).2.1 (TX5 15).2.2.1 ∈ wsX5_level := by decide +kernel
theorem fX5_level_i93 : Cond.fieldLink RX5 93 (TX5 0).1 (TX5 0).2.1 (TX5 0).2.2.1 ∈ wsX5_level := by decide +kernel
theorem iX5_level_X5 : ∀ x ∈ wsX50, x ∈ wsX5_level := by decide +kernel
set_option maxRecDepth 100000 in
set_option maxHeartbeats 4000000 in
theorem wX5_level_112 {p : Program} {l : Launch} {e : Env} {R : Room} {s : State} {m : MethodId} {args : Array Value} {below : List Frame} {meth : Method} {c : Code} {Q : State → Prop} {D : va_G} {cI cJ cZ : ClassId} {ad : Nat → Nat} {A : Nat → Prop} (C : Cx p s m args c cX5_level 10 wsX5_level RX5 D vwCl (tyl cI cJ cZ) (wM cI cJ cZ ad) A R 2 51) {r : (Int32 × SH)} (hR : Ri p l e R s m args below meth c cX5_level D vwCl (wM cI cJ cZ ad) A Q r) (N : Nat) (t0 : Int32) (z0 : SH) {H : Heap} {locs : List Loc} {ls : Array Slot} (h : fX5_level_112 N t0 z0 = some r) (hP : va_P D vwCl (wM cI cJ cZ ad z0) H) (hS : va_S A s.heap H locs) (hl : lv_has ls 10 []) : W p l e R s m args below meth c H locs 0 0 Q (F0 m 112 ls [.int t0]) := by
  unfold fX5_level_112 at h
  have hx := C.1.1
  have hb := C.1.2.1
  exact hR 112 _ _ _ _ _ (Option.some.inj h).symm dX5_level_112 hP hS
set_option maxRecDepth 100000 in
set_option maxHeartbeats 4000000 in
theorem wX5_level_99 {p : Program} {l : Launch} {e : Env} {R : Room} {s : State} {m : MethodId} {args : Array Value} {below : List Frame} {meth : Method} {c : Code} {Q : State → Prop} {D : va_G} {cI cJ cZ : ClassId} {ad : Nat → Nat} {A : Nat → Prop} (C : Cx p s m args c cX5_level 10 wsX5_level RX5 D vwCl (tyl cI cJ cZ) (wM cI cJ cZ ad) A R 2 51) {r : (Int32 × SH)} (hR : Ri p l e R s m args below meth c cX5_level D vwCl (wM cI cJ cZ ad) A Q r) (N : Nat) (x6 : Int32) (z0 : SH) {H : Heap} {locs : List Loc} {ls : Array Slot} (h : fX5_level_99 N x6 z0 = some r) (hP : va_P D vwCl (wM cI cJ cZ ad z0) H) (hS : va_S A s.heap H locs) (hl : lv_has ls 10 [(0, .ref (ad 0)), (6, .int x6)]) : W p l e R s m args below meth c H locs 0 0 Q (F0 m 99 ls []) := by
  unfold fX5_level_99 at h
  have hx := C.1.1
  have hb := C.1.2.1
  refine lv_aload_n hx hb dX5_level_99 rfl (lv_at hl 0 rfl) ?_
  refine b_geti C hP h iX5_level_X5 0 (wM_0 cI cJ cZ ad z0) rfl 0 (by decide) fX5_level_i93 rfl rfl dX5_level_100 (fun v1 h => ?_)
  refine lv_if_le (tgt := 110) hx hb dX5_level_103 (by decide) (fun c1 => ?_) (fun c1 => ?_)
  · replace h := (ite_h h).1 c1
    refine lv_iload hx hb dX5_level_110 (lv_at hl 1 rfl) ?_
    exact wX5_level_112 C hR N x6 z0 h hP hS (lv_sub hl [] rfl)
  · replace h := (ite_h h).2 c1
    refine lv_iconst (v := 0) hx hb dX5_level_106 (by decide) ?_
    refine lv_goto (tgt := 112) hx hb dX5_level_107 (by decide) ?_
    exact wX5_level_112 C hR N 0 z0 h hP hS (lv_sub hl [] rfl)
set_option maxRecDepth 100000 in
set_option maxHeartbeats 4000000 in
theorem wX5_level_188 {p : Program} {l : Launch} {e : Env} {R : Room} {s : State} {m : MethodId} {args : Array Value} {below : List Frame} {meth : Method} {c : Code} {Q : State → Prop} {D : va_G} {cI cJ cZ : ClassId} {ad : Nat → Nat} {A : Nat → Prop} (C : Cx p s m args c cX5_level 10 wsX5_level RX5 D vwCl (tyl cI cJ cZ) (wM cI cJ cZ ad) A R 2 51) {r : (Int32 × SH)} (hR : Ri p l e R s m args below meth c cX5_level D vwCl (wM cI cJ cZ ad) A Q r) (N : Nat) (k119 : Int32 → Int32 → Int32 → Int32 → Int32 → Int32 → SH → Option (Int32 × SH)) (K119 : ∀ (x1 : Int32) (x2 : Int32) (x4 : Int32) (x6 : Int32) (x7 : Int32) (x8 : Int32) (z : SH) (H : Heap) (locs : List Loc) (ls : Array Slot), k119 x1 x2 x4 x6 x7 x8 z = some r → va_P D vwCl (wM cI cJ cZ ad z) H → va_S A s.heap H locs → lv_has ls 10 [(0, .ref (ad 0)), (1, .int x1), (2, .int x2), (4, .int x4), (6, .int x6), (7, .int x7), (8, .int x8)] → W p l e R s m args below meth c H locs 0 0 Q (F0 m 119 ls [])) (x1 : Int32) (x2 : Int32) (x4 : Int32) (x6 : Int32) (x8 : Int32) (t0 : Int32) (z0 : SH) {H : Heap} {locs : List Loc} {ls : Array Slot} (h : fX5_level_188 N k119 x1 x2 x4 x6 x8 t0 z0 = some r) (hP : va_P D vwCl (wM cI cJ cZ ad z0) H) (hS : va_S A s.heap H locs) (hl : lv_has ls 10 [(0, .ref (ad 0)), (1, .int x1), (2, .int x2), (4, .int x4), (6, .int x6), (8, .int x8)]) : W p l e R s m args below meth c H locs 0 0 Q (F0 m 188 ls [.int t0]) := by
  unfold fX5_level_188 at h
  have hx := C.1.1
  have hb := C.1.2.1
  refine lv_istore (lv' := [(7, .int t0), (0, .ref (ad 0)), (1, .int x1), (2, .int x2), (4, .int x4), (6, .int x6), (8, .int x8)]) hx hb dX5_level_188 hl (by decide) rfl (fun ls hl => ?_)
  refine lv_iinc (v := x8 + 1) (lv' := [(8, .int (x8 + 1)), (7, .int t0), (0, .ref (ad 0)), (1, .int x1), (2, .int x2), (4, .int x4), (6, .int x6)]) hx hb dX5_level_190 hl (k := 6) rfl rfl (by decide) rfl (fun ls hl => ?_)
  refine lv_goto (tgt := 119) hx hb dX5_level_193 (by decide) ?_
  exact K119 x1 x2 x4 x6 t0 (x8 + 1) z0 _ _ _ h hP hS (lv_sub hl [2, 3, 4, 5, 6, 1, 0] rfl)
set_option maxRecDepth 100000 in
set_option maxHeartbeats 4000000 in
theorem wX5_level_182 {p : Program} {l : Launch} {e : Env} {R : Room} {s : State} {m : MethodId} {args : Array Value} {below : List Frame} {meth : Method} {c : Code} {Q : State → Prop} {D : va_G} {cI cJ cZ : ClassId} {ad : Nat → Nat} {A : Nat → Prop} (C : Cx p s m args c cX5_level 10 wsX5_level RX5 D vwCl (tyl cI cJ cZ) (wM cI cJ cZ ad) A R 2 51) {r : (Int32 × SH)} (hR : Ri p l e R s m args below meth c cX5_level D vwCl (wM cI cJ cZ ad) A Q r) (N : Nat) (k119 : Int32 → Int32 → Int32 → Int32 → Int32 → Int32 → SH → Option (Int32 × SH)) (K119 : ∀ (x1 : Int32) (x2 : Int32) (x4 : Int32) (x6 : Int32) (x7 : Int32) (x8 : Int32) (z : SH) (H : Heap) (locs : List Loc) (ls : Array Slot), k119 x1 x2 x4 x6 x7 x8 z = some r → va_P D vwCl (wM cI cJ cZ ad z) H → va_S A s.heap H locs → lv_has ls 10 [(0, .ref (ad 0)), (1, .int x1), (2, .int x2), (4, .int x4), (6, .int x6), (7, .int x7), (8, .int x8)] → W p l e R s m args below meth c H locs 0 0 Q (F0 m 119 ls [])) (x1 : Int32) (x2 : Int32) (x4 : Int32) (x6 : Int32) (x8 : Int32) (t0 : Int32) (t1 : Int32) (z0 : SH) {H : Heap} {locs : List Loc} {ls : Array Slot} (h : fX5_level_182 N k119 x1 x2 x4 x6 x8 t0 t1 z0 = some r) (hP : va_P D vwCl (wM cI cJ cZ ad z0) H) (hS : va_S A s.heap H locs) (hl : lv_has ls 10 [(0, .ref (ad 0)), (1, .int x1), (2, .int x2), (4, .int x4), (6, .int x6), (8, .int x8)]) : W p l e R s m args below meth c H locs 0 0 Q (F0 m 182 ls [.int t0, .int t1]) := by
  unfold fX5_level_182 at h
  have hx := C.1.1
  have hb := C.1.2.1
  refine lv_iadd hx hb dX5_level_182 ?_
  refine lv_goto (tgt := 188) hx hb dX5_level_183 (by decide) ?_
  exact wX5_level_188 C hR N k119 K119 x1 x2 x4 x6 x8 (t1 + t0) z0 h hP hS (lv_sub hl [0, 1, 2, 3, 4, 5] rfl)
set_option maxRecDepth 100000 in
set_option maxHeartbeats 4000000 in
theorem wX5_level_156 {p : Program} {l : Launch} {e : Env} {R : Room} {s : State} {m : MethodId} {args : Array Value} {below : List Frame} {meth : Method} {c : Code} {Q : State → Prop} {D : va_G} {cI cJ cZ : ClassId} {ad : Nat → Nat} {A : Nat → Prop} (C : Cx p s m args c cX5_level 10 wsX5_level RX5 D vwCl (tyl cI cJ cZ) (wM cI cJ cZ ad) A R 2 51) {r : (Int32 × SH)} (hR : Ri p l e R s m args below meth c cX5_level D vwCl (wM cI cJ cZ ad) A Q r) (N : Nat) (k119 : Int32 → Int32 → Int32 → Int32 → Int32 → Int32 → SH → Option (Int32 × SH)) (K119 : ∀ (x1 : Int32) (x2 : Int32) (x4 : Int32) (x6 : Int32) (x7 : Int32) (x8 : Int32) (z : SH) (H : Heap) (locs : List Loc) (ls : Array Slot), k119 x1 x2 x4 x6 x7 x8 z = some r → va_P D vwCl (wM cI cJ cZ ad z) H → va_S A s.heap H locs → lv_has ls 10 [(0, .ref (ad 0)), (1, .int x1), (2, .int x2), (4, .int x4), (6, .int x6), (7, .int x7), (8, .int x8)] → W p l e R s m args below meth c H locs 0 0 Q (F0 m 119 ls [])) (x1 : Int32) (x2 : Int32) (x4 : Int32) (x6 : Int32) (x7 : Int32) (x8 : Int32) (t0 : Int32) (z0 : SH) {H : Heap} {locs : List Loc} {ls : Array Slot} (h : fX5_level_156 N k119 x1 x2 x4 x6 x7 x8 t0 z0 = some r) (hP : va_P D vwCl (wM cI cJ cZ ad z0) H) (hS : va_S A s.heap H locs) (hl : lv_has ls 10 [(0, .ref (ad 0)), (1, .int x1), (2, .int x2), (4, .int x4), (6, .int x6), (7, .int x7), (8, .int x8)]) : W p l e R s m args below meth c H locs 0 0 Q (F0 m 156 ls [.int t0]) := by
  unfold fX5_level_156 at h
  have hx := C.1.1
  have hb := C.1.2.1
  refine lv_istore (lv' := [(9, .int t0), (0, .ref (ad 0)), (1, .int x1), (2, .int x2), (4, .int x4), (6, .int x6), (7, .int x7), (8, .int x8)]) hx hb dX5_level_156 hl (by decide) rfl (fun ls hl => ?_)
  refine lv_iload hx hb dX5_level_158 (lv_at hl 0 rfl) ?_
  refine lv_if_eq (tgt := 186) hx hb dX5_level_160 (by decide) (fun c1 => ?_) (fun c1 => ?_)
  · replace h := (ite_h h).1 c1
    refine lv_iload hx hb dX5_level_186 (lv_at hl 6 rfl) ?_
    exact wX5_level_188 C hR N k119 K119 x1 x2 x4 x6 x8 x7 z0 h hP hS (lv_sub hl [1, 2, 3, 4, 5, 7] rfl)
  · replace h := (ite_h h).2 c1
    refine lv_iload hx hb dX5_level_163 (lv_at hl 6 rfl) ?_
    refine lv_iload hx hb dX5_level_165 (lv_at hl 4 rfl) ?_
    refine lv_iconst (v := 1) hx hb dX5_level_167 (by decide) ?_
    refine lv_icmp_ne (tgt := 175) hx hb dX5_level_168 (by decide) (fun c1 => ?_) (fun c1 => ?_)
    · replace h := (ite_h h).2 c1
      refine lv_aload_n hx hb dX5_level_175 rfl (lv_at hl 1 rfl) ?_
      refine b_getr C hP iX5_level_X5 0 (wM_0 cI cJ cZ ad z0) rfl 15 (by decide) fX5_level_i48 rfl rfl dX5_level_176 ?_
      refine lv_iload hx hb dX5_level_179 (lv_at hl 7 rfl) ?_
      refine b_iald C hP h 13 (wM_13 cI cJ cZ ad z0) 0 rfl dX5_level_181 (fun v1 h => ?_)
      exact wX5_level_182 C hR N k119 K119 x1 x2 x4 x6 x8 v1 x7 z0 h hP hS (lv_sub hl [1, 2, 3, 4, 5, 7] rfl)
    · replace h := (ite_h h).1 c1
      refine lv_iconst (v := 1) hx hb dX5_level_171 (by decide) ?_
      refine lv_goto (tgt := 182) hx hb dX5_level_172 (by decide) ?_
      exact wX5_level_182 C hR N k119 K119 x1 x2 x4 x6 x8 1 x7 z0 h hP hS (lv_sub hl [1, 2, 3, 4, 5, 7] rfl)
set_option maxRecDepth 100000 in
set_option maxHeartbeats 4000000 in
theorem wX5_level_155 {p : Program} {l : Launch} {e : Env} {R : Room} {s : State} {m : MethodId} {args : Array Value} {below : List Frame} {meth : Method} {c : Code} {Q : State → Prop} {D : va_G} {cI cJ cZ : ClassId} {ad : Nat → Nat} {A : Nat → Prop} (C : Cx p s m args c cX5_level 10 wsX5_level RX5 D vwCl (tyl cI cJ cZ) (wM cI cJ cZ ad) A R 2 51) {r : (Int32 × SH)} (hR : Ri p l e R s m args below meth c cX5_level D vwCl (wM cI cJ cZ ad) A Q r) (N : Nat) (k119 : Int32 → Int32 → Int32 → Int32 → Int32 → Int32 → SH → Option (Int32 × SH)) (K119 : ∀ (x1 : Int32) (x2 : Int32) (x4 : Int32) (x6 : Int32) (x7 : Int32) (x8 : Int32) (z : SH) (H : Heap) (locs : List Loc) (ls : Array Slot), k119 x1 x2 x4 x6 x7 x8 z = some r → va_P D vwCl (wM cI cJ cZ ad z) H → va_S A s.heap H locs → lv_has ls 10 [(0, .ref (ad 0)), (1, .int x1), (2, .int x2), (4, .int x4), (6, .int x6), (7, .int x7), (8, .int x8)] → W p l e R s m args below meth c H locs 0 0 Q (F0 m 119 ls [])) (x1 : Int32) (x2 : Int32) (x4 : Int32) (x6 : Int32) (x7 : Int32) (x8 : Int32) (z0 : SH) {H : Heap} {locs : List Loc} {ls : Array Slot} (h : fX5_level_155 N k119 x1 x2 x4 x6 x7 x8 z0 = some r) (hP : va_P D vwCl (wM cI cJ cZ ad z0) H) (hS : va_S A s.heap H locs) (hl : lv_has ls 10 [(0, .ref (ad 0)), (1, .int x1), (2, .int x2), (4, .int x4), (6, .int x6), (7, .int x7), (8, .int x8)]) : W p l e R s m args below meth c H locs 0 0 Q (F0 m 155 ls []) := by
  unfold fX5_level_155 at h
  have hx := C.1.1
  have hb := C.1.2.1
  refine lv_iconst (v := 0) hx hb dX5_level_155 (by decide) ?_
  exact wX5_level_156 C hR N k119 K119 x1 x2 x4 x6 x7 x8 0 z0 h hP hS (lv_sub hl [0, 1, 2, 3, 4, 5, 6] rfl)
set_option maxRecDepth 100000 in
set_option maxHeartbeats 4000000 in
theorem wX5_level_119 {p : Program} {l : Launch} {e : Env} {R : Room} {s : State} {m : MethodId} {args : Array Value} {below : List Frame} {meth : Method} {c : Code} {Q : State → Prop} {D : va_G} {cI cJ cZ : ClassId} {ad : Nat → Nat} {A : Nat → Prop} (C : Cx p s m args c cX5_level 10 wsX5_level RX5 D vwCl (tyl cI cJ cZ) (wM cI cJ cZ ad) A R 2 51) {r : (Int32 × SH)} (hR : Ri p l e R s m args below meth c cX5_level D vwCl (wM cI cJ cZ ad) A Q r) (N : Nat) (k119 : Int32 → Int32 → Int32 → Int32 → Int32 → Int32 → SH → Option (Int32 × SH)) (K119 : ∀ (x1 : Int32) (x2 : Int32) (x4 : Int32) (x6 : Int32) (x7 : Int32) (x8 : Int32) (z : SH) (H : Heap) (locs : List Loc) (ls : Array Slot), k119 x1 x2 x4 x6 x7 x8 z = some r → va_P D vwCl (wM cI cJ cZ ad z) H → va_S A s.heap H locs → lv_has ls 10 [(0, .ref (ad 0)), (1, .int x1), (2, .int x2), (4, .int x4), (6, .int x6), (7, .int x7), (8, .int x8)] → W p l e R s m args below meth c H locs 0 0 Q (F0 m 119 ls [])) (x1 : Int32) (x2 : Int32) (x4 : Int32) (x6 : Int32) (x7 : Int32) (x8 : Int32) (z0 : SH) {H : Heap} {locs : List Loc} {ls : Array Slot} (h : fX5_level_119 N k119 x1 x2 x4 x6 x7 x8 z0 = some r) (hP : va_P D vwCl (wM cI cJ cZ ad z0) H) (hS : va_S A s.heap H locs) (hl : lv_has ls 10 [(0, .ref (ad 0)), (1, .int x1), (2, .int x2), (4, .int x4), (6, .int x6), (7, .int x7), (8, .int x8)]) : W p l e R s m args below meth c H locs 0 0 Q (F0 m 119 ls []) := by
  unfold fX5_level_119 at h
  have hx := C.1.1
  have hb := C.1.2.1
  refine lv_iload hx hb dX5_level_119 (lv_at hl 6 rfl) ?_
  refine lv_aload_n hx hb dX5_level_121 rfl (lv_at hl 0 rfl) ?_
  refine b_geti C hP h iX5_level_X5 0 (wM_0 cI cJ cZ ad z0) rfl 9 (by decide) fX5_level_i116 rfl rfl dX5_level_122 (fun v1 h => ?_)
  refine lv_icmp_ge (tgt := 196) hx hb dX5_level_125 (by decide) (fun c1 => ?_) (fun c1 => ?_)
  · replace h := (ite_h h).1 c1
    refine lv_iload hx hb dX5_level_196 (lv_at hl 5 rfl) ?_
    exact hR 198 _ _ _ _ _ (Option.some.inj h).symm dX5_level_198 hP hS
  · replace h := (ite_h h).2 c1
    refine lv_aload_n hx hb dX5_level_128 rfl (lv_at hl 0 rfl) ?_
    refine lv_iload hx hb dX5_level_129 (lv_at hl 6 rfl) ?_
    refine lv_iload_n hx hb dX5_level_131 rfl (lv_at hl 1 rfl) ?_
    refine lv_iload_n hx hb dX5_level_132 rfl (lv_at hl 2 rfl) ?_
    refine b_callVi (As := [.int x8, .int x1, .int x2]) (rest := []) C hP hS h (mX5_rests l D cI cJ cZ ad x8 x1 x2 z0) (cwV 3 C.1.2.2.2.2 gX5_level_X5_rests rfl rfl rfl (by decide +kernel) ⟨Nat.le_trans (Nat.le_of_ble_eq_true rfl) C.2.2.2.2.1, Nat.le_trans (Nat.le_of_ble_eq_true rfl) C.2.2.2.2.2⟩) (va_recv C.2.1 hP (ci := 5) (q0 := 0) rfl (wM_0 cI cJ cZ ad z0)) rfl hl.1 rfl (Nat.le_of_ble_eq_true rfl) dX5_level_133 (fun v3 z2 _ _ h hP hS => ?_)
    refine lv_if_eq (tgt := 155) hx hb dX5_level_136 (by decide) (fun c1 => ?_) (fun c1 => ?_)
    · replace h := (ite_h h).1 c1
      exact wX5_level_155 C hR N k119 K119 x1 x2 x4 x6 x7 x8 z2 h hP hS (lv_sub hl [0, 1, 2, 3, 4, 5, 6] rfl)
    · replace h := (ite_h h).2 c1
      refine lv_aload_n hx hb dX5_level_139 rfl (lv_at hl 0 rfl) ?_
      refine b_getr C hP iX5_level_X5 0 (wM_0 cI cJ cZ ad z2) rfl 14 (by decide) fX5_level_i45 rfl rfl dX5_level_140 ?_
      refine lv_iload hx hb dX5_level_143 (lv_at hl 6 rfl) ?_
      refine b_iald C hP h 12 (wM_12 cI cJ cZ ad z2) 0 rfl dX5_level_145 (fun v4 h => ?_)
      refine lv_iload hx hb dX5_level_146 (lv_at hl 4 rfl) ?_
      refine lv_icmp_ne (tgt := 155) hx hb dX5_level_148 (by decide) (fun c1 => ?_) (fun c1 => ?_)
      · replace h := (ite_h h).2 c1
        exact wX5_level_155 C hR N k119 K119 x1 x2 x4 x6 x7 x8 z2 h hP hS (lv_sub hl [0, 1, 2, 3, 4, 5, 6] rfl)
      · replace h := (ite_h h).1 c1
        refine lv_iconst (v := 1) hx hb dX5_level_151 (by decide) ?_
        refine lv_goto (tgt := 156) hx hb dX5_level_152 (by decide) ?_
        exact wX5_level_156 C hR N k119 K119 x1 x2 x4 x6 x7 x8 1 z2 h hP hS (lv_sub hl [0, 1, 2, 3, 4, 5, 6] rfl)
theorem wX5_level_119_L {p : Program} {l : Launch} {e : Env} {R : Room} {s : State} {m : MethodId} {args : Array Value} {below : List Frame} {meth : Method} {c : Code} {Q : State → Prop} {D : va_G} {cI cJ cZ : ClassId} {ad : Nat → Nat} {A : Nat → Prop} (C : Cx p s m args c cX5_level 10 wsX5_level RX5 D vwCl (tyl cI cJ cZ) (wM cI cJ cZ ad) A R 2 51) {r : (Int32 × SH)} (hR : Ri p l e R s m args below meth c cX5_level D vwCl (wM cI cJ cZ ad) A Q r) (N : Nat) : ∀ (n : Nat), ∀ (x1 : Int32) (x2 : Int32) (x4 : Int32) (x6 : Int32) (x7 : Int32) (x8 : Int32) (z : SH) (H : Heap) (locs : List Loc) (ls : Array Slot), fX5_level_119_L N n x1 x2 x4 x6 x7 x8 z = some r → va_P D vwCl (wM cI cJ cZ ad z) H → va_S A s.heap H locs → lv_has ls 10 [(0, .ref (ad 0)), (1, .int x1), (2, .int x2), (4, .int x4), (6, .int x6), (7, .int x7), (8, .int x8)] → W p l e R s m args below meth c H locs 0 0 Q (F0 m 119 ls []) := by
  intro n
  induction n with
  | zero => intro x1 x2 x4 x6 x7 x8 z H locs ls h; exact nomatch (show (none : Option (Int32 × SH)) = some r from h)
  | succ n ih => intro x1 x2 x4 x6 x7 x8 z H locs ls h hP hS hl; exact wX5_level_119 C hR N (fX5_level_119_L N n) ih x1 x2 x4 x6 x7 x8 z (show fX5_level_119 N (fX5_level_119_L N n) x1 x2 x4 x6 x7 x8 z = some r from h) hP hS hl
set_option maxRecDepth 100000 in
set_option maxHeartbeats 4000000 in
theorem wX5_level_84 {p : Program} {l : Launch} {e : Env} {R : Room} {s : State} {m : MethodId} {args : Array Value} {below : List Frame} {meth : Method} {c : Code} {Q : State → Prop} {D : va_G} {cI cJ cZ : ClassId} {ad : Nat → Nat} {A : Nat → Prop} (C : Cx p s m args c cX5_level 10 wsX5_level RX5 D vwCl (tyl cI cJ cZ) (wM cI cJ cZ ad) A R 2 51) {r : (Int32 × SH)} (hR : Ri p l e R s m args below meth c cX5_level D vwCl (wM cI cJ cZ ad) A Q r) (N : Nat) (x1 : Int32) (x2 : Int32) (x4 : Int32) (x6 : Int32) (t0 : Int32) (z0 : SH) {H : Heap} {locs : List Loc} {ls : Array Slot} (h : fX5_level_84 N x1 x2 x4 x6 t0 z0 = some r) (hP : va_P D vwCl (wM cI cJ cZ ad z0) H) (hS : va_S A s.heap H locs) (hl : lv_has ls 10 [(0, .ref (ad 0)), (1, .int x1), (2, .int x2), (4, .int x4), (6, .int x6)]) : W p l e R s m args below meth c H locs 0 0 Q (F0 m 84 ls [.int t0, .ref (ad 0)]) := by
  unfold fX5_level_84 at h
  have hx := C.1.1
  have hb := C.1.2.1
  refine b_puti C hP hS h iX5_level_X5 tyX5 tyX5_ok nmX5 0 (wM_0 cI cJ cZ ad z0) rfl 0 (by decide) fX5_level_i93 rfl rfl rfl (Nat.le_of_ble_eq_true rfl) (wM_si0 cI cJ cZ ad z0 _) dX5_level_84 (fun z1 _ _ h hP hS => ?_)
  refine lv_aload_n hx hb dX5_level_87 rfl (lv_at hl 0 rfl) ?_
  refine b_geti C hP h iX5_level_X5 0 (wM_0 cI cJ cZ ad z1) rfl 0 (by decide) fX5_level_i93 rfl rfl dX5_level_88 (fun v2 h => ?_)
  refine lv_if_gt (tgt := 99) hx hb dX5_level_91 (by decide) (fun c1 => ?_) (fun c1 => ?_)
  · replace h := (ite_h h).1 c1
    exact wX5_level_99 C hR N x6 z1 h hP hS (lv_sub hl [0, 4] rfl)
  · replace h := (ite_h h).2 c1
    refine lv_iload hx hb dX5_level_94 (lv_at hl 3 rfl) ?_
    refine lv_if_ne (tgt := 113) hx hb dX5_level_96 (by decide) (fun c1 => ?_) (fun c1 => ?_)
    · replace h := (ite_h h).2 c1
      refine lv_iconst (v := 0) hx hb dX5_level_113 (by decide) ?_
      refine lv_istore (lv' := [(7, .int 0), (0, .ref (ad 0)), (1, .int x1), (2, .int x2), (4, .int x4), (6, .int x6)]) hx hb dX5_level_114 hl (by decide) rfl (fun ls hl => ?_)
      refine lv_iconst (v := 0) hx hb dX5_level_116 (by decide) ?_
      refine lv_istore (lv' := [(8, .int 0), (7, .int 0), (0, .ref (ad 0)), (1, .int x1), (2, .int x2), (4, .int x4), (6, .int x6)]) hx hb dX5_level_117 hl (by decide) rfl (fun ls hl => ?_)
      exact wX5_level_119_L C hR N N x1 x2 x4 x6 0 0 z1 _ _ _ h hP hS (lv_sub hl [2, 3, 4, 5, 6, 1, 0] rfl)
    · replace h := (ite_h h).1 c1
      exact wX5_level_99 C hR N x6 z1 h hP hS (lv_sub hl [0, 4] rfl)
set_option maxRecDepth 100000 in
set_option maxHeartbeats 4000000 in
theorem wX5_level_60 {p : Program} {l : Launch} {e : Env} {R : Room} {s : State} {m : MethodId} {args : Array Value} {below : List Frame} {meth : Method} {c : Code} {Q : State → Prop} {D : va_G} {cI cJ cZ : ClassId} {ad : Nat → Nat} {A : Nat → Prop} (C : Cx p s m args c cX5_level 10 wsX5_level RX5 D vwCl (tyl cI cJ cZ) (wM cI cJ cZ ad) A R 2 51) {r : (Int32 × SH)} (hR : Ri p l e R s m args below meth c cX5_level D vwCl (wM cI cJ cZ ad) A Q r) (N : Nat) (x1 : Int32) (x2 : Int32) (x4 : Int32) (x6 : Int32) (z0 : SH) {H : Heap} {locs : List Loc} {ls : Array Slot} (h : fX5_level_60 N x1 x2 x4 x6 z0 = some r) (hP : va_P D vwCl (wM cI cJ cZ ad z0) H) (hS : va_S A s.heap H locs) (hl : lv_has ls 10 [(0, .ref (ad 0)), (1, .int x1), (2, .int x2), (4, .int x4), (6, .int x6)]) : W p l e R s m args below meth c H locs 0 0 Q (F0 m 60 ls [.ref (ad 0)]) := by
  unfold fX5_level_60 at h
  have hx := C.1.1
  have hb := C.1.2.1
  refine lv_iconst (v := 1) hx hb dX5_level_60 (by decide) ?_
  refine lv_goto (tgt := 84) hx hb dX5_level_61 (by decide) ?_
  exact wX5_level_84 C hR N x1 x2 x4 x6 1 z0 h hP hS (lv_sub hl [0, 1, 2, 3, 4] rfl)
set_option maxRecDepth 100000 in
set_option maxHeartbeats 4000000 in
theorem wX5_level_79 {p : Program} {l : Launch} {e : Env} {R : Room} {s : State} {m : MethodId} {args : Array Value} {below : List Frame} {meth : Method} {c : Code} {Q : State → Prop} {D : va_G} {cI cJ cZ : ClassId} {ad : Nat → Nat} {A : Nat → Prop} (C : Cx p s m args c cX5_level 10 wsX5_level RX5 D vwCl (tyl cI cJ cZ) (wM cI cJ cZ ad) A R 2 51) {r : (Int32 × SH)} (hR : Ri p l e R s m args below meth c cX5_level D vwCl (wM cI cJ cZ ad) A Q r) (N : Nat) (x1 : Int32) (x2 : Int32) (x4 : Int32) (x6 : Int32) (z0 : SH) {H : Heap} {locs : List Loc} {ls : Array Slot} (h : fX5_level_79 N x1 x2 x4 x6 z0 = some r) (hP : va_P D vwCl (wM cI cJ cZ ad z0) H) (hS : va_S A s.heap H locs) (hl : lv_has ls 10 [(0, .ref (ad 0)), (1, .int x1), (2, .int x2), (4, .int x4), (6, .int x6)]) : W p l e R s m args below meth c H locs 0 0 Q (F0 m 79 ls [.ref (ad 0)]) := by
  unfold fX5_level_79 at h
  have hx := C.1.1
  have hb := C.1.2.1
  refine lv_iconst (v := 2) hx hb dX5_level_79 (by decide) ?_
  refine lv_goto (tgt := 84) hx hb dX5_level_80 (by decide) ?_
  exact wX5_level_84 C hR N x1 x2 x4 x6 2 z0 h hP hS (lv_sub hl [0, 1, 2, 3, 4] rfl)
set_option maxRecDepth 100000 in
set_option maxHeartbeats 4000000 in
theorem wX5_level_64 {p : Program} {l : Launch} {e : Env} {R : Room} {s : State} {m : MethodId} {args : Array Value} {below : List Frame} {meth : Method} {c : Code} {Q : State → Prop} {D : va_G} {cI cJ cZ : ClassId} {ad : Nat → Nat} {A : Nat → Prop} (C : Cx p s m args c cX5_level 10 wsX5_level RX5 D vwCl (tyl cI cJ cZ) (wM cI cJ cZ ad) A R 2 51) {r : (Int32 × SH)} (hR : Ri p l e R s m args below meth c cX5_level D vwCl (wM cI cJ cZ ad) A Q r) (N : Nat) (x1 : Int32) (x2 : Int32) (x4 : Int32) (x5 : Int32) (x6 : Int32) (z0 : SH) {H : Heap} {locs : List Loc} {ls : Array Slot} (h : fX5_level_64 N x1 x2 x4 x5 x6 z0 = some r) (hP : va_P D vwCl (wM cI cJ cZ ad z0) H) (hS : va_S A s.heap H locs) (hl : lv_has ls 10 [(0, .ref (ad 0)), (1, .int x1), (2, .int x2), (4, .int x4), (5, .int x5), (6, .int x6)]) : W p l e R s m args below meth c H locs 0 0 Q (F0 m 64 ls [.ref (ad 0)]) := by
  unfold fX5_level_64 at h
  have hx := C.1.1
  have hb := C.1.2.1
  refine lv_iload hx hb dX5_level_64 (lv_at hl 4 rfl) ?_
  refine lv_if_eq (tgt := 79) hx hb dX5_level_66 (by decide) (fun c1 => ?_) (fun c1 => ?_)
  · replace h := (ite_h h).1 c1
    exact wX5_level_79 C hR N x1 x2 x4 x6 z0 h hP hS (lv_sub hl [0, 1, 2, 3, 5] rfl)
  · replace h := (ite_h h).2 c1
    refine lv_iload hx hb dX5_level_69 (lv_at hl 3 rfl) ?_
    refine lv_iconst (v := 0) hx hb dX5_level_71 (by decide) ?_
    refine lv_iconst (v := 2) hx hb dX5_level_72 (by decide) ?_
    refine b_callSi (As := [.int x4, .int 0, .int 2]) (rest := [.ref (ad 0)]) C hP hS h (mX5_isIn l D cI cJ cZ ad x4 0 2 z0) (va_cwS 3 C.1.2.2.2.2 gX5_level_X5_isIn rfl rfl rfl (by decide +kernel) ⟨Nat.le_trans (Nat.le_of_ble_eq_true rfl) C.2.2.2.2.1, Nat.le_trans (Nat.le_of_ble_eq_true rfl) C.2.2.2.2.2⟩) rfl hl.1 rfl (Nat.le_of_ble_eq_true rfl) dX5_level_73 (fun v2 z1 _ _ h hP hS => ?_)
    refine lv_if_ne (tgt := 83) hx hb dX5_level_76 (by decide) (fun c1 => ?_) (fun c1 => ?_)
    · replace h := (ite_h h).2 c1
      refine lv_iconst (v := 0) hx hb dX5_level_83 (by decide) ?_
      exact wX5_level_84 C hR N x1 x2 x4 x6 0 z1 h hP hS (lv_sub hl [0, 1, 2, 3, 5] rfl)
    · replace h := (ite_h h).1 c1
      exact wX5_level_79 C hR N x1 x2 x4 x6 z1 h hP hS (lv_sub hl [0, 1, 2, 3, 5] rfl)
set_option maxRecDepth 100000 in
set_option maxHeartbeats 4000000 in
theorem wX5_level_35 {p : Program} {l : Launch} {e : Env} {R : Room} {s : State} {m : MethodId} {args : Array Value} {below : List Frame} {meth : Method} {c : Code} {Q : State → Prop} {D : va_G} {cI cJ cZ : ClassId} {ad : Nat → Nat} {A : Nat → Prop} (C : Cx p s m args c cX5_level 10 wsX5_level RX5 D vwCl (tyl cI cJ cZ) (wM cI cJ cZ ad) A R 2 51) {r : (Int32 × SH)} (hR : Ri p l e R s m args below meth c cX5_level D vwCl (wM cI cJ cZ ad) A Q r) (N : Nat) (x1 : Int32) (x2 : Int32) (x3 : Int32) (x4 : Int32) (x5 : Int32) (t0 : Int32) (z0 : SH) {H : Heap} {locs : List Loc} {ls : Array Slot} (h : fX5_level_35 N x1 x2 x3 x4 x5 t0 z0 = some r) (hP : va_P D vwCl (wM cI cJ cZ ad z0) H) (hS : va_S A s.heap H locs) (hl : lv_has ls 10 [(0, .ref (ad 0)), (1, .int x1), (2, .int x2), (3, .int x3), (4, .int x4), (5, .int x5)]) : W p l e R s m args below meth c H locs 0 0 Q (F0 m 35 ls [.int t0]) := by
  unfold fX5_level_35 at h
  have hx := C.1.1
  have hb := C.1.2.1
  refine lv_istore (lv' := [(6, .int t0), (0, .ref (ad 0)), (1, .int x1), (2, .int x2), (3, .int x3), (4, .int x4), (5, .int x5)]) hx hb dX5_level_35 hl (by decide) rfl (fun ls hl => ?_)
  refine lv_aload_n hx hb dX5_level_37 rfl (lv_at hl 1 rfl) ?_
  refine lv_iload_n hx hb dX5_level_38 rfl (lv_at hl 2 rfl) ?_
  refine b_callSi (As := [.int x1]) (rest := [.ref (ad 0)]) C hP hS h (mX5_isSymbol l D cI cJ cZ ad x1 z0) (va_cwS 1 C.1.2.2.2.2 gX5_level_X5_isSymbol rfl rfl rfl (by decide +kernel) ⟨Nat.le_trans (Nat.le_of_ble_eq_true rfl) C.2.2.2.2.1, Nat.le_trans (Nat.le_of_ble_eq_true rfl) C.2.2.2.2.2⟩) rfl hl.1 rfl (Nat.le_of_ble_eq_true rfl) dX5_level_39 (fun v2 z1 _ _ h hP hS => ?_)
  refine lv_if_eq (tgt := 60) hx hb dX5_level_42 (by decide) (fun c1 => ?_) (fun c1 => ?_)
  · replace h := (ite_h h).1 c1
    exact wX5_level_60 C hR N x1 x2 x4 t0 z1 h hP hS (lv_sub hl [1, 2, 3, 5, 0] rfl)
  · replace h := (ite_h h).2 c1
    refine lv_iload_n hx hb dX5_level_45 rfl (lv_at hl 4 rfl) ?_
    refine lv_if_lt (tgt := 60) hx hb dX5_level_46 (by decide) (fun c1 => ?_) (fun c1 => ?_)
    · replace h := (ite_h h).1 c1
      exact wX5_level_60 C hR N x1 x2 x4 t0 z1 h hP hS (lv_sub hl [1, 2, 3, 5, 0] rfl)
    · replace h := (ite_h h).2 c1
      refine lv_iload hx hb dX5_level_49 (lv_at hl 6 rfl) ?_
      refine lv_if_eq (tgt := 64) hx hb dX5_level_51 (by decide) (fun c1 => ?_) (fun c1 => ?_)
      · replace h := (ite_h h).1 c1
        exact wX5_level_64 C hR N x1 x2 x4 x5 t0 z1 h hP hS (lv_sub hl [1, 2, 3, 5, 6, 0] rfl)
      · replace h := (ite_h h).2 c1
        refine lv_iload hx hb dX5_level_54 (lv_at hl 0 rfl) ?_
        refine lv_iconst (v := -1) hx hb dX5_level_56 (by decide) ?_
        refine lv_icmp_ne (tgt := 64) hx hb dX5_level_57 (by decide) (fun c1 => ?_) (fun c1 => ?_)
        · replace h := (ite_h h).2 c1
          exact wX5_level_64 C hR N x1 x2 x4 x5 t0 z1 h hP hS (lv_sub hl [1, 2, 3, 5, 6, 0] rfl)
        · replace h := (ite_h h).1 c1
          exact wX5_level_60 C hR N x1 x2 x4 t0 z1 h hP hS (lv_sub hl [1, 2, 3, 5, 0] rfl)
set_option maxRecDepth 100000 in
set_option maxHeartbeats 4000000 in
theorem wX5_level_34 {p : Program} {l : Launch} {e : Env} {R : Room} {s : State} {m : MethodId} {args : Array Value} {below : List Frame} {meth : Method} {c : Code} {Q : State → Prop} {D : va_G} {cI cJ cZ : ClassId} {ad : Nat → Nat} {A : Nat → Prop} (C : Cx p s m args c cX5_level 10 wsX5_level RX5 D vwCl (tyl cI cJ cZ) (wM cI cJ cZ ad) A R 2 51) {r : (Int32 × SH)} (hR : Ri p l e R s m args below meth c cX5_level D vwCl (wM cI cJ cZ ad) A Q r) (N : Nat) (x1 : Int32) (x2 : Int32) (x3 : Int32) (x4 : Int32) (x5 : Int32) (z0 : SH) {H : Heap} {locs : List Loc} {ls : Array Slot} (h : fX5_level_34 N x1 x2 x3 x4 x5 z0 = some r) (hP : va_P D vwCl (wM cI cJ cZ ad z0) H) (hS : va_S A s.heap H locs) (hl : lv_has ls 10 [(0, .ref (ad 0)), (1, .int x1), (2, .int x2), (3, .int x3), (4, .int x4), (5, .int x5)]) : W p l e R s m args below meth c H locs 0 0 Q (F0 m 34 ls []) := by
  unfold fX5_level_34 at h
  have hx := C.1.1
  have hb := C.1.2.1
  refine lv_iconst (v := -1) hx hb dX5_level_34 (by decide) ?_
  exact wX5_level_35 C hR N x1 x2 x3 x4 x5 ((-1)) z0 h hP hS (lv_sub hl [0, 1, 2, 3, 4, 5] rfl)
set_option maxRecDepth 100000 in
set_option maxHeartbeats 4000000 in
theorem wX5_level {p : Program} {l : Launch} {e : Env} {R : Room} {s : State} {m : MethodId} {args : Array Value} {below : List Frame} {meth : Method} {c : Code} {Q : State → Prop} {D : va_G} {cI cJ cZ : ClassId} {ad : Nat → Nat} {A : Nat → Prop} (C : Cx p s m args c cX5_level 10 wsX5_level RX5 D vwCl (tyl cI cJ cZ) (wM cI cJ cZ ad) A R 2 51) {r : (Int32 × SH)} (hR : Ri p l e R s m args below meth c cX5_level D vwCl (wM cI cJ cZ ad) A Q r) (N : Nat) (a1 : Int32) (a2 : Int32) (a3 : Int32) (a4 : Int32) (z0 : SH) {H : Heap} {locs : List Loc} {ls : Array Slot} (h : fX5_level N a1 a2 a3 a4 z0 = some r) (hP : va_P D vwCl (wM cI cJ cZ ad z0) H) (hS : va_S A s.heap H locs) (hl : lv_has ls 10 [(0, .ref (ad 0)), (1, .int a1), (2, .int a2), (3, .int a3), (4, .int a4)]) : W p l e R s m args below meth c H locs 0 0 Q (F0 m 0 ls []) := by
  unfold fX5_level at h
  have hx := C.1.1
  have hb := C.1.2.1
  refine lv_iload_n hx hb dX5_level_0 rfl (lv_at hl 2 rfl) ?_
  refine lv_iconst (v := 0) hx hb dX5_level_1 (by decide) ?_
  refine lv_iconst (v := 1) hx hb dX5_level_2 (by decide) ?_
  refine b_callSi (As := [.int a2, .int 0, .int 1]) (rest := []) C hP hS h (mX5_isIn l D cI cJ cZ ad a2 0 1 z0) (va_cwS 3 C.1.2.2.2.2 gX5_level_X5_isIn rfl rfl rfl (by decide +kernel) ⟨Nat.le_trans (Nat.le_of_ble_eq_true rfl) C.2.2.2.2.1, Nat.le_trans (Nat.le_of_ble_eq_true rfl) C.2.2.2.2.2⟩) rfl hl.1 rfl (Nat.le_of_ble_eq_true rfl) dX5_level_3 (fun v2 z1 _ _ h hP hS => ?_)
  refine lv_istore (lv' := [(5, .int v2), (0, .ref (ad 0)), (1, .int a1), (2, .int a2), (3, .int a3), (4, .int a4)]) hx hb dX5_level_6 hl (by decide) rfl (fun ls hl => ?_)
  refine lv_iload_n hx hb dX5_level_8 rfl (lv_at hl 2 rfl) ?_
  refine b_callSi (As := [.int a1]) (rest := []) C hP hS h (mX5_isSymbol l D cI cJ cZ ad a1 z1) (va_cwS 1 C.1.2.2.2.2 gX5_level_X5_isSymbol rfl rfl rfl (by decide +kernel) ⟨Nat.le_trans (Nat.le_of_ble_eq_true rfl) C.2.2.2.2.1, Nat.le_trans (Nat.le_of_ble_eq_true rfl) C.2.2.2.2.2⟩) rfl hl.1 rfl (Nat.le_of_ble_eq_true rfl) dX5_level_9 (fun v4 z3 _ _ h hP hS => ?_)
  refine lv_if_eq (tgt := 34) hx hb dX5_level_12 (by decide) (fun c1 => ?_) (fun c1 => ?_)
  · replace h := (ite_h h).1 c1
    exact wX5_level_34 C hR N a1 a2 a3 a4 v2 z3 h hP hS (lv_sub hl [1, 2, 3, 4, 5, 0] rfl)
  · replace h := (ite_h h).2 c1
    refine lv_iload hx hb dX5_level_15 (lv_at hl 0 rfl) ?_
    refine lv_if_eq (tgt := 34) hx hb dX5_level_17 (by decide) (fun c1 => ?_) (fun c1 => ?_)
    · replace h := (ite_h h).1 c1
      exact wX5_level_34 C hR N a1 a2 a3 a4 v2 z3 h hP hS (lv_sub hl [1, 2, 3, 4, 5, 0] rfl)
    · replace h := (ite_h h).2 c1
      refine lv_iload_n hx hb dX5_level_20 rfl (lv_at hl 4 rfl) ?_
      refine lv_if_lt (tgt := 34) hx hb dX5_level_21 (by decide) (fun c1 => ?_) (fun c1 => ?_)
      · replace h := (ite_h h).1 c1
        exact wX5_level_34 C hR N a1 a2 a3 a4 v2 z3 h hP hS (lv_sub hl [1, 2, 3, 4, 5, 0] rfl)
      · replace h := (ite_h h).2 c1
        refine lv_aload_n hx hb dX5_level_24 rfl (lv_at hl 1 rfl) ?_
        refine lv_iload_n hx hb dX5_level_25 rfl (lv_at hl 2 rfl) ?_
        refine lv_iload_n hx hb dX5_level_26 rfl (lv_at hl 3 rfl) ?_
        refine lv_iload_n hx hb dX5_level_27 rfl (lv_at hl 4 rfl) ?_
        refine b_callVi (As := [.int a1, .int a2, .int a3]) (rest := []) C hP hS h (mX5_priceAt l D cI cJ cZ ad N a1 a2 a3 z3) (cwV 3 C.1.2.2.2.2 gX5_level_X5_priceAt rfl rfl rfl (by decide +kernel) ⟨Nat.le_trans (Nat.le_of_ble_eq_true rfl) C.2.2.2.2.1, Nat.le_trans (Nat.le_of_ble_eq_true rfl) C.2.2.2.2.2⟩) (va_recv C.2.1 hP (ci := 5) (q0 := 0) rfl (wM_0 cI cJ cZ ad z3)) rfl hl.1 rfl (Nat.le_of_ble_eq_true rfl) dX5_level_28 (fun v6 z5 _ _ h hP hS => ?_)
        refine lv_goto (tgt := 35) hx hb dX5_level_31 (by decide) ?_
        exact wX5_level_35 C hR N a1 a2 a3 a4 v2 v6 z5 h hP hS (lv_sub hl [1, 2, 3, 4, 5, 0] rfl)
theorem mX5_level (l : Launch) (D : va_G) (cI cJ cZ : ClassId) (ad : Nat → Nat) (N : Nat) (a1 : Int32) (a2 : Int32) (a3 : Int32) (a4 : Int32) (z0 : SH) : ∀ (q : (Int32 × SH)) (sz : Nat), fX5_level N a1 a2 a3 a4 z0 = some q → Met l yX5_level wsX5_level rmX5_level (cP D vwCl (tyl cI cJ cZ) (wM cI cJ cZ ad z0) sz [.ref (ad 0), .int a1, .int a2, .int a3, .int a4]) (cQi D vwCl (wM cI cJ cZ ad) z0 sz q) 0 0 (va_A (wM cI cJ cZ ad z0) sz) := by
  intro q sz h
  refine ofW_i (cc := cX5_level) (maxL := 10) (by decide) rfl (wM_same cI cJ cZ ad) (Nat.le_of_ble_eq_true rfl) (fun p e s m below meth c ls hsz C hR hP hl => ?_)
  exact wX5_level C hR N a1 a2 a3 a4 z0 h hP va_S.rf hl
abbrev rmX5_about : Room := { frames := 1, cells := 0, slots := 0, locals := 22 }
theorem fX5_about_i116 : Cond.fieldLink RX5 116 (TX5 9).1 (TX5 9).2.1 (TX5 9).2.2.1 ∈ wsX5_about := by decide +kernel
theorem fX5_about_i33 : Cond.fieldLink RX5 33 (TX5 10).1 (TX5 10).2.1 (TX5 10).2.2.1 ∈ wsX5_about := by decide +kernel
theorem fX5_about_i48 : Cond.fieldLink RX5 48 (TX5 15).1 (TX5 15).2.1 (TX5 15).2.2.1 ∈ wsX5_about := by decide +kernel
theorem fX5_about_i51 : Cond.fieldLink RX5 51 (TX5 16).1 (TX5 16).2.1 (TX5 16).2.2.1 ∈ wsX5_about := by decide +kernel
theorem fX5_about_i57 : Cond.fieldLink RX5 57 (TX5 18).1 (TX5 18).2.1 (TX5 18).2.2.1 ∈ wsX5_about := by decide +kernel
theorem fX5_about_i60 : Cond.fieldLink RX5 60 (TX5 19).1 (TX5 19).2.1 (TX5 19).2.2.1 ∈ wsX5_about := by decide +kernel
theorem fX5_about_i63 : Cond.fieldLink RX5 63 (TX5 20).1 (TX5 20).2.1 (TX5 20).2.2.1 ∈ wsX5_about := by decide +kernel
theorem fX5_about_i93 : Cond.fieldLink RX5 93 (TX5 0).1 (TX5 0).2.1 (TX5 0).2.2.1 ∈ wsX5_about := by decide +kernel
theorem iX5_about_X5 : ∀ x ∈ wsX50, x ∈ wsX5_about := by decide +kernel
set_option maxRecDepth 100000 in
set_option maxHeartbeats 4000000 in
theorem wX5_about_133 {p : Program} {l : Launch} {e : Env} {R : Room} {s : State} {m : MethodId} {args : Array Value} {below : List Frame} {meth : Method} {c : Code} {Q : State → Prop} {D : va_G} {cI cJ cZ : ClassId} {ad : Nat → Nat} {A : Nat → Prop} (C : Cx p s m args c cX5_about 3 wsX5_about RX5 D vwCl (tyl cI cJ cZ) (wM cI cJ cZ ad) A R 1 22) {r : (Int32 × SH)} (hR : Ri p l e R s m args below meth c cX5_about D vwCl (wM cI cJ cZ ad) A Q r) (t0 : Int32) (z0 : SH) {H : Heap} {locs : List Loc} {ls : Array Slot} (h : fX5_about_133 t0 z0 = some r) (hP : va_P D vwCl (wM cI cJ cZ ad z0) H) (hS : va_S A s.heap H locs) (hl : lv_has ls 3 []) : W p l e R s m args below meth c H locs 0 0 Q (F0 m 133 ls [.int t0]) := by
  unfold fX5_about_133 at h
  have hx := C.1.1
  have hb := C.1.2.1
  exact hR 133 _ _ _ _ _ (Option.some.inj h).symm dX5_about_133 hP hS
set_option maxRecDepth 100000 in
set_option maxHeartbeats 4000000 in
theorem wX5_about_33 {p : Program} {l : Launch} {e : Env} {R : Room} {s : State} {m : MethodId} {args : Array Value} {below : List Frame} {meth : Method} {c : Code} {Q : State → Prop} {D : va_G} {cI cJ cZ : ClassId} {ad : Nat → Nat} {A : Nat → Prop} (C : Cx p s m args c cX5_about 3 wsX5_about RX5 D vwCl (tyl cI cJ cZ) (wM cI cJ cZ ad) A R 1 22) {r : (Int32 × SH)} (hR : Ri p l e R s m args below meth c cX5_about D vwCl (wM cI cJ cZ ad) A Q r) (x1 : Int32) (x2 : Int32) (t0 : Int32) (z0 : SH) {H : Heap} {locs : List Loc} {ls : Array Slot} (h : fX5_about_33 x1 x2 t0 z0 = some r) (hP : va_P D vwCl (wM cI cJ cZ ad z0) H) (hS : va_S A s.heap H locs) (hl : lv_has ls 3 [(0, .ref (ad 0)), (1, .int x1), (2, .int x2)]) : W p l e R s m args below meth c H locs 0 0 Q (F0 m 33 ls [.int t0, .ref (ad 0)]) := by
  unfold fX5_about_33 at h
  have hx := C.1.1
  have hb := C.1.2.1
  refine b_puti C hP hS h iX5_about_X5 tyX5 tyX5_ok nmX5 0 (wM_0 cI cJ cZ ad z0) rfl 0 (by decide) fX5_about_i93 rfl rfl rfl (Nat.le_of_ble_eq_true rfl) (wM_si0 cI cJ cZ ad z0 _) dX5_about_33 (fun z1 _ _ h hP hS => ?_)
  refine lv_aload_n hx hb dX5_about_36 rfl (lv_at hl 0 rfl) ?_
  refine b_geti C hP h iX5_about_X5 0 (wM_0 cI cJ cZ ad z1) rfl 0 (by decide) fX5_about_i93 rfl rfl dX5_about_37 (fun v2 h => ?_)
  refine lv_if_le (tgt := 45) hx hb dX5_about_40 (by decide) (fun c1 => ?_) (fun c1 => ?_)
  · replace h := (ite_h h).1 c1
    refine lv_iload_n hx hb dX5_about_45 rfl (lv_at hl 2 rfl) ?_
    refine lv_if_ne (tgt := 58) hx hb dX5_about_46 (by decide) (fun c1 => ?_) (fun c1 => ?_)
    · replace h := (ite_h h).2 c1
      refine lv_iload_n hx hb dX5_about_58 rfl (lv_at hl 2 rfl) ?_
      refine lv_iconst (v := 1) hx hb dX5_about_59 (by decide) ?_
      refine lv_icmp_ne (tgt := 72) hx hb dX5_about_60 (by decide) (fun c1 => ?_) (fun c1 => ?_)
      · replace h := (ite_h h).2 c1
        refine lv_iload_n hx hb dX5_about_72 rfl (lv_at hl 2 rfl) ?_
        refine lv_iconst (v := 2) hx hb dX5_about_73 (by decide) ?_
        refine lv_icmp_ne (tgt := 99) hx hb dX5_about_74 (by decide) (fun c1 => ?_) (fun c1 => ?_)
        · replace h := (ite_h h).2 c1
          refine lv_iload_n hx hb dX5_about_99 rfl (lv_at hl 2 rfl) ?_
          refine lv_iconst (v := 3) hx hb dX5_about_100 (by decide) ?_
          refine lv_icmp_ne (tgt := 113) hx hb dX5_about_101 (by decide) (fun c1 => ?_) (fun c1 => ?_)
          · replace h := (ite_h h).2 c1
            refine lv_iload_n hx hb dX5_about_113 rfl (lv_at hl 2 rfl) ?_
            refine lv_iconst (v := 4) hx hb dX5_about_114 (by decide) ?_
            refine lv_icmp_ne (tgt := 127) hx hb dX5_about_115 (by decide) (fun c1 => ?_) (fun c1 => ?_)
            · replace h := (ite_h h).2 c1
              refine lv_aload_n hx hb dX5_about_127 rfl (lv_at hl 0 rfl) ?_
              refine b_getr C hP iX5_about_X5 0 (wM_0 cI cJ cZ ad z1) rfl 20 (by decide) fX5_about_i63 rfl rfl dX5_about_128 ?_
              refine lv_iload_n hx hb dX5_about_131 rfl (lv_at hl 1 rfl) ?_
              refine b_iald C hP h 18 (wM_18 cI cJ cZ ad z1) 0 rfl dX5_about_132 (fun v3 h => ?_)
              exact wX5_about_133 C hR v3 z1 h hP hS (lv_sub hl [] rfl)
            · replace h := (ite_h h).1 c1
              refine lv_aload_n hx hb dX5_about_118 rfl (lv_at hl 0 rfl) ?_
              refine b_getr C hP iX5_about_X5 0 (wM_0 cI cJ cZ ad z1) rfl 19 (by decide) fX5_about_i60 rfl rfl dX5_about_119 ?_
              refine lv_iload_n hx hb dX5_about_122 rfl (lv_at hl 1 rfl) ?_
              refine b_iald C hP h 17 (wM_17 cI cJ cZ ad z1) 0 rfl dX5_about_123 (fun v4 h => ?_)
              refine lv_goto (tgt := 133) hx hb dX5_about_124 (by decide) ?_
              exact wX5_about_133 C hR v4 z1 h hP hS (lv_sub hl [] rfl)
          · replace h := (ite_h h).1 c1
            refine lv_aload_n hx hb dX5_about_104 rfl (lv_at hl 0 rfl) ?_
            refine b_getr C hP iX5_about_X5 0 (wM_0 cI cJ cZ ad z1) rfl 18 (by decide) fX5_about_i57 rfl rfl dX5_about_105 ?_
            refine lv_iload_n hx hb dX5_about_108 rfl (lv_at hl 1 rfl) ?_
            refine b_iald C hP h 16 (wM_16 cI cJ cZ ad z1) 0 rfl dX5_about_109 (fun v5 h => ?_)
            refine lv_goto (tgt := 133) hx hb dX5_about_110 (by decide) ?_
            exact wX5_about_133 C hR v5 z1 h hP hS (lv_sub hl [] rfl)
        · replace h := (ite_h h).1 c1
          refine lv_aload_n hx hb dX5_about_77 rfl (lv_at hl 0 rfl) ?_
          refine b_getr C hP iX5_about_X5 0 (wM_0 cI cJ cZ ad z1) rfl 18 (by decide) fX5_about_i57 rfl rfl dX5_about_78 ?_
          refine lv_iload_n hx hb dX5_about_81 rfl (lv_at hl 1 rfl) ?_
          refine b_iald C hP h 16 (wM_16 cI cJ cZ ad z1) 0 rfl dX5_about_82 (fun v6 h => ?_)
          refine lv_if_ne (tgt := 95) hx hb dX5_about_83 (by decide) (fun c1 => ?_) (fun c1 => ?_)
          · replace h := (ite_h h).2 c1
            refine lv_iconst (v := 0) hx hb dX5_about_95 (by decide) ?_
            refine lv_goto (tgt := 133) hx hb dX5_about_96 (by decide) ?_
            exact wX5_about_133 C hR 0 z1 h hP hS (lv_sub hl [] rfl)
          · replace h := (ite_h h).1 c1
            refine lv_aload_n hx hb dX5_about_86 rfl (lv_at hl 0 rfl) ?_
            refine b_getr C hP iX5_about_X5 0 (wM_0 cI cJ cZ ad z1) rfl 16 (by decide) fX5_about_i51 rfl rfl dX5_about_87 ?_
            refine lv_iload_n hx hb dX5_about_90 rfl (lv_at hl 1 rfl) ?_
            refine b_iald C hP h 14 (wM_14 cI cJ cZ ad z1) 0 rfl dX5_about_91 (fun v7 h => ?_)
            refine lv_goto (tgt := 133) hx hb dX5_about_92 (by decide) ?_
            exact wX5_about_133 C hR v7 z1 h hP hS (lv_sub hl [] rfl)
      · replace h := (ite_h h).1 c1
        refine lv_aload_n hx hb dX5_about_63 rfl (lv_at hl 0 rfl) ?_
        refine b_getr C hP iX5_about_X5 0 (wM_0 cI cJ cZ ad z1) rfl 15 (by decide) fX5_about_i48 rfl rfl dX5_about_64 ?_
        refine lv_iload_n hx hb dX5_about_67 rfl (lv_at hl 1 rfl) ?_
        refine b_iald C hP h 13 (wM_13 cI cJ cZ ad z1) 0 rfl dX5_about_68 (fun v8 h => ?_)
        refine lv_goto (tgt := 133) hx hb dX5_about_69 (by decide) ?_
        exact wX5_about_133 C hR v8 z1 h hP hS (lv_sub hl [] rfl)
    · replace h := (ite_h h).1 c1
      refine lv_aload_n hx hb dX5_about_49 rfl (lv_at hl 0 rfl) ?_
      refine b_getr C hP iX5_about_X5 0 (wM_0 cI cJ cZ ad z1) rfl 10 (by decide) fX5_about_i33 rfl rfl dX5_about_50 ?_
      refine lv_iload_n hx hb dX5_about_53 rfl (lv_at hl 1 rfl) ?_
      refine b_iald C hP h 8 (wM_8 cI cJ cZ ad z1) 0 rfl dX5_about_54 (fun v9 h => ?_)
      refine lv_goto (tgt := 133) hx hb dX5_about_55 (by decide) ?_
      exact wX5_about_133 C hR v9 z1 h hP hS (lv_sub hl [] rfl)
  · replace h := (ite_h h).2 c1
    refine lv_iconst (v := 0) hx hb dX5_about_43 (by decide) ?_
    exact hR 44 _ _ _ _ _ (Option.some.inj h).symm dX5_about_44 hP hS
set_option maxRecDepth 100000 in
set_option maxHeartbeats 4000000 in
theorem wX5_about {p : Program} {l : Launch} {e : Env} {R : Room} {s : State} {m : MethodId} {args : Array Value} {below : List Frame} {meth : Method} {c : Code} {Q : State → Prop} {D : va_G} {cI cJ cZ : ClassId} {ad : Nat → Nat} {A : Nat → Prop} (C : Cx p s m args c cX5_about 3 wsX5_about RX5 D vwCl (tyl cI cJ cZ) (wM cI cJ cZ ad) A R 1 22) {r : (Int32 × SH)} (hR : Ri p l e R s m args below meth c cX5_about D vwCl (wM cI cJ cZ ad) A Q r) (a1 : Int32) (a2 : Int32) (z0 : SH) {H : Heap} {locs : List Loc} {ls : Array Slot} (h : fX5_about a1 a2 z0 = some r) (hP : va_P D vwCl (wM cI cJ cZ ad z0) H) (hS : va_S A s.heap H locs) (hl : lv_has ls 3 [(0, .ref (ad 0)), (1, .int a1), (2, .int a2)]) : W p l e R s m args below meth c H locs 0 0 Q (F0 m 0 ls []) := by
  unfold fX5_about at h
  have hx := C.1.1
  have hb := C.1.2.1
  refine lv_aload_n hx hb dX5_about_0 rfl (lv_at hl 0 rfl) ?_
  refine lv_iload_n hx hb dX5_about_1 rfl (lv_at hl 1 rfl) ?_
  refine lv_iconst (v := 0) hx hb dX5_about_2 (by decide) ?_
  refine lv_aload_n hx hb dX5_about_3 rfl (lv_at hl 0 rfl) ?_
  refine b_geti C hP h iX5_about_X5 0 (wM_0 cI cJ cZ ad z0) rfl 9 (by decide) fX5_about_i116 rfl rfl dX5_about_4 (fun v1 h => ?_)
  refine lv_iconst (v := 1) hx hb dX5_about_7 (by decide) ?_
  refine lv_isub hx hb dX5_about_8 ?_
  refine b_callSi (As := [.int a1, .int 0, .int (v1 - 1)]) (rest := [.ref (ad 0)]) C hP hS h (mX5_isIn l D cI cJ cZ ad a1 0 (v1 - 1) z0) (va_cwS 3 C.1.2.2.2.2 gX5_about_X5_isIn rfl rfl rfl (by decide +kernel) ⟨Nat.le_trans (Nat.le_of_ble_eq_true rfl) C.2.2.2.2.1, Nat.le_trans (Nat.le_of_ble_eq_true rfl) C.2.2.2.2.2⟩) rfl hl.1 rfl (Nat.le_of_ble_eq_true rfl) dX5_about_9 (fun v3 z2 _ _ h hP hS => ?_)
  refine lv_if_ne (tgt := 19) hx hb dX5_about_12 (by decide) (fun c1 => ?_) (fun c1 => ?_)
  · replace h := (ite_h h).2 c1
    refine lv_iload_n hx hb dX5_about_19 rfl (lv_at hl 2 rfl) ?_
    refine lv_iconst (v := 0) hx hb dX5_about_20 (by decide) ?_
    refine lv_iconst (v := 5) hx hb dX5_about_21 (by decide) ?_
    refine b_callSi (As := [.int a2, .int 0, .int 5]) (rest := [.ref (ad 0)]) C hP hS h (mX5_isIn l D cI cJ cZ ad a2 0 5 z2) (va_cwS 3 C.1.2.2.2.2 gX5_about_X5_isIn rfl rfl rfl (by decide +kernel) ⟨Nat.le_trans (Nat.le_of_ble_eq_true rfl) C.2.2.2.2.1, Nat.le_trans (Nat.le_of_ble_eq_true rfl) C.2.2.2.2.2⟩) rfl hl.1 rfl (Nat.le_of_ble_eq_true rfl) dX5_about_22 (fun v5 z4 _ _ h hP hS => ?_)
    refine lv_if_ne (tgt := 32) hx hb dX5_about_25 (by decide) (fun c1 => ?_) (fun c1 => ?_)
    · replace h := (ite_h h).2 c1
      refine lv_iconst (v := 0) hx hb dX5_about_32 (by decide) ?_
      exact wX5_about_33 C hR a1 a2 0 z4 h hP hS (lv_sub hl [0, 1, 2] rfl)
    · replace h := (ite_h h).1 c1
      refine lv_iconst (v := 2) hx hb dX5_about_28 (by decide) ?_
      refine lv_goto (tgt := 33) hx hb dX5_about_29 (by decide) ?_
      exact wX5_about_33 C hR a1 a2 2 z4 h hP hS (lv_sub hl [0, 1, 2] rfl)
  · replace h := (ite_h h).1 c1
    refine lv_iconst (v := 1) hx hb dX5_about_15 (by decide) ?_
    refine lv_goto (tgt := 33) hx hb dX5_about_16 (by decide) ?_
    exact wX5_about_33 C hR a1 a2 1 z2 h hP hS (lv_sub hl [0, 1, 2] rfl)
theorem mX5_about (l : Launch) (D : va_G) (cI cJ cZ : ClassId) (ad : Nat → Nat) (a1 : Int32) (a2 : Int32) (z0 : SH) : ∀ (q : (Int32 × SH)) (sz : Nat), fX5_about a1 a2 z0 = some q → Met l yX5_about wsX5_about rmX5_about (cP D vwCl (tyl cI cJ cZ) (wM cI cJ cZ ad z0) sz [.ref (ad 0), .int a1, .int a2]) (cQi D vwCl (wM cI cJ cZ ad) z0 sz q) 0 0 (va_A (wM cI cJ cZ ad z0) sz) := by
  intro q sz h
  refine ofW_i (cc := cX5_about) (maxL := 3) (by decide) rfl (wM_same cI cJ cZ ad) (Nat.le_of_ble_eq_true rfl) (fun p e s m below meth c ls hsz C hR hP hl => ?_)
  exact wX5_about C hR a1 a2 z0 h hP va_S.rf hl
abbrev rmX5_ahead : Room := { frames := 1, cells := 0, slots := 0, locals := 23 }
theorem fX5_ahead_i116 : Cond.fieldLink RX5 116 (TX5 9).1 (TX5 9).2.1 (TX5 9).2.2.1 ∈ wsX5_ahead := by decide +kernel
theorem fX5_ahead_i36 : Cond.fieldLink RX5 36 (TX5 11).1 (TX5 11).2.1 (TX5 11).2.2.1 ∈ wsX5_ahead := by decide +kernel
theorem fX5_ahead_i39 : Cond.fieldLink RX5 39 (TX5 12).1 (TX5 12).2.1 (TX5 12).2.2.1 ∈ wsX5_ahead := by decide +kernel
theorem fX5_ahead_i45 : Cond.fieldLink RX5 45 (TX5 14).1 (TX5 14).2.1 (TX5 14).2.2.1 ∈ wsX5_ahead := by decide +kernel
theorem fX5_ahead_i51 : Cond.fieldLink RX5 51 (TX5 16).1 (TX5 16).2.1 (TX5 16).2.2.1 ∈ wsX5_ahead := by decide +kernel
theorem fX5_ahead_i57 : Cond.fieldLink RX5 57 (TX5 18).1 (TX5 18).2.1 (TX5 18).2.2.1 ∈ wsX5_ahead := by decide +kernel
theorem fX5_ahead_i66 : Cond.fieldLink RX5 66 (TX5 21).1 (TX5 21).2.1 (TX5 21).2.2.1 ∈ wsX5_ahead := by decide +kernel
theorem fX5_ahead_i93 : Cond.fieldLink RX5 93 (TX5 0).1 (TX5 0).2.1 (TX5 0).2.2.1 ∈ wsX5_ahead := by decide +kernel
theorem iX5_ahead_X5 : ∀ x ∈ wsX50, x ∈ wsX5_ahead := by decide +kernel
set_option maxRecDepth 100000 in
set_option maxHeartbeats 4000000 in
theorem wX5_ahead_124 {p : Program} {l : Launch} {e : Env} {R : Room} {s : State} {m : MethodId} {args : Array Value} {below : List Frame} {meth : Method} {c : Code} {Q : State → Prop} {D : va_G} {cI cJ cZ : ClassId} {ad : Nat → Nat} {A : Nat → Prop} (C : Cx p s m args c cX5_ahead 4 wsX5_ahead RX5 D vwCl (tyl cI cJ cZ) (wM cI cJ cZ ad) A R 1 23) {r : (Int32 × SH)} (hR : Ri p l e R s m args below meth c cX5_ahead D vwCl (wM cI cJ cZ ad) A Q r) (N : Nat) (x2 : Int32) (z0 : SH) {H : Heap} {locs : List Loc} {ls : Array Slot} (h : fX5_ahead_124 N x2 z0 = some r) (hP : va_P D vwCl (wM cI cJ cZ ad z0) H) (hS : va_S A s.heap H locs) (hl : lv_has ls 4 [(2, .int x2)]) : W p l e R s m args below meth c H locs 0 0 Q (F0 m 124 ls []) := by
  unfold fX5_ahead_124 at h
  have hx := C.1.1
  have hb := C.1.2.1
  refine lv_iload_n hx hb dX5_ahead_124 rfl (lv_at hl 0 rfl) ?_
  exact hR 125 _ _ _ _ _ (Option.some.inj h).symm dX5_ahead_125 hP hS
set_option maxRecDepth 100000 in
set_option maxHeartbeats 4000000 in
theorem wX5_ahead_117 {p : Program} {l : Launch} {e : Env} {R : Room} {s : State} {m : MethodId} {args : Array Value} {below : List Frame} {meth : Method} {c : Code} {Q : State → Prop} {D : va_G} {cI cJ cZ : ClassId} {ad : Nat → Nat} {A : Nat → Prop} (C : Cx p s m args c cX5_ahead 4 wsX5_ahead RX5 D vwCl (tyl cI cJ cZ) (wM cI cJ cZ ad) A R 1 23) {r : (Int32 × SH)} (hR : Ri p l e R s m args below meth c cX5_ahead D vwCl (wM cI cJ cZ ad) A Q r) (N : Nat) (k40 : Int32 → Int32 → Int32 → SH → Option (Int32 × SH)) (K40 : ∀ (x1 : Int32) (x2 : Int32) (x3 : Int32) (z : SH) (H : Heap) (locs : List Loc) (ls : Array Slot), k40 x1 x2 x3 z = some r → va_P D vwCl (wM cI cJ cZ ad z) H → va_S A s.heap H locs → lv_has ls 4 [(0, .ref (ad 0)), (1, .int x1), (2, .int x2), (3, .int x3)] → W p l e R s m args below meth c H locs 0 0 Q (F0 m 40 ls [])) (x1 : Int32) (x3 : Int32) (t0 : Int32) (z0 : SH) {H : Heap} {locs : List Loc} {ls : Array Slot} (h : fX5_ahead_117 N k40 x1 x3 t0 z0 = some r) (hP : va_P D vwCl (wM cI cJ cZ ad z0) H) (hS : va_S A s.heap H locs) (hl : lv_has ls 4 [(0, .ref (ad 0)), (1, .int x1), (3, .int x3)]) : W p l e R s m args below meth c H locs 0 0 Q (F0 m 117 ls [.int t0]) := by
  unfold fX5_ahead_117 at h
  have hx := C.1.1
  have hb := C.1.2.1
  refine lv_istore_n (lv' := [(2, .int t0), (0, .ref (ad 0)), (1, .int x1), (3, .int x3)]) hx hb dX5_ahead_117 rfl hl (by decide) rfl (fun ls hl => ?_)
  refine lv_iinc (v := x3 + 1) (lv' := [(3, .int (x3 + 1)), (2, .int t0), (0, .ref (ad 0)), (1, .int x1)]) hx hb dX5_ahead_118 hl (k := 3) rfl rfl (by decide) rfl (fun ls hl => ?_)
  refine lv_goto (tgt := 40) hx hb dX5_ahead_121 (by decide) ?_
  exact K40 x1 t0 (x3 + 1) z0 _ _ _ h hP hS (lv_sub hl [2, 3, 1, 0] rfl)
set_option maxRecDepth 100000 in
set_option maxHeartbeats 4000000 in
theorem wX5_ahead_116 {p : Program} {l : Launch} {e : Env} {R : Room} {s : State} {m : MethodId} {args : Array Value} {below : List Frame} {meth : Method} {c : Code} {Q : State → Prop} {D : va_G} {cI cJ cZ : ClassId} {ad : Nat → Nat} {A : Nat → Prop} (C : Cx p s m args c cX5_ahead 4 wsX5_ahead RX5 D vwCl (tyl cI cJ cZ) (wM cI cJ cZ ad) A R 1 23) {r : (Int32 × SH)} (hR : Ri p l e R s m args below meth c cX5_ahead D vwCl (wM cI cJ cZ ad) A Q r) (N : Nat) (k40 : Int32 → Int32 → Int32 → SH → Option (Int32 × SH)) (K40 : ∀ (x1 : Int32) (x2 : Int32) (x3 : Int32) (z : SH) (H : Heap) (locs : List Loc) (ls : Array Slot), k40 x1 x2 x3 z = some r → va_P D vwCl (wM cI cJ cZ ad z) H → va_S A s.heap H locs → lv_has ls 4 [(0, .ref (ad 0)), (1, .int x1), (2, .int x2), (3, .int x3)] → W p l e R s m args below meth c H locs 0 0 Q (F0 m 40 ls [])) (x1 : Int32) (x2 : Int32) (x3 : Int32) (z0 : SH) {H : Heap} {locs : List Loc} {ls : Array Slot} (h : fX5_ahead_116 N k40 x1 x2 x3 z0 = some r) (hP : va_P D vwCl (wM cI cJ cZ ad z0) H) (hS : va_S A s.heap H locs) (hl : lv_has ls 4 [(0, .ref (ad 0)), (1, .int x1), (2, .int x2), (3, .int x3)]) : W p l e R s m args below meth c H locs 0 0 Q (F0 m 116 ls []) := by
  unfold fX5_ahead_116 at h
  have hx := C.1.1
  have hb := C.1.2.1
  refine lv_iload_n hx hb dX5_ahead_116 rfl (lv_at hl 2 rfl) ?_
  exact wX5_ahead_117 C hR N k40 K40 x1 x3 x2 z0 h hP hS (lv_sub hl [0, 1, 3] rfl)
set_option maxRecDepth 100000 in
set_option maxHeartbeats 4000000 in
theorem wX5_ahead_40 {p : Program} {l : Launch} {e : Env} {R : Room} {s : State} {m : MethodId} {args : Array Value} {below : List Frame} {meth : Method} {c : Code} {Q : State → Prop} {D : va_G} {cI cJ cZ : ClassId} {ad : Nat → Nat} {A : Nat → Prop} (C : Cx p s m args c cX5_ahead 4 wsX5_ahead RX5 D vwCl (tyl cI cJ cZ) (wM cI cJ cZ ad) A R 1 23) {r : (Int32 × SH)} (hR : Ri p l e R s m args below meth c cX5_ahead D vwCl (wM cI cJ cZ ad) A Q r) (N : Nat) (k40 : Int32 → Int32 → Int32 → SH → Option (Int32 × SH)) (K40 : ∀ (x1 : Int32) (x2 : Int32) (x3 : Int32) (z : SH) (H : Heap) (locs : List Loc) (ls : Array Slot), k40 x1 x2 x3 z = some r → va_P D vwCl (wM cI cJ cZ ad z) H → va_S A s.heap H locs → lv_has ls 4 [(0, .ref (ad 0)), (1, .int x1), (2, .int x2), (3, .int x3)] → W p l e R s m args below meth c H locs 0 0 Q (F0 m 40 ls [])) (x1 : Int32) (x2 : Int32) (x3 : Int32) (z0 : SH) {H : Heap} {locs : List Loc} {ls : Array Slot} (h : fX5_ahead_40 N k40 x1 x2 x3 z0 = some r) (hP : va_P D vwCl (wM cI cJ cZ ad z0) H) (hS : va_S A s.heap H locs) (hl : lv_has ls 4 [(0, .ref (ad 0)), (1, .int x1), (2, .int x2), (3, .int x3)]) : W p l e R s m args below meth c H locs 0 0 Q (F0 m 40 ls []) := by
  unfold fX5_ahead_40 at h
  have hx := C.1.1
  have hb := C.1.2.1
  refine lv_iload_n hx hb dX5_ahead_40 rfl (lv_at hl 3 rfl) ?_
  refine lv_aload_n hx hb dX5_ahead_41 rfl (lv_at hl 0 rfl) ?_
  refine b_geti C hP h iX5_ahead_X5 0 (wM_0 cI cJ cZ ad z0) rfl 9 (by decide) fX5_ahead_i116 rfl rfl dX5_ahead_42 (fun v1 h => ?_)
  refine lv_icmp_ge (tgt := 124) hx hb dX5_ahead_45 (by decide) (fun c1 => ?_) (fun c1 => ?_)
  · replace h := (ite_h h).1 c1
    exact wX5_ahead_124 C hR N x2 z0 h hP hS (lv_sub hl [2] rfl)
  · replace h := (ite_h h).2 c1
    refine lv_aload_n hx hb dX5_ahead_48 rfl (lv_at hl 0 rfl) ?_
    refine b_geti C hP h iX5_ahead_X5 0 (wM_0 cI cJ cZ ad z0) rfl 0 (by decide) fX5_ahead_i93 rfl rfl dX5_ahead_49 (fun v2 h => ?_)
    refine lv_if_ne (tgt := 124) hx hb dX5_ahead_52 (by decide) (fun c1 => ?_) (fun c1 => ?_)
    · replace h := (ite_h h).2 c1
      exact wX5_ahead_124 C hR N x2 z0 h hP hS (lv_sub hl [2] rfl)
    · replace h := (ite_h h).1 c1
      refine lv_aload_n hx hb dX5_ahead_55 rfl (lv_at hl 0 rfl) ?_
      refine lv_iload_n hx hb dX5_ahead_56 rfl (lv_at hl 3 rfl) ?_
      refine lv_aload_n hx hb dX5_ahead_57 rfl (lv_at hl 0 rfl) ?_
      refine b_getr C hP iX5_ahead_X5 0 (wM_0 cI cJ cZ ad z0) rfl 11 (by decide) fX5_ahead_i36 rfl rfl dX5_ahead_58 ?_
      refine lv_iload_n hx hb dX5_ahead_61 rfl (lv_at hl 1 rfl) ?_
      refine b_iald C hP h 9 (wM_9 cI cJ cZ ad z0) 0 rfl dX5_ahead_62 (fun v3 h => ?_)
      refine lv_aload_n hx hb dX5_ahead_63 rfl (lv_at hl 0 rfl) ?_
      refine b_getr C hP iX5_ahead_X5 0 (wM_0 cI cJ cZ ad z0) rfl 12 (by decide) fX5_ahead_i39 rfl rfl dX5_ahead_64 ?_
      refine lv_iload_n hx hb dX5_ahead_67 rfl (lv_at hl 1 rfl) ?_
      refine b_iald C hP h 10 (wM_10 cI cJ cZ ad z0) 0 rfl dX5_ahead_68 (fun v4 h => ?_)
      refine b_callVi (As := [.int x3, .int v3, .int v4]) (rest := []) C hP hS h (mX5_rests l D cI cJ cZ ad x3 v3 v4 z0) (cwV 3 C.1.2.2.2.2 gX5_ahead_X5_rests rfl rfl rfl (by decide +kernel) ⟨Nat.le_trans (Nat.le_of_ble_eq_true rfl) C.2.2.2.2.1, Nat.le_trans (Nat.le_of_ble_eq_true rfl) C.2.2.2.2.2⟩) (va_recv C.2.1 hP (ci := 5) (q0 := 0) rfl (wM_0 cI cJ cZ ad z0)) rfl hl.1 rfl (Nat.le_of_ble_eq_true rfl) dX5_ahead_69 (fun v6 z5 _ _ h hP hS => ?_)
      refine lv_if_eq (tgt := 116) hx hb dX5_ahead_72 (by decide) (fun c1 => ?_) (fun c1 => ?_)
      · replace h := (ite_h h).1 c1
        exact wX5_ahead_116 C hR N k40 K40 x1 x2 x3 z5 h hP hS (lv_sub hl [0, 1, 2, 3] rfl)
      · replace h := (ite_h h).2 c1
        refine lv_aload_n hx hb dX5_ahead_75 rfl (lv_at hl 0 rfl) ?_
        refine b_getr C hP iX5_ahead_X5 0 (wM_0 cI cJ cZ ad z5) rfl 14 (by decide) fX5_ahead_i45 rfl rfl dX5_ahead_76 ?_
        refine lv_iload_n hx hb dX5_ahead_79 rfl (lv_at hl 3 rfl) ?_
        refine b_iald C hP h 12 (wM_12 cI cJ cZ ad z5) 0 rfl dX5_ahead_80 (fun v7 h => ?_)
        refine lv_aload_n hx hb dX5_ahead_81 rfl (lv_at hl 0 rfl) ?_
        refine b_getr C hP iX5_ahead_X5 0 (wM_0 cI cJ cZ ad z5) rfl 14 (by decide) fX5_ahead_i45 rfl rfl dX5_ahead_82 ?_
        refine lv_iload_n hx hb dX5_ahead_85 rfl (lv_at hl 1 rfl) ?_
        refine b_iald C hP h 12 (wM_12 cI cJ cZ ad z5) 0 rfl dX5_ahead_86 (fun v8 h => ?_)
        refine lv_icmp_ne (tgt := 116) hx hb dX5_ahead_87 (by decide) (fun c1 => ?_) (fun c1 => ?_)
        · replace h := (ite_h h).2 c1
          exact wX5_ahead_116 C hR N k40 K40 x1 x2 x3 z5 h hP hS (lv_sub hl [0, 1, 2, 3] rfl)
        · replace h := (ite_h h).1 c1
          refine lv_aload_n hx hb dX5_ahead_90 rfl (lv_at hl 0 rfl) ?_
          refine b_getr C hP iX5_ahead_X5 0 (wM_0 cI cJ cZ ad z5) rfl 21 (by decide) fX5_ahead_i66 rfl rfl dX5_ahead_91 ?_
          refine lv_iload_n hx hb dX5_ahead_94 rfl (lv_at hl 3 rfl) ?_
          refine b_iald C hP h 19 (wM_19 cI cJ cZ ad z5) 0 rfl dX5_ahead_95 (fun v9 h => ?_)
          refine lv_aload_n hx hb dX5_ahead_96 rfl (lv_at hl 0 rfl) ?_
          refine b_getr C hP iX5_ahead_X5 0 (wM_0 cI cJ cZ ad z5) rfl 21 (by decide) fX5_ahead_i66 rfl rfl dX5_ahead_97 ?_
          refine lv_iload_n hx hb dX5_ahead_100 rfl (lv_at hl 1 rfl) ?_
          refine b_iald C hP h 19 (wM_19 cI cJ cZ ad z5) 0 rfl dX5_ahead_101 (fun v10 h => ?_)
          refine lv_icmp_ge (tgt := 116) hx hb dX5_ahead_102 (by decide) (fun c1 => ?_) (fun c1 => ?_)
          · replace h := (ite_h h).1 c1
            exact wX5_ahead_116 C hR N k40 K40 x1 x2 x3 z5 h hP hS (lv_sub hl [0, 1, 2, 3] rfl)
          · replace h := (ite_h h).2 c1
            refine lv_iload_n hx hb dX5_ahead_105 rfl (lv_at hl 2 rfl) ?_
            refine lv_aload_n hx hb dX5_ahead_106 rfl (lv_at hl 0 rfl) ?_
            refine b_getr C hP iX5_ahead_X5 0 (wM_0 cI cJ cZ ad z5) rfl 16 (by decide) fX5_ahead_i51 rfl rfl dX5_ahead_107 ?_
            refine lv_iload_n hx hb dX5_ahead_110 rfl (lv_at hl 3 rfl) ?_
            refine b_iald C hP h 14 (wM_14 cI cJ cZ ad z5) 0 rfl dX5_ahead_111 (fun v11 h => ?_)
            refine lv_iadd hx hb dX5_ahead_112 ?_
            refine lv_goto (tgt := 117) hx hb dX5_ahead_113 (by decide) ?_
            exact wX5_ahead_117 C hR N k40 K40 x1 x3 (x2 + v11) z5 h hP hS (lv_sub hl [0, 1, 3] rfl)
theorem wX5_ahead_40_L {p : Program} {l : Launch} {e : Env} {R : Room} {s : State} {m : MethodId} {args : Array Value} {below : List Frame} {meth : Method} {c : Code} {Q : State → Prop} {D : va_G} {cI cJ cZ : ClassId} {ad : Nat → Nat} {A : Nat → Prop} (C : Cx p s m args c cX5_ahead 4 wsX5_ahead RX5 D vwCl (tyl cI cJ cZ) (wM cI cJ cZ ad) A R 1 23) {r : (Int32 × SH)} (hR : Ri p l e R s m args below meth c cX5_ahead D vwCl (wM cI cJ cZ ad) A Q r) (N : Nat) : ∀ (n : Nat), ∀ (x1 : Int32) (x2 : Int32) (x3 : Int32) (z : SH) (H : Heap) (locs : List Loc) (ls : Array Slot), fX5_ahead_40_L N n x1 x2 x3 z = some r → va_P D vwCl (wM cI cJ cZ ad z) H → va_S A s.heap H locs → lv_has ls 4 [(0, .ref (ad 0)), (1, .int x1), (2, .int x2), (3, .int x3)] → W p l e R s m args below meth c H locs 0 0 Q (F0 m 40 ls []) := by
  intro n
  induction n with
  | zero => intro x1 x2 x3 z H locs ls h; exact nomatch (show (none : Option (Int32 × SH)) = some r from h)
  | succ n ih => intro x1 x2 x3 z H locs ls h hP hS hl; exact wX5_ahead_40 C hR N (fX5_ahead_40_L N n) ih x1 x2 x3 z (show fX5_ahead_40 N (fX5_ahead_40_L N n) x1 x2 x3 z = some r from h) hP hS hl
set_option maxRecDepth 100000 in
set_option maxHeartbeats 4000000 in
theorem wX5_ahead_33 {p : Program} {l : Launch} {e : Env} {R : Room} {s : State} {m : MethodId} {args : Array Value} {below : List Frame} {meth : Method} {c : Code} {Q : State → Prop} {D : va_G} {cI cJ cZ : ClassId} {ad : Nat → Nat} {A : Nat → Prop} (C : Cx p s m args c cX5_ahead 4 wsX5_ahead RX5 D vwCl (tyl cI cJ cZ) (wM cI cJ cZ ad) A R 1 23) {r : (Int32 × SH)} (hR : Ri p l e R s m args below meth c cX5_ahead D vwCl (wM cI cJ cZ ad) A Q r) (N : Nat) (x1 : Int32) (t0 : Int32) (z0 : SH) {H : Heap} {locs : List Loc} {ls : Array Slot} (h : fX5_ahead_33 N x1 t0 z0 = some r) (hP : va_P D vwCl (wM cI cJ cZ ad z0) H) (hS : va_S A s.heap H locs) (hl : lv_has ls 4 [(0, .ref (ad 0)), (1, .int x1)]) : W p l e R s m args below meth c H locs 0 0 Q (F0 m 33 ls [.int t0, .ref (ad 0)]) := by
  unfold fX5_ahead_33 at h
  have hx := C.1.1
  have hb := C.1.2.1
  refine b_puti C hP hS h iX5_ahead_X5 tyX5 tyX5_ok nmX5 0 (wM_0 cI cJ cZ ad z0) rfl 0 (by decide) fX5_ahead_i93 rfl rfl rfl (Nat.le_of_ble_eq_true rfl) (wM_si0 cI cJ cZ ad z0 _) dX5_ahead_33 (fun z1 _ _ h hP hS => ?_)
  refine lv_iconst (v := 0) hx hb dX5_ahead_36 (by decide) ?_
  refine lv_istore_n (lv' := [(2, .int 0), (0, .ref (ad 0)), (1, .int x1)]) hx hb dX5_ahead_37 rfl hl (by decide) rfl (fun ls hl => ?_)
  refine lv_iconst (v := 0) hx hb dX5_ahead_38 (by decide) ?_
  refine lv_istore_n (lv' := [(3, .int 0), (2, .int 0), (0, .ref (ad 0)), (1, .int x1)]) hx hb dX5_ahead_39 rfl hl (by decide) rfl (fun ls hl => ?_)
  exact wX5_ahead_40_L C hR N N x1 0 0 z1 _ _ _ h hP hS (lv_sub hl [2, 3, 1, 0] rfl)
set_option maxRecDepth 100000 in
set_option maxHeartbeats 4000000 in
theorem wX5_ahead {p : Program} {l : Launch} {e : Env} {R : Room} {s : State} {m : MethodId} {args : Array Value} {below : List Frame} {meth : Method} {c : Code} {Q : State → Prop} {D : va_G} {cI cJ cZ : ClassId} {ad : Nat → Nat} {A : Nat → Prop} (C : Cx p s m args c cX5_ahead 4 wsX5_ahead RX5 D vwCl (tyl cI cJ cZ) (wM cI cJ cZ ad) A R 1 23) {r : (Int32 × SH)} (hR : Ri p l e R s m args below meth c cX5_ahead D vwCl (wM cI cJ cZ ad) A Q r) (N : Nat) (a1 : Int32) (z0 : SH) {H : Heap} {locs : List Loc} {ls : Array Slot} (h : fX5_ahead N a1 z0 = some r) (hP : va_P D vwCl (wM cI cJ cZ ad z0) H) (hS : va_S A s.heap H locs) (hl : lv_has ls 4 [(0, .ref (ad 0)), (1, .int a1)]) : W p l e R s m args below meth c H locs 0 0 Q (F0 m 0 ls []) := by
  unfold fX5_ahead at h
  have hx := C.1.1
  have hb := C.1.2.1
  refine lv_aload_n hx hb dX5_ahead_0 rfl (lv_at hl 0 rfl) ?_
  refine lv_iload_n hx hb dX5_ahead_1 rfl (lv_at hl 1 rfl) ?_
  refine lv_iconst (v := 0) hx hb dX5_ahead_2 (by decide) ?_
  refine lv_aload_n hx hb dX5_ahead_3 rfl (lv_at hl 0 rfl) ?_
  refine b_geti C hP h iX5_ahead_X5 0 (wM_0 cI cJ cZ ad z0) rfl 9 (by decide) fX5_ahead_i116 rfl rfl dX5_ahead_4 (fun v1 h => ?_)
  refine lv_iconst (v := 1) hx hb dX5_ahead_7 (by decide) ?_
  refine lv_isub hx hb dX5_ahead_8 ?_
  refine b_callSi (As := [.int a1, .int 0, .int (v1 - 1)]) (rest := [.ref (ad 0)]) C hP hS h (mX5_isIn l D cI cJ cZ ad a1 0 (v1 - 1) z0) (va_cwS 3 C.1.2.2.2.2 gX5_ahead_X5_isIn rfl rfl rfl (by decide +kernel) ⟨Nat.le_trans (Nat.le_of_ble_eq_true rfl) C.2.2.2.2.1, Nat.le_trans (Nat.le_of_ble_eq_true rfl) C.2.2.2.2.2⟩) rfl hl.1 rfl (Nat.le_of_ble_eq_true rfl) dX5_ahead_9 (fun v3 z2 _ _ h hP hS => ?_)
  refine lv_if_ne (tgt := 19) hx hb dX5_ahead_12 (by decide) (fun c1 => ?_) (fun c1 => ?_)
  · replace h := (ite_h h).2 c1
    refine lv_aload_n hx hb dX5_ahead_19 rfl (lv_at hl 0 rfl) ?_
    refine b_getr C hP iX5_ahead_X5 0 (wM_0 cI cJ cZ ad z2) rfl 18 (by decide) fX5_ahead_i57 rfl rfl dX5_ahead_20 ?_
    refine lv_iload_n hx hb dX5_ahead_23 rfl (lv_at hl 1 rfl) ?_
    refine b_iald C hP h 16 (wM_16 cI cJ cZ ad z2) 0 rfl dX5_ahead_24 (fun v4 h => ?_)
    refine lv_if_eq (tgt := 32) hx hb dX5_ahead_25 (by decide) (fun c1 => ?_) (fun c1 => ?_)
    · replace h := (ite_h h).1 c1
      refine lv_iconst (v := 0) hx hb dX5_ahead_32 (by decide) ?_
      exact wX5_ahead_33 C hR N a1 0 z2 h hP hS (lv_sub hl [0, 1] rfl)
    · replace h := (ite_h h).2 c1
      refine lv_iconst (v := 2) hx hb dX5_ahead_28 (by decide) ?_
      refine lv_goto (tgt := 33) hx hb dX5_ahead_29 (by decide) ?_
      exact wX5_ahead_33 C hR N a1 2 z2 h hP hS (lv_sub hl [0, 1] rfl)
  · replace h := (ite_h h).1 c1
    refine lv_iconst (v := 1) hx hb dX5_ahead_15 (by decide) ?_
    refine lv_goto (tgt := 33) hx hb dX5_ahead_16 (by decide) ?_
    exact wX5_ahead_33 C hR N a1 1 z2 h hP hS (lv_sub hl [0, 1] rfl)
theorem mX5_ahead (l : Launch) (D : va_G) (cI cJ cZ : ClassId) (ad : Nat → Nat) (N : Nat) (a1 : Int32) (z0 : SH) : ∀ (q : (Int32 × SH)) (sz : Nat), fX5_ahead N a1 z0 = some q → Met l yX5_ahead wsX5_ahead rmX5_ahead (cP D vwCl (tyl cI cJ cZ) (wM cI cJ cZ ad z0) sz [.ref (ad 0), .int a1]) (cQi D vwCl (wM cI cJ cZ ad) z0 sz q) 0 0 (va_A (wM cI cJ cZ ad z0) sz) := by
  intro q sz h
  refine ofW_i (cc := cX5_ahead) (maxL := 4) (by decide) rfl (wM_same cI cJ cZ ad) (Nat.le_of_ble_eq_true rfl) (fun p e s m below meth c ls hsz C hR hP hl => ?_)
  exact wX5_ahead C hR N a1 z0 h hP va_S.rf hl
abbrev rmX5_cash : Room := { frames := 2, cells := 0, slots := 0, locals := 42 }
theorem fX5_cash_i13 : Cond.fieldLink RX5 13 (TX5 3).1 (TX5 3).2.1 (TX5 3).2.2.1 ∈ wsX5_cash := by decide +kernel
theorem fX5_cash_i7 : Cond.fieldLink RX5 7 (TX5 2).1 (TX5 2).2.1 (TX5 2).2.2.1 ∈ wsX5_cash := by decide +kernel
theorem fX5_cash_i93 : Cond.fieldLink RX5 93 (TX5 0).1 (TX5 0).2.1 (TX5 0).2.2.1 ∈ wsX5_cash := by decide +kernel
theorem iX5_cash_X5 : ∀ x ∈ wsX50, x ∈ wsX5_cash := by decide +kernel
set_option maxRecDepth 100000 in
set_option maxHeartbeats 4000000 in
theorem wX5_cash_59 {p : Program} {l : Launch} {e : Env} {R : Room} {s : State} {m : MethodId} {args : Array Value} {below : List Frame} {meth : Method} {c : Code} {Q : State → Prop} {D : va_G} {cI cJ cZ : ClassId} {ad : Nat → Nat} {A : Nat → Prop} (C : Cx p s m args c cX5_cash 3 wsX5_cash RX5 D vwCl (tyl cI cJ cZ) (wM cI cJ cZ ad) A R 2 42) {r : (Int64 × SH)} (hR : Rl p l e R s m args below meth c cX5_cash D vwCl (wM cI cJ cZ ad) A Q r) (t0 : Int64) (z0 : SH) {H : Heap} {locs : List Loc} {ls : Array Slot} (h : fX5_cash_59 t0 z0 = some r) (hP : va_P D vwCl (wM cI cJ cZ ad z0) H) (hS : va_S A s.heap H locs) (hl : lv_has ls 3 []) : W p l e R s m args below meth c H locs 0 0 Q (F0 m 59 ls [.long t0]) := by
  unfold fX5_cash_59 at h
  have hx := C.1.1
  have hb := C.1.2.1
  exact hR 59 _ _ _ _ _ (Option.some.inj h).symm dX5_cash_59 hP hS
set_option maxRecDepth 100000 in
set_option maxHeartbeats 4000000 in
theorem wX5_cash_26 {p : Program} {l : Launch} {e : Env} {R : Room} {s : State} {m : MethodId} {args : Array Value} {below : List Frame} {meth : Method} {c : Code} {Q : State → Prop} {D : va_G} {cI cJ cZ : ClassId} {ad : Nat → Nat} {A : Nat → Prop} (C : Cx p s m args c cX5_cash 3 wsX5_cash RX5 D vwCl (tyl cI cJ cZ) (wM cI cJ cZ ad) A R 2 42) {r : (Int64 × SH)} (hR : Rl p l e R s m args below meth c cX5_cash D vwCl (wM cI cJ cZ ad) A Q r) (x1 : Int32) (x2 : Int32) (t0 : Int32) (z0 : SH) {H : Heap} {locs : List Loc} {ls : Array Slot} (h : fX5_cash_26 x1 x2 t0 z0 = some r) (hP : va_P D vwCl (wM cI cJ cZ ad z0) H) (hS : va_S A s.heap H locs) (hl : lv_has ls 3 [(0, .ref (ad 0)), (1, .int x1), (2, .int x2)]) : W p l e R s m args below meth c H locs 0 0 Q (F0 m 26 ls [.int t0, .ref (ad 0)]) := by
  unfold fX5_cash_26 at h
  have hx := C.1.1
  have hb := C.1.2.1
  refine b_puti C hP hS h iX5_cash_X5 tyX5 tyX5_ok nmX5 0 (wM_0 cI cJ cZ ad z0) rfl 0 (by decide) fX5_cash_i93 rfl rfl rfl (Nat.le_of_ble_eq_true rfl) (wM_si0 cI cJ cZ ad z0 _) dX5_cash_26 (fun z1 _ _ h hP hS => ?_)
  refine lv_aload_n hx hb dX5_cash_29 rfl (lv_at hl 0 rfl) ?_
  refine b_geti C hP h iX5_cash_X5 0 (wM_0 cI cJ cZ ad z1) rfl 0 (by decide) fX5_cash_i93 rfl rfl dX5_cash_30 (fun v2 h => ?_)
  refine lv_if_le (tgt := 40) hx hb dX5_cash_33 (by decide) (fun c1 => ?_) (fun c1 => ?_)
  · replace h := (ite_h h).1 c1
    refine lv_iload_n hx hb dX5_cash_40 rfl (lv_at hl 2 rfl) ?_
    refine lv_if_ne (tgt := 53) hx hb dX5_cash_41 (by decide) (fun c1 => ?_) (fun c1 => ?_)
    · replace h := (ite_h h).2 c1
      refine lv_aload_n hx hb dX5_cash_53 rfl (lv_at hl 0 rfl) ?_
      refine b_getr C hP iX5_cash_X5 0 (wM_0 cI cJ cZ ad z1) rfl 3 (by decide) fX5_cash_i13 rfl rfl dX5_cash_54 ?_
      refine lv_iload_n hx hb dX5_cash_57 rfl (lv_at hl 1 rfl) ?_
      refine b_lald C hP h 2 (wM_2 cI cJ cZ ad z1) 1 rfl dX5_cash_58 (fun v3 h => ?_)
      exact wX5_cash_59 C hR v3 z1 h hP hS (lv_sub hl [] rfl)
    · replace h := (ite_h h).1 c1
      refine lv_aload_n hx hb dX5_cash_44 rfl (lv_at hl 0 rfl) ?_
      refine b_getr C hP iX5_cash_X5 0 (wM_0 cI cJ cZ ad z1) rfl 2 (by decide) fX5_cash_i7 rfl rfl dX5_cash_45 ?_
      refine lv_iload_n hx hb dX5_cash_48 rfl (lv_at hl 1 rfl) ?_
      refine b_lald C hP h 1 (wM_1 cI cJ cZ ad z1) 1 rfl dX5_cash_49 (fun v4 h => ?_)
      refine lv_goto (tgt := 59) hx hb dX5_cash_50 (by decide) ?_
      exact wX5_cash_59 C hR v4 z1 h hP hS (lv_sub hl [] rfl)
  · replace h := (ite_h h).2 c1
    refine lv_lconst (v := 0) hx hb dX5_cash_36 (by decide) ?_
    refine lv_goto (tgt := 59) hx hb dX5_cash_37 (by decide) ?_
    exact wX5_cash_59 C hR 0 z1 h hP hS (lv_sub hl [] rfl)
set_option maxRecDepth 100000 in
set_option maxHeartbeats 4000000 in
theorem wX5_cash {p : Program} {l : Launch} {e : Env} {R : Room} {s : State} {m : MethodId} {args : Array Value} {below : List Frame} {meth : Method} {c : Code} {Q : State → Prop} {D : va_G} {cI cJ cZ : ClassId} {ad : Nat → Nat} {A : Nat → Prop} (C : Cx p s m args c cX5_cash 3 wsX5_cash RX5 D vwCl (tyl cI cJ cZ) (wM cI cJ cZ ad) A R 2 42) {r : (Int64 × SH)} (hR : Rl p l e R s m args below meth c cX5_cash D vwCl (wM cI cJ cZ ad) A Q r) (a1 : Int32) (a2 : Int32) (z0 : SH) {H : Heap} {locs : List Loc} {ls : Array Slot} (h : fX5_cash a1 a2 z0 = some r) (hP : va_P D vwCl (wM cI cJ cZ ad z0) H) (hS : va_S A s.heap H locs) (hl : lv_has ls 3 [(0, .ref (ad 0)), (1, .int a1), (2, .int a2)]) : W p l e R s m args below meth c H locs 0 0 Q (F0 m 0 ls []) := by
  unfold fX5_cash at h
  have hx := C.1.1
  have hb := C.1.2.1
  refine lv_aload_n hx hb dX5_cash_0 rfl (lv_at hl 0 rfl) ?_
  refine lv_iload_n hx hb dX5_cash_1 rfl (lv_at hl 1 rfl) ?_
  refine b_callSi (As := [.int a1]) (rest := [.ref (ad 0)]) C hP hS h (mX5_isAccount l D cI cJ cZ ad a1 z0) (va_cwS 1 C.1.2.2.2.2 gX5_cash_X5_isAccount rfl rfl rfl (by decide +kernel) ⟨Nat.le_trans (Nat.le_of_ble_eq_true rfl) C.2.2.2.2.1, Nat.le_trans (Nat.le_of_ble_eq_true rfl) C.2.2.2.2.2⟩) rfl hl.1 rfl (Nat.le_of_ble_eq_true rfl) dX5_cash_2 (fun v2 z1 _ _ h hP hS => ?_)
  refine lv_if_ne (tgt := 12) hx hb dX5_cash_5 (by decide) (fun c1 => ?_) (fun c1 => ?_)
  · replace h := (ite_h h).2 c1
    refine lv_iload_n hx hb dX5_cash_12 rfl (lv_at hl 2 rfl) ?_
    refine lv_iconst (v := 0) hx hb dX5_cash_13 (by decide) ?_
    refine lv_iconst (v := 1) hx hb dX5_cash_14 (by decide) ?_
    refine b_callSi (As := [.int a2, .int 0, .int 1]) (rest := [.ref (ad 0)]) C hP hS h (mX5_isIn l D cI cJ cZ ad a2 0 1 z1) (va_cwS 3 C.1.2.2.2.2 gX5_cash_X5_isIn rfl rfl rfl (by decide +kernel) ⟨Nat.le_trans (Nat.le_of_ble_eq_true rfl) C.2.2.2.2.1, Nat.le_trans (Nat.le_of_ble_eq_true rfl) C.2.2.2.2.2⟩) rfl hl.1 rfl (Nat.le_of_ble_eq_true rfl) dX5_cash_15 (fun v4 z3 _ _ h hP hS => ?_)
    refine lv_if_ne (tgt := 25) hx hb dX5_cash_18 (by decide) (fun c1 => ?_) (fun c1 => ?_)
    · replace h := (ite_h h).2 c1
      refine lv_iconst (v := 0) hx hb dX5_cash_25 (by decide) ?_
      exact wX5_cash_26 C hR a1 a2 0 z3 h hP hS (lv_sub hl [0, 1, 2] rfl)
    · replace h := (ite_h h).1 c1
      refine lv_iconst (v := 2) hx hb dX5_cash_21 (by decide) ?_
      refine lv_goto (tgt := 26) hx hb dX5_cash_22 (by decide) ?_
      exact wX5_cash_26 C hR a1 a2 2 z3 h hP hS (lv_sub hl [0, 1, 2] rfl)
  · replace h := (ite_h h).1 c1
    refine lv_iconst (v := 1) hx hb dX5_cash_8 (by decide) ?_
    refine lv_goto (tgt := 26) hx hb dX5_cash_9 (by decide) ?_
    exact wX5_cash_26 C hR a1 a2 1 z1 h hP hS (lv_sub hl [0, 1, 2] rfl)
theorem mX5_cash (l : Launch) (D : va_G) (cI cJ cZ : ClassId) (ad : Nat → Nat) (a1 : Int32) (a2 : Int32) (z0 : SH) : ∀ (q : (Int64 × SH)) (sz : Nat), fX5_cash a1 a2 z0 = some q → Met l yX5_cash wsX5_cash rmX5_cash (cP D vwCl (tyl cI cJ cZ) (wM cI cJ cZ ad z0) sz [.ref (ad 0), .int a1, .int a2]) (cQl D vwCl (wM cI cJ cZ ad) z0 sz q) 0 0 (va_A (wM cI cJ cZ ad z0) sz) := by
  intro q sz h
  refine ofW_l (cc := cX5_cash) (maxL := 3) (by decide) rfl (wM_same cI cJ cZ ad) (Nat.le_of_ble_eq_true rfl) (fun p e s m below meth c ls hsz C hR hP hl => ?_)
  exact wX5_cash C hR a1 a2 z0 h hP va_S.rf hl
