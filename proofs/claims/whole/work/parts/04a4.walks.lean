abbrev rmX5_shares : Room := { frames := 2, cells := 0, slots := 0, locals := 42 }
theorem fX5_shares_i16 : Cond.fieldLink RX5 16 (TX5 4).1 (TX5 4).2.1 (TX5 4).2.2.1 ∈ wsX5_shares := by decide +kernel
theorem fX5_shares_i20 : Cond.fieldLink RX5 20 (TX5 5).1 (TX5 5).2.1 (TX5 5).2.2.1 ∈ wsX5_shares := by decide +kernel
theorem fX5_shares_i23 : Cond.fieldLink RX5 23 (TX5 6).1 (TX5 6).2.1 (TX5 6).2.2.1 ∈ wsX5_shares := by decide +kernel
theorem fX5_shares_i26 : Cond.fieldLink RX5 26 (TX5 7).1 (TX5 7).2.1 (TX5 7).2.2.1 ∈ wsX5_shares := by decide +kernel
theorem fX5_shares_i93 : Cond.fieldLink RX5 93 (TX5 0).1 (TX5 0).2.1 (TX5 0).2.2.1 ∈ wsX5_shares := by decide +kernel
theorem iX5_shares_X5 : ∀ x ∈ wsX50, x ∈ wsX5_shares := by decide +kernel
set_option maxRecDepth 100000 in
set_option maxHeartbeats 4000000 in
theorem wX5_shares_103 {p : Program} {l : Launch} {e : Env} {R : Room} {s : State} {m : MethodId} {args : Array Value} {below : List Frame} {meth : Method} {c : Code} {Q : State → Prop} {D : va_G} {cI cJ cZ : ClassId} {ad : Nat → Nat} {A : Nat → Prop} (C : Cx p s m args c cX5_shares 5 wsX5_shares RX5 D vwCl (tyl cI cJ cZ) (wM cI cJ cZ ad) A R 2 42) {r : (Int32 × SH)} (hR : Ri p l e R s m args below meth c cX5_shares D vwCl (wM cI cJ cZ ad) A Q r) (t0 : Int32) (z0 : SH) {H : Heap} {locs : List Loc} {ls : Array Slot} (h : fX5_shares_103 t0 z0 = some r) (hP : va_P D vwCl (wM cI cJ cZ ad z0) H) (hS : va_S A s.heap H locs) (hl : lv_has ls 5 []) : W p l e R s m args below meth c H locs 0 0 Q (F0 m 103 ls [.int t0]) := by
  unfold fX5_shares_103 at h
  have hx := C.1.1
  have hb := C.1.2.1
  exact hR 103 _ _ _ _ _ (Option.some.inj h).symm dX5_shares_103 hP hS
set_option maxRecDepth 100000 in
set_option maxHeartbeats 4000000 in
theorem wX5_shares_33 {p : Program} {l : Launch} {e : Env} {R : Room} {s : State} {m : MethodId} {args : Array Value} {below : List Frame} {meth : Method} {c : Code} {Q : State → Prop} {D : va_G} {cI cJ cZ : ClassId} {ad : Nat → Nat} {A : Nat → Prop} (C : Cx p s m args c cX5_shares 5 wsX5_shares RX5 D vwCl (tyl cI cJ cZ) (wM cI cJ cZ ad) A R 2 42) {r : (Int32 × SH)} (hR : Ri p l e R s m args below meth c cX5_shares D vwCl (wM cI cJ cZ ad) A Q r) (x1 : Int32) (x2 : Int32) (x3 : Int32) (t0 : Int32) (z0 : SH) {H : Heap} {locs : List Loc} {ls : Array Slot} (h : fX5_shares_33 x1 x2 x3 t0 z0 = some r) (hP : va_P D vwCl (wM cI cJ cZ ad z0) H) (hS : va_S A s.heap H locs) (hl : lv_has ls 5 [(0, .ref (ad 0)), (1, .int x1), (2, .int x2), (3, .int x3)]) : W p l e R s m args below meth c H locs 0 0 Q (F0 m 33 ls [.int t0, .ref (ad 0)]) := by
  unfold fX5_shares_33 at h
  have hx := C.1.1
  have hb := C.1.2.1
  refine b_puti C hP hS h iX5_shares_X5 tyX5 tyX5_ok nmX5 0 (wM_0 cI cJ cZ ad z0) rfl 0 (by decide) fX5_shares_i93 rfl rfl rfl (Nat.le_of_ble_eq_true rfl) (wM_si0 cI cJ cZ ad z0 _) dX5_shares_33 (fun z1 _ _ h hP hS => ?_)
  refine lv_aload_n hx hb dX5_shares_36 rfl (lv_at hl 0 rfl) ?_
  refine b_geti C hP h iX5_shares_X5 0 (wM_0 cI cJ cZ ad z1) rfl 0 (by decide) fX5_shares_i93 rfl rfl dX5_shares_37 (fun v2 h => ?_)
  refine lv_if_le (tgt := 45) hx hb dX5_shares_40 (by decide) (fun c1 => ?_) (fun c1 => ?_)
  · replace h := (ite_h h).1 c1
    refine lv_iload_n hx hb dX5_shares_45 rfl (lv_at hl 1 rfl) ?_
    refine lv_iload_n hx hb dX5_shares_46 rfl (lv_at hl 2 rfl) ?_
    refine b_callSi (As := [.int x1, .int x2]) (rest := []) C hP hS h (mX5_cell l D cI cJ cZ ad x1 x2 z1) (va_cwS 2 C.1.2.2.2.2 gX5_shares_X5_cell rfl rfl rfl (by decide +kernel) ⟨Nat.le_trans (Nat.le_of_ble_eq_true rfl) C.2.2.2.2.1, Nat.le_trans (Nat.le_of_ble_eq_true rfl) C.2.2.2.2.2⟩) rfl hl.1 rfl (Nat.le_of_ble_eq_true rfl) dX5_shares_47 (fun v4 z3 _ _ h hP hS => ?_)
    refine lv_istore (lv' := [(4, .int v4), (0, .ref (ad 0)), (1, .int x1), (2, .int x2), (3, .int x3)]) hx hb dX5_shares_50 hl (by decide) rfl (fun ls hl => ?_)
    refine lv_iload_n hx hb dX5_shares_52 rfl (lv_at hl 4 rfl) ?_
    refine lv_if_ne (tgt := 66) hx hb dX5_shares_53 (by decide) (fun c1 => ?_) (fun c1 => ?_)
    · replace h := (ite_h h).2 c1
      refine lv_iload_n hx hb dX5_shares_66 rfl (lv_at hl 4 rfl) ?_
      refine lv_iconst (v := 1) hx hb dX5_shares_67 (by decide) ?_
      refine lv_icmp_ne (tgt := 81) hx hb dX5_shares_68 (by decide) (fun c1 => ?_) (fun c1 => ?_)
      · replace h := (ite_h h).2 c1
        refine lv_iload_n hx hb dX5_shares_81 rfl (lv_at hl 4 rfl) ?_
        refine lv_iconst (v := 2) hx hb dX5_shares_82 (by decide) ?_
        refine lv_icmp_ne (tgt := 96) hx hb dX5_shares_83 (by decide) (fun c1 => ?_) (fun c1 => ?_)
        · replace h := (ite_h h).2 c1
          refine lv_aload_n hx hb dX5_shares_96 rfl (lv_at hl 1 rfl) ?_
          refine b_getr C hP iX5_shares_X5 0 (wM_0 cI cJ cZ ad z3) rfl 7 (by decide) fX5_shares_i26 rfl rfl dX5_shares_97 ?_
          refine lv_iload hx hb dX5_shares_100 (lv_at hl 0 rfl) ?_
          refine b_iald C hP h 6 (wM_6 cI cJ cZ ad z3) 0 rfl dX5_shares_102 (fun v5 h => ?_)
          exact wX5_shares_103 C hR v5 z3 h hP hS (lv_sub hl [] rfl)
        · replace h := (ite_h h).1 c1
          refine lv_aload_n hx hb dX5_shares_86 rfl (lv_at hl 1 rfl) ?_
          refine b_getr C hP iX5_shares_X5 0 (wM_0 cI cJ cZ ad z3) rfl 6 (by decide) fX5_shares_i23 rfl rfl dX5_shares_87 ?_
          refine lv_iload hx hb dX5_shares_90 (lv_at hl 0 rfl) ?_
          refine b_iald C hP h 5 (wM_5 cI cJ cZ ad z3) 0 rfl dX5_shares_92 (fun v6 h => ?_)
          refine lv_goto (tgt := 103) hx hb dX5_shares_93 (by decide) ?_
          exact wX5_shares_103 C hR v6 z3 h hP hS (lv_sub hl [] rfl)
      · replace h := (ite_h h).1 c1
        refine lv_aload_n hx hb dX5_shares_71 rfl (lv_at hl 1 rfl) ?_
        refine b_getr C hP iX5_shares_X5 0 (wM_0 cI cJ cZ ad z3) rfl 5 (by decide) fX5_shares_i20 rfl rfl dX5_shares_72 ?_
        refine lv_iload hx hb dX5_shares_75 (lv_at hl 0 rfl) ?_
        refine b_iald C hP h 4 (wM_4 cI cJ cZ ad z3) 0 rfl dX5_shares_77 (fun v7 h => ?_)
        refine lv_goto (tgt := 103) hx hb dX5_shares_78 (by decide) ?_
        exact wX5_shares_103 C hR v7 z3 h hP hS (lv_sub hl [] rfl)
    · replace h := (ite_h h).1 c1
      refine lv_aload_n hx hb dX5_shares_56 rfl (lv_at hl 1 rfl) ?_
      refine b_getr C hP iX5_shares_X5 0 (wM_0 cI cJ cZ ad z3) rfl 4 (by decide) fX5_shares_i16 rfl rfl dX5_shares_57 ?_
      refine lv_iload hx hb dX5_shares_60 (lv_at hl 0 rfl) ?_
      refine b_iald C hP h 3 (wM_3 cI cJ cZ ad z3) 0 rfl dX5_shares_62 (fun v8 h => ?_)
      refine lv_goto (tgt := 103) hx hb dX5_shares_63 (by decide) ?_
      exact wX5_shares_103 C hR v8 z3 h hP hS (lv_sub hl [] rfl)
  · replace h := (ite_h h).2 c1
    refine lv_iconst (v := 0) hx hb dX5_shares_43 (by decide) ?_
    exact hR 44 _ _ _ _ _ (Option.some.inj h).symm dX5_shares_44 hP hS
set_option maxRecDepth 100000 in
set_option maxHeartbeats 4000000 in
theorem wX5_shares_15 {p : Program} {l : Launch} {e : Env} {R : Room} {s : State} {m : MethodId} {args : Array Value} {below : List Frame} {meth : Method} {c : Code} {Q : State → Prop} {D : va_G} {cI cJ cZ : ClassId} {ad : Nat → Nat} {A : Nat → Prop} (C : Cx p s m args c cX5_shares 5 wsX5_shares RX5 D vwCl (tyl cI cJ cZ) (wM cI cJ cZ ad) A R 2 42) {r : (Int32 × SH)} (hR : Ri p l e R s m args below meth c cX5_shares D vwCl (wM cI cJ cZ ad) A Q r) (x1 : Int32) (x2 : Int32) (x3 : Int32) (z0 : SH) {H : Heap} {locs : List Loc} {ls : Array Slot} (h : fX5_shares_15 x1 x2 x3 z0 = some r) (hP : va_P D vwCl (wM cI cJ cZ ad z0) H) (hS : va_S A s.heap H locs) (hl : lv_has ls 5 [(0, .ref (ad 0)), (1, .int x1), (2, .int x2), (3, .int x3)]) : W p l e R s m args below meth c H locs 0 0 Q (F0 m 15 ls [.ref (ad 0)]) := by
  unfold fX5_shares_15 at h
  have hx := C.1.1
  have hb := C.1.2.1
  refine lv_iconst (v := 1) hx hb dX5_shares_15 (by decide) ?_
  refine lv_goto (tgt := 33) hx hb dX5_shares_16 (by decide) ?_
  exact wX5_shares_33 C hR x1 x2 x3 1 z0 h hP hS (lv_sub hl [0, 1, 2, 3] rfl)
set_option maxRecDepth 100000 in
set_option maxHeartbeats 4000000 in
theorem wX5_shares {p : Program} {l : Launch} {e : Env} {R : Room} {s : State} {m : MethodId} {args : Array Value} {below : List Frame} {meth : Method} {c : Code} {Q : State → Prop} {D : va_G} {cI cJ cZ : ClassId} {ad : Nat → Nat} {A : Nat → Prop} (C : Cx p s m args c cX5_shares 5 wsX5_shares RX5 D vwCl (tyl cI cJ cZ) (wM cI cJ cZ ad) A R 2 42) {r : (Int32 × SH)} (hR : Ri p l e R s m args below meth c cX5_shares D vwCl (wM cI cJ cZ ad) A Q r) (a1 : Int32) (a2 : Int32) (a3 : Int32) (z0 : SH) {H : Heap} {locs : List Loc} {ls : Array Slot} (h : fX5_shares a1 a2 a3 z0 = some r) (hP : va_P D vwCl (wM cI cJ cZ ad z0) H) (hS : va_S A s.heap H locs) (hl : lv_has ls 5 [(0, .ref (ad 0)), (1, .int a1), (2, .int a2), (3, .int a3)]) : W p l e R s m args below meth c H locs 0 0 Q (F0 m 0 ls []) := by
  unfold fX5_shares at h
  have hx := C.1.1
  have hb := C.1.2.1
  refine lv_aload_n hx hb dX5_shares_0 rfl (lv_at hl 0 rfl) ?_
  refine lv_iload_n hx hb dX5_shares_1 rfl (lv_at hl 1 rfl) ?_
  refine b_callSi (As := [.int a1]) (rest := [.ref (ad 0)]) C hP hS h (mX5_isAccount l D cI cJ cZ ad a1 z0) (va_cwS 1 C.1.2.2.2.2 gX5_shares_X5_isAccount rfl rfl rfl (by decide +kernel) ⟨Nat.le_trans (Nat.le_of_ble_eq_true rfl) C.2.2.2.2.1, Nat.le_trans (Nat.le_of_ble_eq_true rfl) C.2.2.2.2.2⟩) rfl hl.1 rfl (Nat.le_of_ble_eq_true rfl) dX5_shares_2 (fun v2 z1 _ _ h hP hS => ?_)
  refine lv_if_eq (tgt := 15) hx hb dX5_shares_5 (by decide) (fun c1 => ?_) (fun c1 => ?_)
  · replace h := (ite_h h).1 c1
    exact wX5_shares_15 C hR a1 a2 a3 z1 h hP hS (lv_sub hl [0, 1, 2, 3] rfl)
  · replace h := (ite_h h).2 c1
    refine lv_iload_n hx hb dX5_shares_8 rfl (lv_at hl 2 rfl) ?_
    refine b_callSi (As := [.int a2]) (rest := [.ref (ad 0)]) C hP hS h (mX5_isSymbol l D cI cJ cZ ad a2 z1) (va_cwS 1 C.1.2.2.2.2 gX5_shares_X5_isSymbol rfl rfl rfl (by decide +kernel) ⟨Nat.le_trans (Nat.le_of_ble_eq_true rfl) C.2.2.2.2.1, Nat.le_trans (Nat.le_of_ble_eq_true rfl) C.2.2.2.2.2⟩) rfl hl.1 rfl (Nat.le_of_ble_eq_true rfl) dX5_shares_9 (fun v4 z3 _ _ h hP hS => ?_)
    refine lv_if_ne (tgt := 19) hx hb dX5_shares_12 (by decide) (fun c1 => ?_) (fun c1 => ?_)
    · replace h := (ite_h h).2 c1
      refine lv_iload_n hx hb dX5_shares_19 rfl (lv_at hl 3 rfl) ?_
      refine lv_iconst (v := 0) hx hb dX5_shares_20 (by decide) ?_
      refine lv_iconst (v := 3) hx hb dX5_shares_21 (by decide) ?_
      refine b_callSi (As := [.int a3, .int 0, .int 3]) (rest := [.ref (ad 0)]) C hP hS h (mX5_isIn l D cI cJ cZ ad a3 0 3 z3) (va_cwS 3 C.1.2.2.2.2 gX5_shares_X5_isIn rfl rfl rfl (by decide +kernel) ⟨Nat.le_trans (Nat.le_of_ble_eq_true rfl) C.2.2.2.2.1, Nat.le_trans (Nat.le_of_ble_eq_true rfl) C.2.2.2.2.2⟩) rfl hl.1 rfl (Nat.le_of_ble_eq_true rfl) dX5_shares_22 (fun v6 z5 _ _ h hP hS => ?_)
      refine lv_if_ne (tgt := 32) hx hb dX5_shares_25 (by decide) (fun c1 => ?_) (fun c1 => ?_)
      · replace h := (ite_h h).2 c1
        refine lv_iconst (v := 0) hx hb dX5_shares_32 (by decide) ?_
        exact wX5_shares_33 C hR a1 a2 a3 0 z5 h hP hS (lv_sub hl [0, 1, 2, 3] rfl)
      · replace h := (ite_h h).1 c1
        refine lv_iconst (v := 2) hx hb dX5_shares_28 (by decide) ?_
        refine lv_goto (tgt := 33) hx hb dX5_shares_29 (by decide) ?_
        exact wX5_shares_33 C hR a1 a2 a3 2 z5 h hP hS (lv_sub hl [0, 1, 2, 3] rfl)
    · replace h := (ite_h h).1 c1
      exact wX5_shares_15 C hR a1 a2 a3 z3 h hP hS (lv_sub hl [0, 1, 2, 3] rfl)
theorem mX5_shares (l : Launch) (D : va_G) (cI cJ cZ : ClassId) (ad : Nat → Nat) (a1 : Int32) (a2 : Int32) (a3 : Int32) (z0 : SH) : ∀ (q : (Int32 × SH)) (sz : Nat), fX5_shares a1 a2 a3 z0 = some q → Met l yX5_shares wsX5_shares rmX5_shares (cP D vwCl (tyl cI cJ cZ) (wM cI cJ cZ ad z0) sz [.ref (ad 0), .int a1, .int a2, .int a3]) (cQi D vwCl (wM cI cJ cZ ad) z0 sz q) 0 0 (va_A (wM cI cJ cZ ad z0) sz) := by
  intro q sz h
  refine ofW_i (cc := cX5_shares) (maxL := 5) (by decide) rfl (wM_same cI cJ cZ ad) (Nat.le_of_ble_eq_true rfl) (fun p e s m below meth c ls hsz C hR hP hl => ?_)
  exact wX5_shares C hR a1 a2 a3 z0 h hP va_S.rf hl
abbrev rmX5_count : Room := { frames := 2, cells := 0, slots := 0, locals := 43 }
theorem fX5_count_i116 : Cond.fieldLink RX5 116 (TX5 9).1 (TX5 9).2.1 (TX5 9).2.2.1 ∈ wsX5_count := by decide +kernel
theorem fX5_count_i132 : Cond.fieldLink RX5 132 (TX5 26).1 (TX5 26).2.1 (TX5 26).2.2.1 ∈ wsX5_count := by decide +kernel
theorem fX5_count_i181 : Cond.fieldLink RX5 181 (TX5 1).1 (TX5 1).2.1 (TX5 1).2.2.1 ∈ wsX5_count := by decide +kernel
theorem fX5_count_i29 : Cond.fieldLink RX5 29 (TX5 8).1 (TX5 8).2.1 (TX5 8).2.2.1 ∈ wsX5_count := by decide +kernel
theorem fX5_count_i93 : Cond.fieldLink RX5 93 (TX5 0).1 (TX5 0).2.1 (TX5 0).2.2.1 ∈ wsX5_count := by decide +kernel
theorem iX5_count_X5 : ∀ x ∈ wsX50, x ∈ wsX5_count := by decide +kernel
set_option maxRecDepth 100000 in
set_option maxHeartbeats 4000000 in
theorem wX5_count_80 {p : Program} {l : Launch} {e : Env} {R : Room} {s : State} {m : MethodId} {args : Array Value} {below : List Frame} {meth : Method} {c : Code} {Q : State → Prop} {D : va_G} {cI cJ cZ : ClassId} {ad : Nat → Nat} {A : Nat → Prop} (C : Cx p s m args c cX5_count 4 wsX5_count RX5 D vwCl (tyl cI cJ cZ) (wM cI cJ cZ ad) A R 2 43) {r : (Int32 × SH)} (hR : Ri p l e R s m args below meth c cX5_count D vwCl (wM cI cJ cZ ad) A Q r) (N : Nat) (t0 : Int32) (z0 : SH) {H : Heap} {locs : List Loc} {ls : Array Slot} (h : fX5_count_80 N t0 z0 = some r) (hP : va_P D vwCl (wM cI cJ cZ ad z0) H) (hS : va_S A s.heap H locs) (hl : lv_has ls 4 []) : W p l e R s m args below meth c H locs 0 0 Q (F0 m 80 ls [.int t0]) := by
  unfold fX5_count_80 at h
  have hx := C.1.1
  have hb := C.1.2.1
  exact hR 80 _ _ _ _ _ (Option.some.inj h).symm dX5_count_80 hP hS
set_option maxRecDepth 100000 in
set_option maxHeartbeats 4000000 in
theorem wX5_count_30 {p : Program} {l : Launch} {e : Env} {R : Room} {s : State} {m : MethodId} {args : Array Value} {below : List Frame} {meth : Method} {c : Code} {Q : State → Prop} {D : va_G} {cI cJ cZ : ClassId} {ad : Nat → Nat} {A : Nat → Prop} (C : Cx p s m args c cX5_count 4 wsX5_count RX5 D vwCl (tyl cI cJ cZ) (wM cI cJ cZ ad) A R 2 43) {r : (Int32 × SH)} (hR : Ri p l e R s m args below meth c cX5_count D vwCl (wM cI cJ cZ ad) A Q r) (N : Nat) (x1 : Int32) (z0 : SH) {H : Heap} {locs : List Loc} {ls : Array Slot} (h : fX5_count_30 N x1 z0 = some r) (hP : va_P D vwCl (wM cI cJ cZ ad z0) H) (hS : va_S A s.heap H locs) (hl : lv_has ls 4 [(0, .ref (ad 0)), (1, .int x1)]) : W p l e R s m args below meth c H locs 0 0 Q (F0 m 30 ls []) := by
  unfold fX5_count_30 at h
  have hx := C.1.1
  have hb := C.1.2.1
  refine lv_aload_n hx hb dX5_count_30 rfl (lv_at hl 0 rfl) ?_
  refine b_geti C hP h iX5_count_X5 0 (wM_0 cI cJ cZ ad z0) rfl 0 (by decide) fX5_count_i93 rfl rfl dX5_count_31 (fun v1 h => ?_)
  refine lv_if_le (tgt := 41) hx hb dX5_count_34 (by decide) (fun c1 => ?_) (fun c1 => ?_)
  · replace h := (ite_h h).1 c1
    refine lv_iload_n hx hb dX5_count_41 rfl (lv_at hl 1 rfl) ?_
    refine lv_if_ne (tgt := 52) hx hb dX5_count_42 (by decide) (fun c1 => ?_) (fun c1 => ?_)
    · replace h := (ite_h h).2 c1
      refine lv_iload_n hx hb dX5_count_52 rfl (lv_at hl 1 rfl) ?_
      refine lv_iconst (v := 1) hx hb dX5_count_53 (by decide) ?_
      refine lv_icmp_ne (tgt := 64) hx hb dX5_count_54 (by decide) (fun c1 => ?_) (fun c1 => ?_)
      · replace h := (ite_h h).2 c1
        refine lv_iload_n hx hb dX5_count_64 rfl (lv_at hl 1 rfl) ?_
        refine lv_iconst (v := 2) hx hb dX5_count_65 (by decide) ?_
        refine lv_icmp_ne (tgt := 76) hx hb dX5_count_66 (by decide) (fun c1 => ?_) (fun c1 => ?_)
        · replace h := (ite_h h).2 c1
          refine lv_aload_n hx hb dX5_count_76 rfl (lv_at hl 0 rfl) ?_
          refine b_geti C hP h iX5_count_X5 0 (wM_0 cI cJ cZ ad z0) rfl 1 (by decide) fX5_count_i181 rfl rfl dX5_count_77 (fun v2 h => ?_)
          exact wX5_count_80 C hR N v2 z0 h hP hS (lv_sub hl [] rfl)
        · replace h := (ite_h h).1 c1
          refine lv_aload_n hx hb dX5_count_69 rfl (lv_at hl 0 rfl) ?_
          refine b_callVi (As := []) (rest := []) C hP hS h (mX5_there l D cI cJ cZ ad N z0) (cwV 0 C.1.2.2.2.2 gX5_count_X5_there rfl rfl rfl (by decide +kernel) ⟨Nat.le_trans (Nat.le_of_ble_eq_true rfl) C.2.2.2.2.1, Nat.le_trans (Nat.le_of_ble_eq_true rfl) C.2.2.2.2.2⟩) (va_recv C.2.1 hP (ci := 5) (q0 := 0) rfl (wM_0 cI cJ cZ ad z0)) rfl hl.1 rfl (Nat.le_of_ble_eq_true rfl) dX5_count_70 (fun v4 z3 _ _ h hP hS => ?_)
          refine lv_goto (tgt := 80) hx hb dX5_count_73 (by decide) ?_
          exact wX5_count_80 C hR N v4 z3 h hP hS (lv_sub hl [] rfl)
      · replace h := (ite_h h).1 c1
        refine lv_aload_n hx hb dX5_count_57 rfl (lv_at hl 0 rfl) ?_
        refine b_geti C hP h iX5_count_X5 0 (wM_0 cI cJ cZ ad z0) rfl 9 (by decide) fX5_count_i116 rfl rfl dX5_count_58 (fun v5 h => ?_)
        refine lv_goto (tgt := 80) hx hb dX5_count_61 (by decide) ?_
        exact wX5_count_80 C hR N v5 z0 h hP hS (lv_sub hl [] rfl)
    · replace h := (ite_h h).1 c1
      refine lv_aload_n hx hb dX5_count_45 rfl (lv_at hl 0 rfl) ?_
      refine b_geti C hP h iX5_count_X5 0 (wM_0 cI cJ cZ ad z0) rfl 26 (by decide) fX5_count_i132 rfl rfl dX5_count_46 (fun v6 h => ?_)
      refine lv_goto (tgt := 80) hx hb dX5_count_49 (by decide) ?_
      exact wX5_count_80 C hR N v6 z0 h hP hS (lv_sub hl [] rfl)
  · replace h := (ite_h h).2 c1
    refine lv_iconst (v := 0) hx hb dX5_count_37 (by decide) ?_
    refine lv_goto (tgt := 80) hx hb dX5_count_38 (by decide) ?_
    exact wX5_count_80 C hR N 0 z0 h hP hS (lv_sub hl [] rfl)
set_option maxRecDepth 100000 in
set_option maxHeartbeats 4000000 in
theorem wX5_count_108 {p : Program} {l : Launch} {e : Env} {R : Room} {s : State} {m : MethodId} {args : Array Value} {below : List Frame} {meth : Method} {c : Code} {Q : State → Prop} {D : va_G} {cI cJ cZ : ClassId} {ad : Nat → Nat} {A : Nat → Prop} (C : Cx p s m args c cX5_count 4 wsX5_count RX5 D vwCl (tyl cI cJ cZ) (wM cI cJ cZ ad) A R 2 43) {r : (Int32 × SH)} (hR : Ri p l e R s m args below meth c cX5_count D vwCl (wM cI cJ cZ ad) A Q r) (N : Nat) (k85 : Int32 → Int32 → SH → Option (Int32 × SH)) (K85 : ∀ (x2 : Int32) (x3 : Int32) (z : SH) (H : Heap) (locs : List Loc) (ls : Array Slot), k85 x2 x3 z = some r → va_P D vwCl (wM cI cJ cZ ad z) H → va_S A s.heap H locs → lv_has ls 4 [(0, .ref (ad 0)), (2, .int x2), (3, .int x3)] → W p l e R s m args below meth c H locs 0 0 Q (F0 m 85 ls [])) (x3 : Int32) (t0 : Int32) (z0 : SH) {H : Heap} {locs : List Loc} {ls : Array Slot} (h : fX5_count_108 N k85 x3 t0 z0 = some r) (hP : va_P D vwCl (wM cI cJ cZ ad z0) H) (hS : va_S A s.heap H locs) (hl : lv_has ls 4 [(0, .ref (ad 0)), (3, .int x3)]) : W p l e R s m args below meth c H locs 0 0 Q (F0 m 108 ls [.int t0]) := by
  unfold fX5_count_108 at h
  have hx := C.1.1
  have hb := C.1.2.1
  refine lv_istore_n (lv' := [(2, .int t0), (0, .ref (ad 0)), (3, .int x3)]) hx hb dX5_count_108 rfl hl (by decide) rfl (fun ls hl => ?_)
  refine lv_iinc (v := x3 + 1) (lv' := [(3, .int (x3 + 1)), (2, .int t0), (0, .ref (ad 0))]) hx hb dX5_count_109 hl (k := 2) rfl rfl (by decide) rfl (fun ls hl => ?_)
  refine lv_goto (tgt := 85) hx hb dX5_count_112 (by decide) ?_
  exact K85 t0 (x3 + 1) z0 _ _ _ h hP hS (lv_sub hl [2, 1, 0] rfl)
set_option maxRecDepth 100000 in
set_option maxHeartbeats 4000000 in
theorem wX5_count_85 {p : Program} {l : Launch} {e : Env} {R : Room} {s : State} {m : MethodId} {args : Array Value} {below : List Frame} {meth : Method} {c : Code} {Q : State → Prop} {D : va_G} {cI cJ cZ : ClassId} {ad : Nat → Nat} {A : Nat → Prop} (C : Cx p s m args c cX5_count 4 wsX5_count RX5 D vwCl (tyl cI cJ cZ) (wM cI cJ cZ ad) A R 2 43) {r : (Int32 × SH)} (hR : Ri p l e R s m args below meth c cX5_count D vwCl (wM cI cJ cZ ad) A Q r) (N : Nat) (k85 : Int32 → Int32 → SH → Option (Int32 × SH)) (K85 : ∀ (x2 : Int32) (x3 : Int32) (z : SH) (H : Heap) (locs : List Loc) (ls : Array Slot), k85 x2 x3 z = some r → va_P D vwCl (wM cI cJ cZ ad z) H → va_S A s.heap H locs → lv_has ls 4 [(0, .ref (ad 0)), (2, .int x2), (3, .int x3)] → W p l e R s m args below meth c H locs 0 0 Q (F0 m 85 ls [])) (x2 : Int32) (x3 : Int32) (z0 : SH) {H : Heap} {locs : List Loc} {ls : Array Slot} (h : fX5_count_85 N k85 x2 x3 z0 = some r) (hP : va_P D vwCl (wM cI cJ cZ ad z0) H) (hS : va_S A s.heap H locs) (hl : lv_has ls 4 [(0, .ref (ad 0)), (2, .int x2), (3, .int x3)]) : W p l e R s m args below meth c H locs 0 0 Q (F0 m 85 ls []) := by
  unfold fX5_count_85 at h
  have hx := C.1.1
  have hb := C.1.2.1
  refine lv_iload_n hx hb dX5_count_85 rfl (lv_at hl 2 rfl) ?_
  refine lv_sipush (v := 512) hx hb dX5_count_86 (by decide) ?_
  refine lv_icmp_ge (tgt := 115) hx hb dX5_count_89 (by decide) (fun c1 => ?_) (fun c1 => ?_)
  · replace h := (ite_h h).1 c1
    refine lv_iload_n hx hb dX5_count_115 rfl (lv_at hl 1 rfl) ?_
    exact hR 116 _ _ _ _ _ (Option.some.inj h).symm dX5_count_116 hP hS
  · replace h := (ite_h h).2 c1
    refine lv_aload_n hx hb dX5_count_92 rfl (lv_at hl 0 rfl) ?_
    refine b_getr C hP iX5_count_X5 0 (wM_0 cI cJ cZ ad z0) rfl 8 (by decide) fX5_count_i29 rfl rfl dX5_count_93 ?_
    refine lv_iload_n hx hb dX5_count_96 rfl (lv_at hl 2 rfl) ?_
    refine b_zald C hP h 7 (wM_7 cI cJ cZ ad z0) 2 rfl dX5_count_97 (fun v1 h => ?_)
    refine lv_if_eq (tgt := 107) hx hb dX5_count_98 (by decide) (fun c1 => ?_) (fun c1 => ?_)
    · replace h := (ite_h h).1 c1
      refine lv_iload_n hx hb dX5_count_107 rfl (lv_at hl 1 rfl) ?_
      exact wX5_count_108 C hR N k85 K85 x3 x2 z0 h hP hS (lv_sub hl [0, 2] rfl)
    · replace h := (ite_h h).2 c1
      refine lv_iload_n hx hb dX5_count_101 rfl (lv_at hl 1 rfl) ?_
      refine lv_iconst (v := 1) hx hb dX5_count_102 (by decide) ?_
      refine lv_iadd hx hb dX5_count_103 ?_
      refine lv_goto (tgt := 108) hx hb dX5_count_104 (by decide) ?_
      exact wX5_count_108 C hR N k85 K85 x3 (x2 + 1) z0 h hP hS (lv_sub hl [0, 2] rfl)
theorem wX5_count_85_L {p : Program} {l : Launch} {e : Env} {R : Room} {s : State} {m : MethodId} {args : Array Value} {below : List Frame} {meth : Method} {c : Code} {Q : State → Prop} {D : va_G} {cI cJ cZ : ClassId} {ad : Nat → Nat} {A : Nat → Prop} (C : Cx p s m args c cX5_count 4 wsX5_count RX5 D vwCl (tyl cI cJ cZ) (wM cI cJ cZ ad) A R 2 43) {r : (Int32 × SH)} (hR : Ri p l e R s m args below meth c cX5_count D vwCl (wM cI cJ cZ ad) A Q r) (N : Nat) : ∀ (n : Nat), ∀ (x2 : Int32) (x3 : Int32) (z : SH) (H : Heap) (locs : List Loc) (ls : Array Slot), fX5_count_85_L N n x2 x3 z = some r → va_P D vwCl (wM cI cJ cZ ad z) H → va_S A s.heap H locs → lv_has ls 4 [(0, .ref (ad 0)), (2, .int x2), (3, .int x3)] → W p l e R s m args below meth c H locs 0 0 Q (F0 m 85 ls []) := by
  intro n
  induction n with
  | zero => intro x2 x3 z H locs ls h; exact nomatch (show (none : Option (Int32 × SH)) = some r from h)
  | succ n ih => intro x2 x3 z H locs ls h hP hS hl; exact wX5_count_85 C hR N (fX5_count_85_L N n) ih x2 x3 z (show fX5_count_85 N (fX5_count_85_L N n) x2 x3 z = some r from h) hP hS hl
set_option maxRecDepth 100000 in
set_option maxHeartbeats 4000000 in
theorem wX5_count_15 {p : Program} {l : Launch} {e : Env} {R : Room} {s : State} {m : MethodId} {args : Array Value} {below : List Frame} {meth : Method} {c : Code} {Q : State → Prop} {D : va_G} {cI cJ cZ : ClassId} {ad : Nat → Nat} {A : Nat → Prop} (C : Cx p s m args c cX5_count 4 wsX5_count RX5 D vwCl (tyl cI cJ cZ) (wM cI cJ cZ ad) A R 2 43) {r : (Int32 × SH)} (hR : Ri p l e R s m args below meth c cX5_count D vwCl (wM cI cJ cZ ad) A Q r) (N : Nat) (x1 : Int32) (t0 : Int32) (z0 : SH) {H : Heap} {locs : List Loc} {ls : Array Slot} (h : fX5_count_15 N x1 t0 z0 = some r) (hP : va_P D vwCl (wM cI cJ cZ ad z0) H) (hS : va_S A s.heap H locs) (hl : lv_has ls 4 [(0, .ref (ad 0)), (1, .int x1)]) : W p l e R s m args below meth c H locs 0 0 Q (F0 m 15 ls [.int t0, .ref (ad 0)]) := by
  unfold fX5_count_15 at h
  have hx := C.1.1
  have hb := C.1.2.1
  refine b_puti C hP hS h iX5_count_X5 tyX5 tyX5_ok nmX5 0 (wM_0 cI cJ cZ ad z0) rfl 0 (by decide) fX5_count_i93 rfl rfl rfl (Nat.le_of_ble_eq_true rfl) (wM_si0 cI cJ cZ ad z0 _) dX5_count_15 (fun z1 _ _ h hP hS => ?_)
  refine lv_aload_n hx hb dX5_count_18 rfl (lv_at hl 0 rfl) ?_
  refine b_geti C hP h iX5_count_X5 0 (wM_0 cI cJ cZ ad z1) rfl 0 (by decide) fX5_count_i93 rfl rfl dX5_count_19 (fun v2 h => ?_)
  refine lv_if_gt (tgt := 30) hx hb dX5_count_22 (by decide) (fun c1 => ?_) (fun c1 => ?_)
  · replace h := (ite_h h).1 c1
    exact wX5_count_30 C hR N x1 z1 h hP hS (lv_sub hl [0, 1] rfl)
  · replace h := (ite_h h).2 c1
    refine lv_iload_n hx hb dX5_count_25 rfl (lv_at hl 1 rfl) ?_
    refine lv_iconst (v := 3) hx hb dX5_count_26 (by decide) ?_
    refine lv_icmp_eq (tgt := 81) hx hb dX5_count_27 (by decide) (fun c1 => ?_) (fun c1 => ?_)
    · replace h := (ite_h h).1 c1
      refine lv_iconst (v := 0) hx hb dX5_count_81 (by decide) ?_
      refine lv_istore_n (lv' := [(2, .int 0), (0, .ref (ad 0)), (1, .int x1)]) hx hb dX5_count_82 rfl hl (by decide) rfl (fun ls hl => ?_)
      refine lv_iconst (v := 0) hx hb dX5_count_83 (by decide) ?_
      refine lv_istore_n (lv' := [(3, .int 0), (2, .int 0), (0, .ref (ad 0)), (1, .int x1)]) hx hb dX5_count_84 rfl hl (by decide) rfl (fun ls hl => ?_)
      exact wX5_count_85_L C hR N N 0 0 z1 _ _ _ h hP hS (lv_sub hl [2, 1, 0] rfl)
    · replace h := (ite_h h).2 c1
      exact wX5_count_30 C hR N x1 z1 h hP hS (lv_sub hl [0, 1] rfl)
set_option maxRecDepth 100000 in
set_option maxHeartbeats 4000000 in
theorem wX5_count {p : Program} {l : Launch} {e : Env} {R : Room} {s : State} {m : MethodId} {args : Array Value} {below : List Frame} {meth : Method} {c : Code} {Q : State → Prop} {D : va_G} {cI cJ cZ : ClassId} {ad : Nat → Nat} {A : Nat → Prop} (C : Cx p s m args c cX5_count 4 wsX5_count RX5 D vwCl (tyl cI cJ cZ) (wM cI cJ cZ ad) A R 2 43) {r : (Int32 × SH)} (hR : Ri p l e R s m args below meth c cX5_count D vwCl (wM cI cJ cZ ad) A Q r) (N : Nat) (a1 : Int32) (z0 : SH) {H : Heap} {locs : List Loc} {ls : Array Slot} (h : fX5_count N a1 z0 = some r) (hP : va_P D vwCl (wM cI cJ cZ ad z0) H) (hS : va_S A s.heap H locs) (hl : lv_has ls 4 [(0, .ref (ad 0)), (1, .int a1)]) : W p l e R s m args below meth c H locs 0 0 Q (F0 m 0 ls []) := by
  unfold fX5_count at h
  have hx := C.1.1
  have hb := C.1.2.1
  refine lv_aload_n hx hb dX5_count_0 rfl (lv_at hl 0 rfl) ?_
  refine lv_iload_n hx hb dX5_count_1 rfl (lv_at hl 1 rfl) ?_
  refine lv_iconst (v := 0) hx hb dX5_count_2 (by decide) ?_
  refine lv_iconst (v := 4) hx hb dX5_count_3 (by decide) ?_
  refine b_callSi (As := [.int a1, .int 0, .int 4]) (rest := [.ref (ad 0)]) C hP hS h (mX5_isIn l D cI cJ cZ ad a1 0 4 z0) (va_cwS 3 C.1.2.2.2.2 gX5_count_X5_isIn rfl rfl rfl (by decide +kernel) ⟨Nat.le_trans (Nat.le_of_ble_eq_true rfl) C.2.2.2.2.1, Nat.le_trans (Nat.le_of_ble_eq_true rfl) C.2.2.2.2.2⟩) rfl hl.1 rfl (Nat.le_of_ble_eq_true rfl) dX5_count_4 (fun v2 z1 _ _ h hP hS => ?_)
  refine lv_if_eq (tgt := 14) hx hb dX5_count_7 (by decide) (fun c1 => ?_) (fun c1 => ?_)
  · replace h := (ite_h h).1 c1
    refine lv_iconst (v := 1) hx hb dX5_count_14 (by decide) ?_
    exact wX5_count_15 C hR N a1 1 z1 h hP hS (lv_sub hl [0, 1] rfl)
  · replace h := (ite_h h).2 c1
    refine lv_iconst (v := 0) hx hb dX5_count_10 (by decide) ?_
    refine lv_goto (tgt := 15) hx hb dX5_count_11 (by decide) ?_
    exact wX5_count_15 C hR N a1 0 z1 h hP hS (lv_sub hl [0, 1] rfl)
theorem mX5_count (l : Launch) (D : va_G) (cI cJ cZ : ClassId) (ad : Nat → Nat) (N : Nat) (a1 : Int32) (z0 : SH) : ∀ (q : (Int32 × SH)) (sz : Nat), fX5_count N a1 z0 = some q → Met l yX5_count wsX5_count rmX5_count (cP D vwCl (tyl cI cJ cZ) (wM cI cJ cZ ad z0) sz [.ref (ad 0), .int a1]) (cQi D vwCl (wM cI cJ cZ ad) z0 sz q) 0 0 (va_A (wM cI cJ cZ ad z0) sz) := by
  intro q sz h
  refine ofW_i (cc := cX5_count) (maxL := 4) (by decide) rfl (wM_same cI cJ cZ ad) (Nat.le_of_ble_eq_true rfl) (fun p e s m below meth c ls hsz C hR hP hl => ?_)
  exact wX5_count C hR N a1 z0 h hP va_S.rf hl
abbrev rmX5_trade : Room := { frames := 1, cells := 0, slots := 0, locals := 22 }
theorem fX5_trade_i132 : Cond.fieldLink RX5 132 (TX5 26).1 (TX5 26).2.1 (TX5 26).2.2.1 ∈ wsX5_trade := by decide +kernel
theorem fX5_trade_i78 : Cond.fieldLink RX5 78 (TX5 27).1 (TX5 27).2.1 (TX5 27).2.2.1 ∈ wsX5_trade := by decide +kernel
theorem fX5_trade_i93 : Cond.fieldLink RX5 93 (TX5 0).1 (TX5 0).2.1 (TX5 0).2.2.1 ∈ wsX5_trade := by decide +kernel
theorem iX5_trade_X5 : ∀ x ∈ wsX50, x ∈ wsX5_trade := by decide +kernel
set_option maxRecDepth 100000 in
set_option maxHeartbeats 4000000 in
theorem wX5_trade_62 {p : Program} {l : Launch} {e : Env} {R : Room} {s : State} {m : MethodId} {args : Array Value} {below : List Frame} {meth : Method} {c : Code} {Q : State → Prop} {D : va_G} {cI cJ cZ : ClassId} {ad : Nat → Nat} {A : Nat → Prop} (C : Cx p s m args c cX5_trade 3 wsX5_trade RX5 D vwCl (tyl cI cJ cZ) (wM cI cJ cZ ad) A R 1 22) {r : (Int32 × SH)} (hR : Ri p l e R s m args below meth c cX5_trade D vwCl (wM cI cJ cZ ad) A Q r) (t0 : Int32) (z0 : SH) {H : Heap} {locs : List Loc} {ls : Array Slot} (h : fX5_trade_62 t0 z0 = some r) (hP : va_P D vwCl (wM cI cJ cZ ad z0) H) (hS : va_S A s.heap H locs) (hl : lv_has ls 3 []) : W p l e R s m args below meth c H locs 0 0 Q (F0 m 62 ls [.int t0]) := by
  unfold fX5_trade_62 at h
  have hx := C.1.1
  have hb := C.1.2.1
  exact hR 62 _ _ _ _ _ (Option.some.inj h).symm dX5_trade_62 hP hS
set_option maxRecDepth 100000 in
set_option maxHeartbeats 4000000 in
theorem wX5_trade_38 {p : Program} {l : Launch} {e : Env} {R : Room} {s : State} {m : MethodId} {args : Array Value} {below : List Frame} {meth : Method} {c : Code} {Q : State → Prop} {D : va_G} {cI cJ cZ : ClassId} {ad : Nat → Nat} {A : Nat → Prop} (C : Cx p s m args c cX5_trade 3 wsX5_trade RX5 D vwCl (tyl cI cJ cZ) (wM cI cJ cZ ad) A R 1 22) {r : (Int32 × SH)} (hR : Ri p l e R s m args below meth c cX5_trade D vwCl (wM cI cJ cZ ad) A Q r) (x1 : Int32) (x2 : Int32) (t0 : Int32) (z0 : SH) {H : Heap} {locs : List Loc} {ls : Array Slot} (h : fX5_trade_38 x1 x2 t0 z0 = some r) (hP : va_P D vwCl (wM cI cJ cZ ad z0) H) (hS : va_S A s.heap H locs) (hl : lv_has ls 3 [(0, .ref (ad 0)), (1, .int x1), (2, .int x2)]) : W p l e R s m args below meth c H locs 0 0 Q (F0 m 38 ls [.int t0, .ref (ad 0)]) := by
  unfold fX5_trade_38 at h
  have hx := C.1.1
  have hb := C.1.2.1
  refine b_puti C hP hS h iX5_trade_X5 tyX5 tyX5_ok nmX5 0 (wM_0 cI cJ cZ ad z0) rfl 0 (by decide) fX5_trade_i93 rfl rfl rfl (Nat.le_of_ble_eq_true rfl) (wM_si0 cI cJ cZ ad z0 _) dX5_trade_38 (fun z1 _ _ h hP hS => ?_)
  refine lv_aload_n hx hb dX5_trade_41 rfl (lv_at hl 0 rfl) ?_
  refine b_geti C hP h iX5_trade_X5 0 (wM_0 cI cJ cZ ad z1) rfl 0 (by decide) fX5_trade_i93 rfl rfl dX5_trade_42 (fun v2 h => ?_)
  refine lv_if_le (tgt := 52) hx hb dX5_trade_45 (by decide) (fun c1 => ?_) (fun c1 => ?_)
  · replace h := (ite_h h).1 c1
    refine lv_aload_n hx hb dX5_trade_52 rfl (lv_at hl 0 rfl) ?_
    refine b_getr C hP iX5_trade_X5 0 (wM_0 cI cJ cZ ad z1) rfl 27 (by decide) fX5_trade_i78 rfl rfl dX5_trade_53 ?_
    refine lv_iconst (v := 4) hx hb dX5_trade_56 (by decide) ?_
    refine lv_iload_n hx hb dX5_trade_57 rfl (lv_at hl 1 rfl) ?_
    refine lv_imul hx hb dX5_trade_58 ?_
    refine lv_iload_n hx hb dX5_trade_59 rfl (lv_at hl 2 rfl) ?_
    refine lv_iadd hx hb dX5_trade_60 ?_
    refine b_iald C hP h 23 (wM_23 cI cJ cZ ad z1) 0 rfl dX5_trade_61 (fun v3 h => ?_)
    exact wX5_trade_62 C hR v3 z1 h hP hS (lv_sub hl [] rfl)
  · replace h := (ite_h h).2 c1
    refine lv_iconst (v := 0) hx hb dX5_trade_48 (by decide) ?_
    refine lv_goto (tgt := 62) hx hb dX5_trade_49 (by decide) ?_
    exact wX5_trade_62 C hR 0 z1 h hP hS (lv_sub hl [] rfl)
set_option maxRecDepth 100000 in
set_option maxHeartbeats 4000000 in
theorem wX5_trade_20 {p : Program} {l : Launch} {e : Env} {R : Room} {s : State} {m : MethodId} {args : Array Value} {below : List Frame} {meth : Method} {c : Code} {Q : State → Prop} {D : va_G} {cI cJ cZ : ClassId} {ad : Nat → Nat} {A : Nat → Prop} (C : Cx p s m args c cX5_trade 3 wsX5_trade RX5 D vwCl (tyl cI cJ cZ) (wM cI cJ cZ ad) A R 1 22) {r : (Int32 × SH)} (hR : Ri p l e R s m args below meth c cX5_trade D vwCl (wM cI cJ cZ ad) A Q r) (x1 : Int32) (x2 : Int32) (z0 : SH) {H : Heap} {locs : List Loc} {ls : Array Slot} (h : fX5_trade_20 x1 x2 z0 = some r) (hP : va_P D vwCl (wM cI cJ cZ ad z0) H) (hS : va_S A s.heap H locs) (hl : lv_has ls 3 [(0, .ref (ad 0)), (1, .int x1), (2, .int x2)]) : W p l e R s m args below meth c H locs 0 0 Q (F0 m 20 ls [.ref (ad 0)]) := by
  unfold fX5_trade_20 at h
  have hx := C.1.1
  have hb := C.1.2.1
  refine lv_iconst (v := 1) hx hb dX5_trade_20 (by decide) ?_
  refine lv_goto (tgt := 38) hx hb dX5_trade_21 (by decide) ?_
  exact wX5_trade_38 C hR x1 x2 1 z0 h hP hS (lv_sub hl [0, 1, 2] rfl)
set_option maxRecDepth 100000 in
set_option maxHeartbeats 4000000 in
theorem wX5_trade {p : Program} {l : Launch} {e : Env} {R : Room} {s : State} {m : MethodId} {args : Array Value} {below : List Frame} {meth : Method} {c : Code} {Q : State → Prop} {D : va_G} {cI cJ cZ : ClassId} {ad : Nat → Nat} {A : Nat → Prop} (C : Cx p s m args c cX5_trade 3 wsX5_trade RX5 D vwCl (tyl cI cJ cZ) (wM cI cJ cZ ad) A R 1 22) {r : (Int32 × SH)} (hR : Ri p l e R s m args below meth c cX5_trade D vwCl (wM cI cJ cZ ad) A Q r) (a1 : Int32) (a2 : Int32) (z0 : SH) {H : Heap} {locs : List Loc} {ls : Array Slot} (h : fX5_trade a1 a2 z0 = some r) (hP : va_P D vwCl (wM cI cJ cZ ad z0) H) (hS : va_S A s.heap H locs) (hl : lv_has ls 3 [(0, .ref (ad 0)), (1, .int a1), (2, .int a2)]) : W p l e R s m args below meth c H locs 0 0 Q (F0 m 0 ls []) := by
  unfold fX5_trade at h
  have hx := C.1.1
  have hb := C.1.2.1
  refine lv_aload_n hx hb dX5_trade_0 rfl (lv_at hl 0 rfl) ?_
  refine lv_iload_n hx hb dX5_trade_1 rfl (lv_at hl 1 rfl) ?_
  refine lv_if_lt (tgt := 20) hx hb dX5_trade_2 (by decide) (fun c1 => ?_) (fun c1 => ?_)
  · replace h := (ite_h h).1 c1
    exact wX5_trade_20 C hR a1 a2 z0 h hP hS (lv_sub hl [0, 1, 2] rfl)
  · replace h := (ite_h h).2 c1
    refine lv_iload_n hx hb dX5_trade_5 rfl (lv_at hl 1 rfl) ?_
    refine lv_aload_n hx hb dX5_trade_6 rfl (lv_at hl 0 rfl) ?_
    refine b_geti C hP h iX5_trade_X5 0 (wM_0 cI cJ cZ ad z0) rfl 26 (by decide) fX5_trade_i132 rfl rfl dX5_trade_7 (fun v1 h => ?_)
    refine lv_icmp_ge (tgt := 20) hx hb dX5_trade_10 (by decide) (fun c1 => ?_) (fun c1 => ?_)
    · replace h := (ite_h h).1 c1
      exact wX5_trade_20 C hR a1 a2 z0 h hP hS (lv_sub hl [0, 1, 2] rfl)
    · replace h := (ite_h h).2 c1
      refine lv_iload_n hx hb dX5_trade_13 rfl (lv_at hl 1 rfl) ?_
      refine lv_sipush (v := 300) hx hb dX5_trade_14 (by decide) ?_
      refine lv_icmp_lt (tgt := 24) hx hb dX5_trade_17 (by decide) (fun c1 => ?_) (fun c1 => ?_)
      · replace h := (ite_h h).1 c1
        refine lv_iload_n hx hb dX5_trade_24 rfl (lv_at hl 2 rfl) ?_
        refine lv_iconst (v := 0) hx hb dX5_trade_25 (by decide) ?_
        refine lv_iconst (v := 3) hx hb dX5_trade_26 (by decide) ?_
        refine b_callSi (As := [.int a2, .int 0, .int 3]) (rest := [.ref (ad 0)]) C hP hS h (mX5_isIn l D cI cJ cZ ad a2 0 3 z0) (va_cwS 3 C.1.2.2.2.2 gX5_trade_X5_isIn rfl rfl rfl (by decide +kernel) ⟨Nat.le_trans (Nat.le_of_ble_eq_true rfl) C.2.2.2.2.1, Nat.le_trans (Nat.le_of_ble_eq_true rfl) C.2.2.2.2.2⟩) rfl hl.1 rfl (Nat.le_of_ble_eq_true rfl) dX5_trade_27 (fun v3 z2 _ _ h hP hS => ?_)
        refine lv_if_ne (tgt := 37) hx hb dX5_trade_30 (by decide) (fun c1 => ?_) (fun c1 => ?_)
        · replace h := (ite_h h).2 c1
          refine lv_iconst (v := 0) hx hb dX5_trade_37 (by decide) ?_
          exact wX5_trade_38 C hR a1 a2 0 z2 h hP hS (lv_sub hl [0, 1, 2] rfl)
        · replace h := (ite_h h).1 c1
          refine lv_iconst (v := 2) hx hb dX5_trade_33 (by decide) ?_
          refine lv_goto (tgt := 38) hx hb dX5_trade_34 (by decide) ?_
          exact wX5_trade_38 C hR a1 a2 2 z2 h hP hS (lv_sub hl [0, 1, 2] rfl)
      · replace h := (ite_h h).2 c1
        exact wX5_trade_20 C hR a1 a2 z0 h hP hS (lv_sub hl [0, 1, 2] rfl)
theorem mX5_trade (l : Launch) (D : va_G) (cI cJ cZ : ClassId) (ad : Nat → Nat) (a1 : Int32) (a2 : Int32) (z0 : SH) : ∀ (q : (Int32 × SH)) (sz : Nat), fX5_trade a1 a2 z0 = some q → Met l yX5_trade wsX5_trade rmX5_trade (cP D vwCl (tyl cI cJ cZ) (wM cI cJ cZ ad z0) sz [.ref (ad 0), .int a1, .int a2]) (cQi D vwCl (wM cI cJ cZ ad) z0 sz q) 0 0 (va_A (wM cI cJ cZ ad z0) sz) := by
  intro q sz h
  refine ofW_i (cc := cX5_trade) (maxL := 3) (by decide) rfl (wM_same cI cJ cZ ad) (Nat.le_of_ble_eq_true rfl) (fun p e s m below meth c ls hsz C hR hP hl => ?_)
  exact wX5_trade C hR a1 a2 z0 h hP va_S.rf hl
abbrev rmX5_symbol : Room := { frames := 2, cells := 0, slots := 0, locals := 42 }
theorem fX5_symbol_i81 : Cond.fieldLink RX5 81 (TX5 28).1 (TX5 28).2.1 (TX5 28).2.2.1 ∈ wsX5_symbol := by decide +kernel
theorem fX5_symbol_i84 : Cond.fieldLink RX5 84 (TX5 29).1 (TX5 29).2.1 (TX5 29).2.2.1 ∈ wsX5_symbol := by decide +kernel
theorem fX5_symbol_i87 : Cond.fieldLink RX5 87 (TX5 30).1 (TX5 30).2.1 (TX5 30).2.2.1 ∈ wsX5_symbol := by decide +kernel
theorem fX5_symbol_i90 : Cond.fieldLink RX5 90 (TX5 31).1 (TX5 31).2.1 (TX5 31).2.2.1 ∈ wsX5_symbol := by decide +kernel
theorem fX5_symbol_i93 : Cond.fieldLink RX5 93 (TX5 0).1 (TX5 0).2.1 (TX5 0).2.2.1 ∈ wsX5_symbol := by decide +kernel
theorem iX5_symbol_X5 : ∀ x ∈ wsX50, x ∈ wsX5_symbol := by decide +kernel
set_option maxRecDepth 100000 in
set_option maxHeartbeats 4000000 in
theorem wX5_symbol_87 {p : Program} {l : Launch} {e : Env} {R : Room} {s : State} {m : MethodId} {args : Array Value} {below : List Frame} {meth : Method} {c : Code} {Q : State → Prop} {D : va_G} {cI cJ cZ : ClassId} {ad : Nat → Nat} {A : Nat → Prop} (C : Cx p s m args c cX5_symbol 3 wsX5_symbol RX5 D vwCl (tyl cI cJ cZ) (wM cI cJ cZ ad) A R 2 42) {r : (Int32 × SH)} (hR : Ri p l e R s m args below meth c cX5_symbol D vwCl (wM cI cJ cZ ad) A Q r) (t0 : Int32) (z0 : SH) {H : Heap} {locs : List Loc} {ls : Array Slot} (h : fX5_symbol_87 t0 z0 = some r) (hP : va_P D vwCl (wM cI cJ cZ ad z0) H) (hS : va_S A s.heap H locs) (hl : lv_has ls 3 []) : W p l e R s m args below meth c H locs 0 0 Q (F0 m 87 ls [.int t0]) := by
  unfold fX5_symbol_87 at h
  have hx := C.1.1
  have hb := C.1.2.1
  exact hR 87 _ _ _ _ _ (Option.some.inj h).symm dX5_symbol_87 hP hS
set_option maxRecDepth 100000 in
set_option maxHeartbeats 4000000 in
theorem wX5_symbol_26 {p : Program} {l : Launch} {e : Env} {R : Room} {s : State} {m : MethodId} {args : Array Value} {below : List Frame} {meth : Method} {c : Code} {Q : State → Prop} {D : va_G} {cI cJ cZ : ClassId} {ad : Nat → Nat} {A : Nat → Prop} (C : Cx p s m args c cX5_symbol 3 wsX5_symbol RX5 D vwCl (tyl cI cJ cZ) (wM cI cJ cZ ad) A R 2 42) {r : (Int32 × SH)} (hR : Ri p l e R s m args below meth c cX5_symbol D vwCl (wM cI cJ cZ ad) A Q r) (x1 : Int32) (x2 : Int32) (t0 : Int32) (z0 : SH) {H : Heap} {locs : List Loc} {ls : Array Slot} (h : fX5_symbol_26 x1 x2 t0 z0 = some r) (hP : va_P D vwCl (wM cI cJ cZ ad z0) H) (hS : va_S A s.heap H locs) (hl : lv_has ls 3 [(0, .ref (ad 0)), (1, .int x1), (2, .int x2)]) : W p l e R s m args below meth c H locs 0 0 Q (F0 m 26 ls [.int t0, .ref (ad 0)]) := by
  unfold fX5_symbol_26 at h
  have hx := C.1.1
  have hb := C.1.2.1
  refine b_puti C hP hS h iX5_symbol_X5 tyX5 tyX5_ok nmX5 0 (wM_0 cI cJ cZ ad z0) rfl 0 (by decide) fX5_symbol_i93 rfl rfl rfl (Nat.le_of_ble_eq_true rfl) (wM_si0 cI cJ cZ ad z0 _) dX5_symbol_26 (fun z1 _ _ h hP hS => ?_)
  refine lv_aload_n hx hb dX5_symbol_29 rfl (lv_at hl 0 rfl) ?_
  refine b_geti C hP h iX5_symbol_X5 0 (wM_0 cI cJ cZ ad z1) rfl 0 (by decide) fX5_symbol_i93 rfl rfl dX5_symbol_30 (fun v2 h => ?_)
  refine lv_if_le (tgt := 40) hx hb dX5_symbol_33 (by decide) (fun c1 => ?_) (fun c1 => ?_)
  · replace h := (ite_h h).1 c1
    refine lv_iload_n hx hb dX5_symbol_40 rfl (lv_at hl 2 rfl) ?_
    refine lv_if_ne (tgt := 53) hx hb dX5_symbol_41 (by decide) (fun c1 => ?_) (fun c1 => ?_)
    · replace h := (ite_h h).2 c1
      refine lv_iload_n hx hb dX5_symbol_53 rfl (lv_at hl 2 rfl) ?_
      refine lv_iconst (v := 1) hx hb dX5_symbol_54 (by decide) ?_
      refine lv_icmp_ne (tgt := 67) hx hb dX5_symbol_55 (by decide) (fun c1 => ?_) (fun c1 => ?_)
      · replace h := (ite_h h).2 c1
        refine lv_iload_n hx hb dX5_symbol_67 rfl (lv_at hl 2 rfl) ?_
        refine lv_iconst (v := 2) hx hb dX5_symbol_68 (by decide) ?_
        refine lv_icmp_ne (tgt := 81) hx hb dX5_symbol_69 (by decide) (fun c1 => ?_) (fun c1 => ?_)
        · replace h := (ite_h h).2 c1
          refine lv_aload_n hx hb dX5_symbol_81 rfl (lv_at hl 0 rfl) ?_
          refine b_getr C hP iX5_symbol_X5 0 (wM_0 cI cJ cZ ad z1) rfl 31 (by decide) fX5_symbol_i90 rfl rfl dX5_symbol_82 ?_
          refine lv_iload_n hx hb dX5_symbol_85 rfl (lv_at hl 1 rfl) ?_
          refine b_iald C hP h 27 (wM_27 cI cJ cZ ad z1) 0 rfl dX5_symbol_86 (fun v3 h => ?_)
          exact wX5_symbol_87 C hR v3 z1 h hP hS (lv_sub hl [] rfl)
        · replace h := (ite_h h).1 c1
          refine lv_aload_n hx hb dX5_symbol_72 rfl (lv_at hl 0 rfl) ?_
          refine b_getr C hP iX5_symbol_X5 0 (wM_0 cI cJ cZ ad z1) rfl 30 (by decide) fX5_symbol_i87 rfl rfl dX5_symbol_73 ?_
          refine lv_iload_n hx hb dX5_symbol_76 rfl (lv_at hl 1 rfl) ?_
          refine b_iald C hP h 26 (wM_26 cI cJ cZ ad z1) 0 rfl dX5_symbol_77 (fun v4 h => ?_)
          refine lv_goto (tgt := 87) hx hb dX5_symbol_78 (by decide) ?_
          exact wX5_symbol_87 C hR v4 z1 h hP hS (lv_sub hl [] rfl)
      · replace h := (ite_h h).1 c1
        refine lv_aload_n hx hb dX5_symbol_58 rfl (lv_at hl 0 rfl) ?_
        refine b_getr C hP iX5_symbol_X5 0 (wM_0 cI cJ cZ ad z1) rfl 29 (by decide) fX5_symbol_i84 rfl rfl dX5_symbol_59 ?_
        refine lv_iload_n hx hb dX5_symbol_62 rfl (lv_at hl 1 rfl) ?_
        refine b_iald C hP h 25 (wM_25 cI cJ cZ ad z1) 0 rfl dX5_symbol_63 (fun v5 h => ?_)
        refine lv_goto (tgt := 87) hx hb dX5_symbol_64 (by decide) ?_
        exact wX5_symbol_87 C hR v5 z1 h hP hS (lv_sub hl [] rfl)
    · replace h := (ite_h h).1 c1
      refine lv_aload_n hx hb dX5_symbol_44 rfl (lv_at hl 0 rfl) ?_
      refine b_getr C hP iX5_symbol_X5 0 (wM_0 cI cJ cZ ad z1) rfl 28 (by decide) fX5_symbol_i81 rfl rfl dX5_symbol_45 ?_
      refine lv_iload_n hx hb dX5_symbol_48 rfl (lv_at hl 1 rfl) ?_
      refine b_iald C hP h 24 (wM_24 cI cJ cZ ad z1) 0 rfl dX5_symbol_49 (fun v6 h => ?_)
      refine lv_goto (tgt := 87) hx hb dX5_symbol_50 (by decide) ?_
      exact wX5_symbol_87 C hR v6 z1 h hP hS (lv_sub hl [] rfl)
  · replace h := (ite_h h).2 c1
    refine lv_iconst (v := 0) hx hb dX5_symbol_36 (by decide) ?_
    refine lv_goto (tgt := 87) hx hb dX5_symbol_37 (by decide) ?_
    exact wX5_symbol_87 C hR 0 z1 h hP hS (lv_sub hl [] rfl)
set_option maxRecDepth 100000 in
set_option maxHeartbeats 4000000 in
theorem wX5_symbol {p : Program} {l : Launch} {e : Env} {R : Room} {s : State} {m : MethodId} {args : Array Value} {below : List Frame} {meth : Method} {c : Code} {Q : State → Prop} {D : va_G} {cI cJ cZ : ClassId} {ad : Nat → Nat} {A : Nat → Prop} (C : Cx p s m args c cX5_symbol 3 wsX5_symbol RX5 D vwCl (tyl cI cJ cZ) (wM cI cJ cZ ad) A R 2 42) {r : (Int32 × SH)} (hR : Ri p l e R s m args below meth c cX5_symbol D vwCl (wM cI cJ cZ ad) A Q r) (a1 : Int32) (a2 : Int32) (z0 : SH) {H : Heap} {locs : List Loc} {ls : Array Slot} (h : fX5_symbol a1 a2 z0 = some r) (hP : va_P D vwCl (wM cI cJ cZ ad z0) H) (hS : va_S A s.heap H locs) (hl : lv_has ls 3 [(0, .ref (ad 0)), (1, .int a1), (2, .int a2)]) : W p l e R s m args below meth c H locs 0 0 Q (F0 m 0 ls []) := by
  unfold fX5_symbol at h
  have hx := C.1.1
  have hb := C.1.2.1
  refine lv_aload_n hx hb dX5_symbol_0 rfl (lv_at hl 0 rfl) ?_
  refine lv_iload_n hx hb dX5_symbol_1 rfl (lv_at hl 1 rfl) ?_
  refine b_callSi (As := [.int a1]) (rest := [.ref (ad 0)]) C hP hS h (mX5_isSymbol l D cI cJ cZ ad a1 z0) (va_cwS 1 C.1.2.2.2.2 gX5_symbol_X5_isSymbol rfl rfl rfl (by decide +kernel) ⟨Nat.le_trans (Nat.le_of_ble_eq_true rfl) C.2.2.2.2.1, Nat.le_trans (Nat.le_of_ble_eq_true rfl) C.2.2.2.2.2⟩) rfl hl.1 rfl (Nat.le_of_ble_eq_true rfl) dX5_symbol_2 (fun v2 z1 _ _ h hP hS => ?_)
  refine lv_if_ne (tgt := 12) hx hb dX5_symbol_5 (by decide) (fun c1 => ?_) (fun c1 => ?_)
  · replace h := (ite_h h).2 c1
    refine lv_iload_n hx hb dX5_symbol_12 rfl (lv_at hl 2 rfl) ?_
    refine lv_iconst (v := 0) hx hb dX5_symbol_13 (by decide) ?_
    refine lv_iconst (v := 3) hx hb dX5_symbol_14 (by decide) ?_
    refine b_callSi (As := [.int a2, .int 0, .int 3]) (rest := [.ref (ad 0)]) C hP hS h (mX5_isIn l D cI cJ cZ ad a2 0 3 z1) (va_cwS 3 C.1.2.2.2.2 gX5_symbol_X5_isIn rfl rfl rfl (by decide +kernel) ⟨Nat.le_trans (Nat.le_of_ble_eq_true rfl) C.2.2.2.2.1, Nat.le_trans (Nat.le_of_ble_eq_true rfl) C.2.2.2.2.2⟩) rfl hl.1 rfl (Nat.le_of_ble_eq_true rfl) dX5_symbol_15 (fun v4 z3 _ _ h hP hS => ?_)
    refine lv_if_ne (tgt := 25) hx hb dX5_symbol_18 (by decide) (fun c1 => ?_) (fun c1 => ?_)
    · replace h := (ite_h h).2 c1
      refine lv_iconst (v := 0) hx hb dX5_symbol_25 (by decide) ?_
      exact wX5_symbol_26 C hR a1 a2 0 z3 h hP hS (lv_sub hl [0, 1, 2] rfl)
    · replace h := (ite_h h).1 c1
      refine lv_iconst (v := 2) hx hb dX5_symbol_21 (by decide) ?_
      refine lv_goto (tgt := 26) hx hb dX5_symbol_22 (by decide) ?_
      exact wX5_symbol_26 C hR a1 a2 2 z3 h hP hS (lv_sub hl [0, 1, 2] rfl)
  · replace h := (ite_h h).1 c1
    refine lv_iconst (v := 1) hx hb dX5_symbol_8 (by decide) ?_
    refine lv_goto (tgt := 26) hx hb dX5_symbol_9 (by decide) ?_
    exact wX5_symbol_26 C hR a1 a2 1 z1 h hP hS (lv_sub hl [0, 1, 2] rfl)
theorem mX5_symbol (l : Launch) (D : va_G) (cI cJ cZ : ClassId) (ad : Nat → Nat) (a1 : Int32) (a2 : Int32) (z0 : SH) : ∀ (q : (Int32 × SH)) (sz : Nat), fX5_symbol a1 a2 z0 = some q → Met l yX5_symbol wsX5_symbol rmX5_symbol (cP D vwCl (tyl cI cJ cZ) (wM cI cJ cZ ad z0) sz [.ref (ad 0), .int a1, .int a2]) (cQi D vwCl (wM cI cJ cZ ad) z0 sz q) 0 0 (va_A (wM cI cJ cZ ad z0) sz) := by
  intro q sz h
  refine ofW_i (cc := cX5_symbol) (maxL := 3) (by decide) rfl (wM_same cI cJ cZ ad) (Nat.le_of_ble_eq_true rfl) (fun p e s m below meth c ls hsz C hR hP hl => ?_)
  exact wX5_symbol C hR a1 a2 z0 h hP va_S.rf hl
abbrev rmX5_business : Room := { frames := 1, cells := 0, slots := 0, locals := 21 }
theorem fX5_business_i23 : Cond.fieldLink RX5 23 (TX5 6).1 (TX5 6).2.1 (TX5 6).2.2.1 ∈ wsX5_business := by decide +kernel
theorem fX5_business_i26 : Cond.fieldLink RX5 26 (TX5 7).1 (TX5 7).2.1 (TX5 7).2.2.1 ∈ wsX5_business := by decide +kernel
theorem iX5_business_X5 : ∀ x ∈ wsX50, x ∈ wsX5_business := by decide +kernel
set_option maxRecDepth 100000 in
set_option maxHeartbeats 4000000 in
theorem wX5_business {p : Program} {l : Launch} {e : Env} {R : Room} {s : State} {m : MethodId} {args : Array Value} {below : List Frame} {meth : Method} {c : Code} {Q : State → Prop} {D : va_G} {cI cJ cZ : ClassId} {ad : Nat → Nat} {A : Nat → Prop} (C : Cx p s m args c cX5_business 3 wsX5_business RX5 D vwCl (tyl cI cJ cZ) (wM cI cJ cZ ad) A R 1 21) {r : (Int32 × SH)} (hR : Ri p l e R s m args below meth c cX5_business D vwCl (wM cI cJ cZ ad) A Q r) (a1 : Int32) (a2 : Int32) (z0 : SH) {H : Heap} {locs : List Loc} {ls : Array Slot} (h : fX5_business a1 a2 z0 = some r) (hP : va_P D vwCl (wM cI cJ cZ ad z0) H) (hS : va_S A s.heap H locs) (hl : lv_has ls 3 [(0, .ref (ad 0)), (1, .int a1), (2, .int a2)]) : W p l e R s m args below meth c H locs 0 0 Q (F0 m 0 ls []) := by
  unfold fX5_business at h
  have hx := C.1.1
  have hb := C.1.2.1
  refine lv_aload_n hx hb dX5_business_0 rfl (lv_at hl 0 rfl) ?_
  refine b_getr C hP iX5_business_X5 0 (wM_0 cI cJ cZ ad z0) rfl 6 (by decide) fX5_business_i23 rfl rfl dX5_business_1 ?_
  refine lv_iload_n hx hb dX5_business_4 rfl (lv_at hl 1 rfl) ?_
  refine lv_iload_n hx hb dX5_business_5 rfl (lv_at hl 2 rfl) ?_
  refine b_callSi (As := [.int a1, .int a2]) (rest := [.ref (ad 5)]) C hP hS h (mX5_cell l D cI cJ cZ ad a1 a2 z0) (va_cwS 2 C.1.2.2.2.2 gX5_business_X5_cell rfl rfl rfl (by decide +kernel) ⟨Nat.le_trans (Nat.le_of_ble_eq_true rfl) C.2.2.2.2.1, Nat.le_trans (Nat.le_of_ble_eq_true rfl) C.2.2.2.2.2⟩) rfl hl.1 rfl (Nat.le_of_ble_eq_true rfl) dX5_business_6 (fun v2 z1 _ _ h hP hS => ?_)
  refine b_iald C hP h 5 (wM_5 cI cJ cZ ad z1) 0 rfl dX5_business_9 (fun v3 h => ?_)
  refine lv_aload_n hx hb dX5_business_10 rfl (lv_at hl 0 rfl) ?_
  refine b_getr C hP iX5_business_X5 0 (wM_0 cI cJ cZ ad z1) rfl 7 (by decide) fX5_business_i26 rfl rfl dX5_business_11 ?_
  refine lv_iload_n hx hb dX5_business_14 rfl (lv_at hl 1 rfl) ?_
  refine lv_iload_n hx hb dX5_business_15 rfl (lv_at hl 2 rfl) ?_
  refine b_callSi (As := [.int a1, .int a2]) (rest := [.ref (ad 6), .int v3]) C hP hS h (mX5_cell l D cI cJ cZ ad a1 a2 z1) (va_cwS 2 C.1.2.2.2.2 gX5_business_X5_cell rfl rfl rfl (by decide +kernel) ⟨Nat.le_trans (Nat.le_of_ble_eq_true rfl) C.2.2.2.2.1, Nat.le_trans (Nat.le_of_ble_eq_true rfl) C.2.2.2.2.2⟩) rfl hl.1 rfl (Nat.le_of_ble_eq_true rfl) dX5_business_16 (fun v5 z4 _ _ h hP hS => ?_)
  refine b_iald C hP h 6 (wM_6 cI cJ cZ ad z4) 0 rfl dX5_business_19 (fun v6 h => ?_)
  refine lv_iadd hx hb dX5_business_20 ?_
  exact hR 21 _ _ _ _ _ (Option.some.inj h).symm dX5_business_21 hP hS
theorem mX5_business (l : Launch) (D : va_G) (cI cJ cZ : ClassId) (ad : Nat → Nat) (a1 : Int32) (a2 : Int32) (z0 : SH) : ∀ (q : (Int32 × SH)) (sz : Nat), fX5_business a1 a2 z0 = some q → Met l yX5_business wsX5_business rmX5_business (cP D vwCl (tyl cI cJ cZ) (wM cI cJ cZ ad z0) sz [.ref (ad 0), .int a1, .int a2]) (cQi D vwCl (wM cI cJ cZ ad) z0 sz q) 0 0 (va_A (wM cI cJ cZ ad z0) sz) := by
  intro q sz h
  refine ofW_i (cc := cX5_business) (maxL := 3) (by decide) rfl (wM_same cI cJ cZ ad) (Nat.le_of_ble_eq_true rfl) (fun p e s m below meth c ls hsz C hR hP hl => ?_)
  exact wX5_business C hR a1 a2 z0 h hP va_S.rf hl
abbrev rmX5_busiest : Room := { frames := 2, cells := 0, slots := 0, locals := 43 }
theorem fX5_busiest_i93 : Cond.fieldLink RX5 93 (TX5 0).1 (TX5 0).2.1 (TX5 0).2.2.1 ∈ wsX5_busiest := by decide +kernel
theorem iX5_busiest_X5 : ∀ x ∈ wsX50, x ∈ wsX5_busiest := by decide +kernel
set_option maxRecDepth 100000 in
set_option maxHeartbeats 4000000 in
theorem wX5_busiest_137 {p : Program} {l : Launch} {e : Env} {R : Room} {s : State} {m : MethodId} {args : Array Value} {below : List Frame} {meth : Method} {c : Code} {Q : State → Prop} {D : va_G} {cI cJ cZ : ClassId} {ad : Nat → Nat} {A : Nat → Prop} (C : Cx p s m args c cX5_busiest 6 wsX5_busiest RX5 D vwCl (tyl cI cJ cZ) (wM cI cJ cZ ad) A R 2 43) {r : (Int32 × SH)} (hR : Ri p l e R s m args below meth c cX5_busiest D vwCl (wM cI cJ cZ ad) A Q r) (N : Nat) (z0 : SH) {H : Heap} {locs : List Loc} {ls : Array Slot} (h : fX5_busiest_137 N z0 = some r) (hP : va_P D vwCl (wM cI cJ cZ ad z0) H) (hS : va_S A s.heap H locs) (hl : lv_has ls 6 [(0, .ref (ad 0))]) : W p l e R s m args below meth c H locs 0 0 Q (F0 m 137 ls []) := by
  unfold fX5_busiest_137 at h
  have hx := C.1.1
  have hb := C.1.2.1
  refine lv_aload_n hx hb dX5_busiest_137 rfl (lv_at hl 0 rfl) ?_
  refine lv_iconst (v := 1) hx hb dX5_busiest_138 (by decide) ?_
  refine b_puti C hP hS h iX5_busiest_X5 tyX5 tyX5_ok nmX5 0 (wM_0 cI cJ cZ ad z0) rfl 0 (by decide) fX5_busiest_i93 rfl rfl rfl (Nat.le_of_ble_eq_true rfl) (wM_si0 cI cJ cZ ad z0 _) dX5_busiest_139 (fun z1 _ _ h hP hS => ?_)
  refine lv_iconst (v := 0) hx hb dX5_busiest_142 (by decide) ?_
  exact hR 143 _ _ _ _ _ (Option.some.inj h).symm dX5_busiest_143 hP hS
set_option maxRecDepth 100000 in
set_option maxHeartbeats 4000000 in
theorem wX5_busiest_131 {p : Program} {l : Launch} {e : Env} {R : Room} {s : State} {m : MethodId} {args : Array Value} {below : List Frame} {meth : Method} {c : Code} {Q : State → Prop} {D : va_G} {cI cJ cZ : ClassId} {ad : Nat → Nat} {A : Nat → Prop} (C : Cx p s m args c cX5_busiest 6 wsX5_busiest RX5 D vwCl (tyl cI cJ cZ) (wM cI cJ cZ ad) A R 2 43) {r : (Int32 × SH)} (hR : Ri p l e R s m args below meth c cX5_busiest D vwCl (wM cI cJ cZ ad) A Q r) (N : Nat) (k22 : Int32 → Int32 → Int32 → SH → Option (Int32 × SH)) (K22 : ∀ (x1 : Int32) (x2 : Int32) (x3 : Int32) (z : SH) (H : Heap) (locs : List Loc) (ls : Array Slot), k22 x1 x2 x3 z = some r → va_P D vwCl (wM cI cJ cZ ad z) H → va_S A s.heap H locs → lv_has ls 6 [(0, .ref (ad 0)), (1, .int x1), (2, .int x2), (3, .int x3)] → W p l e R s m args below meth c H locs 0 0 Q (F0 m 22 ls [])) (x1 : Int32) (x2 : Int32) (x3 : Int32) (z0 : SH) {H : Heap} {locs : List Loc} {ls : Array Slot} (h : fX5_busiest_131 N k22 x1 x2 x3 z0 = some r) (hP : va_P D vwCl (wM cI cJ cZ ad z0) H) (hS : va_S A s.heap H locs) (hl : lv_has ls 6 [(0, .ref (ad 0)), (1, .int x1), (2, .int x2), (3, .int x3)]) : W p l e R s m args below meth c H locs 0 0 Q (F0 m 131 ls []) := by
  unfold fX5_busiest_131 at h
  have hx := C.1.1
  have hb := C.1.2.1
  refine lv_iinc (v := x3 + 1) (lv' := [(3, .int (x3 + 1)), (0, .ref (ad 0)), (1, .int x1), (2, .int x2)]) hx hb dX5_busiest_131 hl (k := 3) rfl rfl (by decide) rfl (fun ls hl => ?_)
  refine lv_goto (tgt := 22) hx hb dX5_busiest_134 (by decide) ?_
  exact K22 x1 x2 (x3 + 1) z0 _ _ _ h hP hS (lv_sub hl [1, 2, 3, 0] rfl)
set_option maxRecDepth 100000 in
set_option maxHeartbeats 4000000 in
theorem wX5_busiest_114 {p : Program} {l : Launch} {e : Env} {R : Room} {s : State} {m : MethodId} {args : Array Value} {below : List Frame} {meth : Method} {c : Code} {Q : State → Prop} {D : va_G} {cI cJ cZ : ClassId} {ad : Nat → Nat} {A : Nat → Prop} (C : Cx p s m args c cX5_busiest 6 wsX5_busiest RX5 D vwCl (tyl cI cJ cZ) (wM cI cJ cZ ad) A R 2 43) {r : (Int32 × SH)} (hR : Ri p l e R s m args below meth c cX5_busiest D vwCl (wM cI cJ cZ ad) A Q r) (N : Nat) (k22 : Int32 → Int32 → Int32 → SH → Option (Int32 × SH)) (K22 : ∀ (x1 : Int32) (x2 : Int32) (x3 : Int32) (z : SH) (H : Heap) (locs : List Loc) (ls : Array Slot), k22 x1 x2 x3 z = some r → va_P D vwCl (wM cI cJ cZ ad z) H → va_S A s.heap H locs → lv_has ls 6 [(0, .ref (ad 0)), (1, .int x1), (2, .int x2), (3, .int x3)] → W p l e R s m args below meth c H locs 0 0 Q (F0 m 22 ls [])) (x1 : Int32) (x2 : Int32) (x3 : Int32) (x4 : Int32) (z0 : SH) {H : Heap} {locs : List Loc} {ls : Array Slot} (h : fX5_busiest_114 N k22 x1 x2 x3 x4 z0 = some r) (hP : va_P D vwCl (wM cI cJ cZ ad z0) H) (hS : va_S A s.heap H locs) (hl : lv_has ls 6 [(0, .ref (ad 0)), (1, .int x1), (2, .int x2), (3, .int x3), (4, .int x4)]) : W p l e R s m args below meth c H locs 0 0 Q (F0 m 114 ls []) := by
  unfold fX5_busiest_114 at h
  have hx := C.1.1
  have hb := C.1.2.1
  refine lv_aload_n hx hb dX5_busiest_114 rfl (lv_at hl 0 rfl) ?_
  refine lv_iload_n hx hb dX5_busiest_115 rfl (lv_at hl 3 rfl) ?_
  refine lv_iload_n hx hb dX5_busiest_116 rfl (lv_at hl 1 rfl) ?_
  refine b_callVi (As := [.int x3, .int x1]) (rest := []) C hP hS h (mX5_business l D cI cJ cZ ad x3 x1 z0) (cwV 2 C.1.2.2.2.2 gX5_busiest_X5_business rfl rfl rfl (by decide +kernel) ⟨Nat.le_trans (Nat.le_of_ble_eq_true rfl) C.2.2.2.2.1, Nat.le_trans (Nat.le_of_ble_eq_true rfl) C.2.2.2.2.2⟩) (va_recv C.2.1 hP (ci := 5) (q0 := 0) rfl (wM_0 cI cJ cZ ad z0)) rfl hl.1 rfl (Nat.le_of_ble_eq_true rfl) dX5_busiest_117 (fun v2 z1 _ _ h hP hS => ?_)
  refine lv_if_le (tgt := 131) hx hb dX5_busiest_120 (by decide) (fun c1 => ?_) (fun c1 => ?_)
  · replace h := (ite_h h).1 c1
    exact wX5_busiest_131 C hR N k22 K22 x1 x2 x3 z1 h hP hS (lv_sub hl [0, 1, 2, 3] rfl)
  · replace h := (ite_h h).2 c1
    refine lv_iload hx hb dX5_busiest_123 (lv_at hl 4 rfl) ?_
    refine lv_iload_n hx hb dX5_busiest_125 rfl (lv_at hl 2 rfl) ?_
    refine lv_icmp_ne (tgt := 131) hx hb dX5_busiest_126 (by decide) (fun c1 => ?_) (fun c1 => ?_)
    · replace h := (ite_h h).2 c1
      exact wX5_busiest_131 C hR N k22 K22 x1 x2 x3 z1 h hP hS (lv_sub hl [0, 1, 2, 3] rfl)
    · replace h := (ite_h h).1 c1
      refine lv_iload_n hx hb dX5_busiest_129 rfl (lv_at hl 3 rfl) ?_
      exact hR 130 _ _ _ _ _ (Option.some.inj h).symm dX5_busiest_130 hP hS
set_option maxRecDepth 100000 in
set_option maxHeartbeats 4000000 in
theorem wX5_busiest_106 {p : Program} {l : Launch} {e : Env} {R : Room} {s : State} {m : MethodId} {args : Array Value} {below : List Frame} {meth : Method} {c : Code} {Q : State → Prop} {D : va_G} {cI cJ cZ : ClassId} {ad : Nat → Nat} {A : Nat → Prop} (C : Cx p s m args c cX5_busiest 6 wsX5_busiest RX5 D vwCl (tyl cI cJ cZ) (wM cI cJ cZ ad) A R 2 43) {r : (Int32 × SH)} (hR : Ri p l e R s m args below meth c cX5_busiest D vwCl (wM cI cJ cZ ad) A Q r) (N : Nat) (k22 : Int32 → Int32 → Int32 → SH → Option (Int32 × SH)) (k42 : Int32 → Int32 → Int32 → Int32 → Int32 → SH → Option (Int32 × SH)) (K22 : ∀ (x1 : Int32) (x2 : Int32) (x3 : Int32) (z : SH) (H : Heap) (locs : List Loc) (ls : Array Slot), k22 x1 x2 x3 z = some r → va_P D vwCl (wM cI cJ cZ ad z) H → va_S A s.heap H locs → lv_has ls 6 [(0, .ref (ad 0)), (1, .int x1), (2, .int x2), (3, .int x3)] → W p l e R s m args below meth c H locs 0 0 Q (F0 m 22 ls [])) (K42 : ∀ (x1 : Int32) (x2 : Int32) (x3 : Int32) (x4 : Int32) (x5 : Int32) (z : SH) (H : Heap) (locs : List Loc) (ls : Array Slot), k42 x1 x2 x3 x4 x5 z = some r → va_P D vwCl (wM cI cJ cZ ad z) H → va_S A s.heap H locs → lv_has ls 6 [(0, .ref (ad 0)), (1, .int x1), (2, .int x2), (3, .int x3), (4, .int x4), (5, .int x5)] → W p l e R s m args below meth c H locs 0 0 Q (F0 m 42 ls [])) (x1 : Int32) (x2 : Int32) (x3 : Int32) (x5 : Int32) (t0 : Int32) (z0 : SH) {H : Heap} {locs : List Loc} {ls : Array Slot} (h : fX5_busiest_106 N k22 k42 x1 x2 x3 x5 t0 z0 = some r) (hP : va_P D vwCl (wM cI cJ cZ ad z0) H) (hS : va_S A s.heap H locs) (hl : lv_has ls 6 [(0, .ref (ad 0)), (1, .int x1), (2, .int x2), (3, .int x3), (5, .int x5)]) : W p l e R s m args below meth c H locs 0 0 Q (F0 m 106 ls [.int t0]) := by
  unfold fX5_busiest_106 at h
  have hx := C.1.1
  have hb := C.1.2.1
  refine lv_istore (lv' := [(4, .int t0), (0, .ref (ad 0)), (1, .int x1), (2, .int x2), (3, .int x3), (5, .int x5)]) hx hb dX5_busiest_106 hl (by decide) rfl (fun ls hl => ?_)
  refine lv_iinc (v := x5 + 1) (lv' := [(5, .int (x5 + 1)), (4, .int t0), (0, .ref (ad 0)), (1, .int x1), (2, .int x2), (3, .int x3)]) hx hb dX5_busiest_108 hl (k := 5) rfl rfl (by decide) rfl (fun ls hl => ?_)
  refine lv_goto (tgt := 42) hx hb dX5_busiest_111 (by decide) ?_
  exact K42 x1 x2 x3 t0 (x5 + 1) z0 _ _ _ h hP hS (lv_sub hl [2, 3, 4, 5, 1, 0] rfl)
set_option maxRecDepth 100000 in
set_option maxHeartbeats 4000000 in
theorem wX5_busiest_97 {p : Program} {l : Launch} {e : Env} {R : Room} {s : State} {m : MethodId} {args : Array Value} {below : List Frame} {meth : Method} {c : Code} {Q : State → Prop} {D : va_G} {cI cJ cZ : ClassId} {ad : Nat → Nat} {A : Nat → Prop} (C : Cx p s m args c cX5_busiest 6 wsX5_busiest RX5 D vwCl (tyl cI cJ cZ) (wM cI cJ cZ ad) A R 2 43) {r : (Int32 × SH)} (hR : Ri p l e R s m args below meth c cX5_busiest D vwCl (wM cI cJ cZ ad) A Q r) (N : Nat) (k22 : Int32 → Int32 → Int32 → SH → Option (Int32 × SH)) (k42 : Int32 → Int32 → Int32 → Int32 → Int32 → SH → Option (Int32 × SH)) (K22 : ∀ (x1 : Int32) (x2 : Int32) (x3 : Int32) (z : SH) (H : Heap) (locs : List Loc) (ls : Array Slot), k22 x1 x2 x3 z = some r → va_P D vwCl (wM cI cJ cZ ad z) H → va_S A s.heap H locs → lv_has ls 6 [(0, .ref (ad 0)), (1, .int x1), (2, .int x2), (3, .int x3)] → W p l e R s m args below meth c H locs 0 0 Q (F0 m 22 ls [])) (K42 : ∀ (x1 : Int32) (x2 : Int32) (x3 : Int32) (x4 : Int32) (x5 : Int32) (z : SH) (H : Heap) (locs : List Loc) (ls : Array Slot), k42 x1 x2 x3 x4 x5 z = some r → va_P D vwCl (wM cI cJ cZ ad z) H → va_S A s.heap H locs → lv_has ls 6 [(0, .ref (ad 0)), (1, .int x1), (2, .int x2), (3, .int x3), (4, .int x4), (5, .int x5)] → W p l e R s m args below meth c H locs 0 0 Q (F0 m 42 ls [])) (x1 : Int32) (x2 : Int32) (x3 : Int32) (x4 : Int32) (x5 : Int32) (z0 : SH) {H : Heap} {locs : List Loc} {ls : Array Slot} (h : fX5_busiest_97 N k22 k42 x1 x2 x3 x4 x5 z0 = some r) (hP : va_P D vwCl (wM cI cJ cZ ad z0) H) (hS : va_S A s.heap H locs) (hl : lv_has ls 6 [(0, .ref (ad 0)), (1, .int x1), (2, .int x2), (3, .int x3), (4, .int x4), (5, .int x5)]) : W p l e R s m args below meth c H locs 0 0 Q (F0 m 97 ls []) := by
  unfold fX5_busiest_97 at h
  have hx := C.1.1
  have hb := C.1.2.1
  refine lv_iload hx hb dX5_busiest_97 (lv_at hl 4 rfl) ?_
  refine lv_iconst (v := 1) hx hb dX5_busiest_99 (by decide) ?_
  refine lv_iadd hx hb dX5_busiest_100 ?_
  refine lv_goto (tgt := 106) hx hb dX5_busiest_101 (by decide) ?_
  exact wX5_busiest_106 C hR N k22 k42 K22 K42 x1 x2 x3 x5 (x4 + 1) z0 h hP hS (lv_sub hl [0, 1, 2, 3, 5] rfl)
set_option maxRecDepth 100000 in
set_option maxHeartbeats 4000000 in
theorem wX5_busiest_104 {p : Program} {l : Launch} {e : Env} {R : Room} {s : State} {m : MethodId} {args : Array Value} {below : List Frame} {meth : Method} {c : Code} {Q : State → Prop} {D : va_G} {cI cJ cZ : ClassId} {ad : Nat → Nat} {A : Nat → Prop} (C : Cx p s m args c cX5_busiest 6 wsX5_busiest RX5 D vwCl (tyl cI cJ cZ) (wM cI cJ cZ ad) A R 2 43) {r : (Int32 × SH)} (hR : Ri p l e R s m args below meth c cX5_busiest D vwCl (wM cI cJ cZ ad) A Q r) (N : Nat) (k22 : Int32 → Int32 → Int32 → SH → Option (Int32 × SH)) (k42 : Int32 → Int32 → Int32 → Int32 → Int32 → SH → Option (Int32 × SH)) (K22 : ∀ (x1 : Int32) (x2 : Int32) (x3 : Int32) (z : SH) (H : Heap) (locs : List Loc) (ls : Array Slot), k22 x1 x2 x3 z = some r → va_P D vwCl (wM cI cJ cZ ad z) H → va_S A s.heap H locs → lv_has ls 6 [(0, .ref (ad 0)), (1, .int x1), (2, .int x2), (3, .int x3)] → W p l e R s m args below meth c H locs 0 0 Q (F0 m 22 ls [])) (K42 : ∀ (x1 : Int32) (x2 : Int32) (x3 : Int32) (x4 : Int32) (x5 : Int32) (z : SH) (H : Heap) (locs : List Loc) (ls : Array Slot), k42 x1 x2 x3 x4 x5 z = some r → va_P D vwCl (wM cI cJ cZ ad z) H → va_S A s.heap H locs → lv_has ls 6 [(0, .ref (ad 0)), (1, .int x1), (2, .int x2), (3, .int x3), (4, .int x4), (5, .int x5)] → W p l e R s m args below meth c H locs 0 0 Q (F0 m 42 ls [])) (x1 : Int32) (x2 : Int32) (x3 : Int32) (x4 : Int32) (x5 : Int32) (z0 : SH) {H : Heap} {locs : List Loc} {ls : Array Slot} (h : fX5_busiest_104 N k22 k42 x1 x2 x3 x4 x5 z0 = some r) (hP : va_P D vwCl (wM cI cJ cZ ad z0) H) (hS : va_S A s.heap H locs) (hl : lv_has ls 6 [(0, .ref (ad 0)), (1, .int x1), (2, .int x2), (3, .int x3), (4, .int x4), (5, .int x5)]) : W p l e R s m args below meth c H locs 0 0 Q (F0 m 104 ls []) := by
  unfold fX5_busiest_104 at h
  have hx := C.1.1
  have hb := C.1.2.1
  refine lv_iload hx hb dX5_busiest_104 (lv_at hl 4 rfl) ?_
  exact wX5_busiest_106 C hR N k22 k42 K22 K42 x1 x2 x3 x5 x4 z0 h hP hS (lv_sub hl [0, 1, 2, 3, 5] rfl)
set_option maxRecDepth 100000 in
set_option maxHeartbeats 4000000 in
theorem wX5_busiest_42 {p : Program} {l : Launch} {e : Env} {R : Room} {s : State} {m : MethodId} {args : Array Value} {below : List Frame} {meth : Method} {c : Code} {Q : State → Prop} {D : va_G} {cI cJ cZ : ClassId} {ad : Nat → Nat} {A : Nat → Prop} (C : Cx p s m args c cX5_busiest 6 wsX5_busiest RX5 D vwCl (tyl cI cJ cZ) (wM cI cJ cZ ad) A R 2 43) {r : (Int32 × SH)} (hR : Ri p l e R s m args below meth c cX5_busiest D vwCl (wM cI cJ cZ ad) A Q r) (N : Nat) (k22 : Int32 → Int32 → Int32 → SH → Option (Int32 × SH)) (k42 : Int32 → Int32 → Int32 → Int32 → Int32 → SH → Option (Int32 × SH)) (K22 : ∀ (x1 : Int32) (x2 : Int32) (x3 : Int32) (z : SH) (H : Heap) (locs : List Loc) (ls : Array Slot), k22 x1 x2 x3 z = some r → va_P D vwCl (wM cI cJ cZ ad z) H → va_S A s.heap H locs → lv_has ls 6 [(0, .ref (ad 0)), (1, .int x1), (2, .int x2), (3, .int x3)] → W p l e R s m args below meth c H locs 0 0 Q (F0 m 22 ls [])) (K42 : ∀ (x1 : Int32) (x2 : Int32) (x3 : Int32) (x4 : Int32) (x5 : Int32) (z : SH) (H : Heap) (locs : List Loc) (ls : Array Slot), k42 x1 x2 x3 x4 x5 z = some r → va_P D vwCl (wM cI cJ cZ ad z) H → va_S A s.heap H locs → lv_has ls 6 [(0, .ref (ad 0)), (1, .int x1), (2, .int x2), (3, .int x3), (4, .int x4), (5, .int x5)] → W p l e R s m args below meth c H locs 0 0 Q (F0 m 42 ls [])) (x1 : Int32) (x2 : Int32) (x3 : Int32) (x4 : Int32) (x5 : Int32) (z0 : SH) {H : Heap} {locs : List Loc} {ls : Array Slot} (h : fX5_busiest_42 N k22 k42 x1 x2 x3 x4 x5 z0 = some r) (hP : va_P D vwCl (wM cI cJ cZ ad z0) H) (hS : va_S A s.heap H locs) (hl : lv_has ls 6 [(0, .ref (ad 0)), (1, .int x1), (2, .int x2), (3, .int x3), (4, .int x4), (5, .int x5)]) : W p l e R s m args below meth c H locs 0 0 Q (F0 m 42 ls []) := by
  unfold fX5_busiest_42 at h
  have hx := C.1.1
  have hb := C.1.2.1
  refine lv_iload hx hb dX5_busiest_42 (lv_at hl 5 rfl) ?_
  refine lv_sipush (v := 512) hx hb dX5_busiest_44 (by decide) ?_
  refine lv_icmp_ge (tgt := 114) hx hb dX5_busiest_47 (by decide) (fun c1 => ?_) (fun c1 => ?_)
  · replace h := (ite_h h).1 c1
    exact wX5_busiest_114 C hR N k22 K22 x1 x2 x3 x4 z0 h hP hS (lv_sub hl [0, 1, 2, 3, 4] rfl)
  · replace h := (ite_h h).2 c1
    refine lv_aload_n hx hb dX5_busiest_50 rfl (lv_at hl 0 rfl) ?_
    refine lv_iload_n hx hb dX5_busiest_51 rfl (lv_at hl 3 rfl) ?_
    refine lv_iload_n hx hb dX5_busiest_52 rfl (lv_at hl 1 rfl) ?_
    refine b_callVi (As := [.int x3, .int x1]) (rest := []) C hP hS h (mX5_business l D cI cJ cZ ad x3 x1 z0) (cwV 2 C.1.2.2.2.2 gX5_busiest_X5_business rfl rfl rfl (by decide +kernel) ⟨Nat.le_trans (Nat.le_of_ble_eq_true rfl) C.2.2.2.2.1, Nat.le_trans (Nat.le_of_ble_eq_true rfl) C.2.2.2.2.2⟩) (va_recv C.2.1 hP (ci := 5) (q0 := 0) rfl (wM_0 cI cJ cZ ad z0)) rfl hl.1 rfl (Nat.le_of_ble_eq_true rfl) dX5_busiest_53 (fun v2 z1 _ _ h hP hS => ?_)
    refine lv_if_le (tgt := 114) hx hb dX5_busiest_56 (by decide) (fun c1 => ?_) (fun c1 => ?_)
    · replace h := (ite_h h).1 c1
      exact wX5_busiest_114 C hR N k22 K22 x1 x2 x3 x4 z1 h hP hS (lv_sub hl [0, 1, 2, 3, 4] rfl)
    · replace h := (ite_h h).2 c1
      refine lv_aload_n hx hb dX5_busiest_59 rfl (lv_at hl 0 rfl) ?_
      refine lv_iload hx hb dX5_busiest_60 (lv_at hl 5 rfl) ?_
      refine lv_iload_n hx hb dX5_busiest_62 rfl (lv_at hl 1 rfl) ?_
      refine b_callVi (As := [.int x5, .int x1]) (rest := []) C hP hS h (mX5_business l D cI cJ cZ ad x5 x1 z1) (cwV 2 C.1.2.2.2.2 gX5_busiest_X5_business rfl rfl rfl (by decide +kernel) ⟨Nat.le_trans (Nat.le_of_ble_eq_true rfl) C.2.2.2.2.1, Nat.le_trans (Nat.le_of_ble_eq_true rfl) C.2.2.2.2.2⟩) (va_recv C.2.1 hP (ci := 5) (q0 := 0) rfl (wM_0 cI cJ cZ ad z1)) rfl hl.1 rfl (Nat.le_of_ble_eq_true rfl) dX5_busiest_63 (fun v4 z3 _ _ h hP hS => ?_)
      refine lv_aload_n hx hb dX5_busiest_66 rfl (lv_at hl 0 rfl) ?_
      refine lv_iload_n hx hb dX5_busiest_67 rfl (lv_at hl 3 rfl) ?_
      refine lv_iload_n hx hb dX5_busiest_68 rfl (lv_at hl 1 rfl) ?_
      refine b_callVi (As := [.int x3, .int x1]) (rest := [.int v4]) C hP hS h (mX5_business l D cI cJ cZ ad x3 x1 z3) (cwV 2 C.1.2.2.2.2 gX5_busiest_X5_business rfl rfl rfl (by decide +kernel) ⟨Nat.le_trans (Nat.le_of_ble_eq_true rfl) C.2.2.2.2.1, Nat.le_trans (Nat.le_of_ble_eq_true rfl) C.2.2.2.2.2⟩) (va_recv C.2.1 hP (ci := 5) (q0 := 0) rfl (wM_0 cI cJ cZ ad z3)) rfl hl.1 rfl (Nat.le_of_ble_eq_true rfl) dX5_busiest_69 (fun v6 z5 _ _ h hP hS => ?_)
      refine lv_icmp_gt (tgt := 97) hx hb dX5_busiest_72 (by decide) (fun c1 => ?_) (fun c1 => ?_)
      · replace h := (ite_h h).1 c1
        exact wX5_busiest_97 C hR N k22 k42 K22 K42 x1 x2 x3 x4 x5 z5 h hP hS (lv_sub hl [0, 1, 2, 3, 4, 5] rfl)
      · replace h := (ite_h h).2 c1
        refine lv_aload_n hx hb dX5_busiest_75 rfl (lv_at hl 0 rfl) ?_
        refine lv_iload hx hb dX5_busiest_76 (lv_at hl 5 rfl) ?_
        refine lv_iload_n hx hb dX5_busiest_78 rfl (lv_at hl 1 rfl) ?_
        refine b_callVi (As := [.int x5, .int x1]) (rest := []) C hP hS h (mX5_business l D cI cJ cZ ad x5 x1 z5) (cwV 2 C.1.2.2.2.2 gX5_busiest_X5_business rfl rfl rfl (by decide +kernel) ⟨Nat.le_trans (Nat.le_of_ble_eq_true rfl) C.2.2.2.2.1, Nat.le_trans (Nat.le_of_ble_eq_true rfl) C.2.2.2.2.2⟩) (va_recv C.2.1 hP (ci := 5) (q0 := 0) rfl (wM_0 cI cJ cZ ad z5)) rfl hl.1 rfl (Nat.le_of_ble_eq_true rfl) dX5_busiest_79 (fun v8 z7 _ _ h hP hS => ?_)
        refine lv_aload_n hx hb dX5_busiest_82 rfl (lv_at hl 0 rfl) ?_
        refine lv_iload_n hx hb dX5_busiest_83 rfl (lv_at hl 3 rfl) ?_
        refine lv_iload_n hx hb dX5_busiest_84 rfl (lv_at hl 1 rfl) ?_
        refine b_callVi (As := [.int x3, .int x1]) (rest := [.int v8]) C hP hS h (mX5_business l D cI cJ cZ ad x3 x1 z7) (cwV 2 C.1.2.2.2.2 gX5_busiest_X5_business rfl rfl rfl (by decide +kernel) ⟨Nat.le_trans (Nat.le_of_ble_eq_true rfl) C.2.2.2.2.1, Nat.le_trans (Nat.le_of_ble_eq_true rfl) C.2.2.2.2.2⟩) (va_recv C.2.1 hP (ci := 5) (q0 := 0) rfl (wM_0 cI cJ cZ ad z7)) rfl hl.1 rfl (Nat.le_of_ble_eq_true rfl) dX5_busiest_85 (fun v10 z9 _ _ h hP hS => ?_)
        refine lv_icmp_ne (tgt := 104) hx hb dX5_busiest_88 (by decide) (fun c1 => ?_) (fun c1 => ?_)
        · replace h := (ite_h h).2 c1
          exact wX5_busiest_104 C hR N k22 k42 K22 K42 x1 x2 x3 x4 x5 z9 h hP hS (lv_sub hl [0, 1, 2, 3, 4, 5] rfl)
        · replace h := (ite_h h).1 c1
          refine lv_iload hx hb dX5_busiest_91 (lv_at hl 5 rfl) ?_
          refine lv_iload_n hx hb dX5_busiest_93 rfl (lv_at hl 3 rfl) ?_
          refine lv_icmp_ge (tgt := 104) hx hb dX5_busiest_94 (by decide) (fun c1 => ?_) (fun c1 => ?_)
          · replace h := (ite_h h).1 c1
            exact wX5_busiest_104 C hR N k22 k42 K22 K42 x1 x2 x3 x4 x5 z9 h hP hS (lv_sub hl [0, 1, 2, 3, 4, 5] rfl)
          · replace h := (ite_h h).2 c1
            exact wX5_busiest_97 C hR N k22 k42 K22 K42 x1 x2 x3 x4 x5 z9 h hP hS (lv_sub hl [0, 1, 2, 3, 4, 5] rfl)
theorem wX5_busiest_42_L {p : Program} {l : Launch} {e : Env} {R : Room} {s : State} {m : MethodId} {args : Array Value} {below : List Frame} {meth : Method} {c : Code} {Q : State → Prop} {D : va_G} {cI cJ cZ : ClassId} {ad : Nat → Nat} {A : Nat → Prop} (C : Cx p s m args c cX5_busiest 6 wsX5_busiest RX5 D vwCl (tyl cI cJ cZ) (wM cI cJ cZ ad) A R 2 43) {r : (Int32 × SH)} (hR : Ri p l e R s m args below meth c cX5_busiest D vwCl (wM cI cJ cZ ad) A Q r) (N : Nat) (k22 : Int32 → Int32 → Int32 → SH → Option (Int32 × SH)) (K22 : ∀ (x1 : Int32) (x2 : Int32) (x3 : Int32) (z : SH) (H : Heap) (locs : List Loc) (ls : Array Slot), k22 x1 x2 x3 z = some r → va_P D vwCl (wM cI cJ cZ ad z) H → va_S A s.heap H locs → lv_has ls 6 [(0, .ref (ad 0)), (1, .int x1), (2, .int x2), (3, .int x3)] → W p l e R s m args below meth c H locs 0 0 Q (F0 m 22 ls [])) : ∀ (n : Nat), ∀ (x1 : Int32) (x2 : Int32) (x3 : Int32) (x4 : Int32) (x5 : Int32) (z : SH) (H : Heap) (locs : List Loc) (ls : Array Slot), fX5_busiest_42_L N k22 n x1 x2 x3 x4 x5 z = some r → va_P D vwCl (wM cI cJ cZ ad z) H → va_S A s.heap H locs → lv_has ls 6 [(0, .ref (ad 0)), (1, .int x1), (2, .int x2), (3, .int x3), (4, .int x4), (5, .int x5)] → W p l e R s m args below meth c H locs 0 0 Q (F0 m 42 ls []) := by
  intro n
  induction n with
  | zero => intro x1 x2 x3 x4 x5 z H locs ls h; exact nomatch (show (none : Option (Int32 × SH)) = some r from h)
  | succ n ih => intro x1 x2 x3 x4 x5 z H locs ls h hP hS hl; exact wX5_busiest_42 C hR N k22 (fX5_busiest_42_L N k22 n) K22 ih x1 x2 x3 x4 x5 z (show fX5_busiest_42 N k22 (fX5_busiest_42_L N k22 n) x1 x2 x3 x4 x5 z = some r from h) hP hS hl
set_option maxRecDepth 100000 in
set_option maxHeartbeats 4000000 in
theorem wX5_busiest_22 {p : Program} {l : Launch} {e : Env} {R : Room} {s : State} {m : MethodId} {args : Array Value} {below : List Frame} {meth : Method} {c : Code} {Q : State → Prop} {D : va_G} {cI cJ cZ : ClassId} {ad : Nat → Nat} {A : Nat → Prop} (C : Cx p s m args c cX5_busiest 6 wsX5_busiest RX5 D vwCl (tyl cI cJ cZ) (wM cI cJ cZ ad) A R 2 43) {r : (Int32 × SH)} (hR : Ri p l e R s m args below meth c cX5_busiest D vwCl (wM cI cJ cZ ad) A Q r) (N : Nat) (k22 : Int32 → Int32 → Int32 → SH → Option (Int32 × SH)) (K22 : ∀ (x1 : Int32) (x2 : Int32) (x3 : Int32) (z : SH) (H : Heap) (locs : List Loc) (ls : Array Slot), k22 x1 x2 x3 z = some r → va_P D vwCl (wM cI cJ cZ ad z) H → va_S A s.heap H locs → lv_has ls 6 [(0, .ref (ad 0)), (1, .int x1), (2, .int x2), (3, .int x3)] → W p l e R s m args below meth c H locs 0 0 Q (F0 m 22 ls [])) (x1 : Int32) (x2 : Int32) (x3 : Int32) (z0 : SH) {H : Heap} {locs : List Loc} {ls : Array Slot} (h : fX5_busiest_22 N k22 x1 x2 x3 z0 = some r) (hP : va_P D vwCl (wM cI cJ cZ ad z0) H) (hS : va_S A s.heap H locs) (hl : lv_has ls 6 [(0, .ref (ad 0)), (1, .int x1), (2, .int x2), (3, .int x3)]) : W p l e R s m args below meth c H locs 0 0 Q (F0 m 22 ls []) := by
  unfold fX5_busiest_22 at h
  have hx := C.1.1
  have hb := C.1.2.1
  refine lv_iload_n hx hb dX5_busiest_22 rfl (lv_at hl 3 rfl) ?_
  refine lv_sipush (v := 512) hx hb dX5_busiest_23 (by decide) ?_
  refine lv_icmp_ge (tgt := 137) hx hb dX5_busiest_26 (by decide) (fun c1 => ?_) (fun c1 => ?_)
  · replace h := (ite_h h).1 c1
    exact wX5_busiest_137 C hR N z0 h hP hS (lv_sub hl [0] rfl)
  · replace h := (ite_h h).2 c1
    refine lv_aload_n hx hb dX5_busiest_29 rfl (lv_at hl 0 rfl) ?_
    refine b_geti C hP h iX5_busiest_X5 0 (wM_0 cI cJ cZ ad z0) rfl 0 (by decide) fX5_busiest_i93 rfl rfl dX5_busiest_30 (fun v1 h => ?_)
    refine lv_if_ne (tgt := 137) hx hb dX5_busiest_33 (by decide) (fun c1 => ?_) (fun c1 => ?_)
    · replace h := (ite_h h).2 c1
      exact wX5_busiest_137 C hR N z0 h hP hS (lv_sub hl [0] rfl)
    · replace h := (ite_h h).1 c1
      refine lv_iconst (v := 0) hx hb dX5_busiest_36 (by decide) ?_
      refine lv_istore (lv' := [(4, .int 0), (0, .ref (ad 0)), (1, .int x1), (2, .int x2), (3, .int x3)]) hx hb dX5_busiest_37 hl (by decide) rfl (fun ls hl => ?_)
      refine lv_iconst (v := 0) hx hb dX5_busiest_39 (by decide) ?_
      refine lv_istore (lv' := [(5, .int 0), (4, .int 0), (0, .ref (ad 0)), (1, .int x1), (2, .int x2), (3, .int x3)]) hx hb dX5_busiest_40 hl (by decide) rfl (fun ls hl => ?_)
      exact wX5_busiest_42_L C hR N k22 K22 N x1 x2 x3 0 0 z0 _ _ _ h hP hS (lv_sub hl [2, 3, 4, 5, 1, 0] rfl)
theorem wX5_busiest_22_L {p : Program} {l : Launch} {e : Env} {R : Room} {s : State} {m : MethodId} {args : Array Value} {below : List Frame} {meth : Method} {c : Code} {Q : State → Prop} {D : va_G} {cI cJ cZ : ClassId} {ad : Nat → Nat} {A : Nat → Prop} (C : Cx p s m args c cX5_busiest 6 wsX5_busiest RX5 D vwCl (tyl cI cJ cZ) (wM cI cJ cZ ad) A R 2 43) {r : (Int32 × SH)} (hR : Ri p l e R s m args below meth c cX5_busiest D vwCl (wM cI cJ cZ ad) A Q r) (N : Nat) : ∀ (n : Nat), ∀ (x1 : Int32) (x2 : Int32) (x3 : Int32) (z : SH) (H : Heap) (locs : List Loc) (ls : Array Slot), fX5_busiest_22_L N n x1 x2 x3 z = some r → va_P D vwCl (wM cI cJ cZ ad z) H → va_S A s.heap H locs → lv_has ls 6 [(0, .ref (ad 0)), (1, .int x1), (2, .int x2), (3, .int x3)] → W p l e R s m args below meth c H locs 0 0 Q (F0 m 22 ls []) := by
  intro n
  induction n with
  | zero => intro x1 x2 x3 z H locs ls h; exact nomatch (show (none : Option (Int32 × SH)) = some r from h)
  | succ n ih => intro x1 x2 x3 z H locs ls h hP hS hl; exact wX5_busiest_22 C hR N (fX5_busiest_22_L N n) ih x1 x2 x3 z (show fX5_busiest_22 N (fX5_busiest_22_L N n) x1 x2 x3 z = some r from h) hP hS hl
set_option maxRecDepth 100000 in
set_option maxHeartbeats 4000000 in
theorem wX5_busiest_17 {p : Program} {l : Launch} {e : Env} {R : Room} {s : State} {m : MethodId} {args : Array Value} {below : List Frame} {meth : Method} {c : Code} {Q : State → Prop} {D : va_G} {cI cJ cZ : ClassId} {ad : Nat → Nat} {A : Nat → Prop} (C : Cx p s m args c cX5_busiest 6 wsX5_busiest RX5 D vwCl (tyl cI cJ cZ) (wM cI cJ cZ ad) A R 2 43) {r : (Int32 × SH)} (hR : Ri p l e R s m args below meth c cX5_busiest D vwCl (wM cI cJ cZ ad) A Q r) (N : Nat) (x1 : Int32) (x2 : Int32) (t0 : Int32) (z0 : SH) {H : Heap} {locs : List Loc} {ls : Array Slot} (h : fX5_busiest_17 N x1 x2 t0 z0 = some r) (hP : va_P D vwCl (wM cI cJ cZ ad z0) H) (hS : va_S A s.heap H locs) (hl : lv_has ls 6 [(0, .ref (ad 0)), (1, .int x1), (2, .int x2)]) : W p l e R s m args below meth c H locs 0 0 Q (F0 m 17 ls [.int t0, .ref (ad 0)]) := by
  unfold fX5_busiest_17 at h
  have hx := C.1.1
  have hb := C.1.2.1
  refine b_puti C hP hS h iX5_busiest_X5 tyX5 tyX5_ok nmX5 0 (wM_0 cI cJ cZ ad z0) rfl 0 (by decide) fX5_busiest_i93 rfl rfl rfl (Nat.le_of_ble_eq_true rfl) (wM_si0 cI cJ cZ ad z0 _) dX5_busiest_17 (fun z1 _ _ h hP hS => ?_)
  refine lv_iconst (v := 0) hx hb dX5_busiest_20 (by decide) ?_
  refine lv_istore_n (lv' := [(3, .int 0), (0, .ref (ad 0)), (1, .int x1), (2, .int x2)]) hx hb dX5_busiest_21 rfl hl (by decide) rfl (fun ls hl => ?_)
  exact wX5_busiest_22_L C hR N N x1 x2 0 z1 _ _ _ h hP hS (lv_sub hl [1, 2, 3, 0] rfl)
set_option maxRecDepth 100000 in
set_option maxHeartbeats 4000000 in
theorem wX5_busiest_16 {p : Program} {l : Launch} {e : Env} {R : Room} {s : State} {m : MethodId} {args : Array Value} {below : List Frame} {meth : Method} {c : Code} {Q : State → Prop} {D : va_G} {cI cJ cZ : ClassId} {ad : Nat → Nat} {A : Nat → Prop} (C : Cx p s m args c cX5_busiest 6 wsX5_busiest RX5 D vwCl (tyl cI cJ cZ) (wM cI cJ cZ ad) A R 2 43) {r : (Int32 × SH)} (hR : Ri p l e R s m args below meth c cX5_busiest D vwCl (wM cI cJ cZ ad) A Q r) (N : Nat) (x1 : Int32) (x2 : Int32) (z0 : SH) {H : Heap} {locs : List Loc} {ls : Array Slot} (h : fX5_busiest_16 N x1 x2 z0 = some r) (hP : va_P D vwCl (wM cI cJ cZ ad z0) H) (hS : va_S A s.heap H locs) (hl : lv_has ls 6 [(0, .ref (ad 0)), (1, .int x1), (2, .int x2)]) : W p l e R s m args below meth c H locs 0 0 Q (F0 m 16 ls [.ref (ad 0)]) := by
  unfold fX5_busiest_16 at h
  have hx := C.1.1
  have hb := C.1.2.1
  refine lv_iconst (v := 1) hx hb dX5_busiest_16 (by decide) ?_
  exact wX5_busiest_17 C hR N x1 x2 1 z0 h hP hS (lv_sub hl [0, 1, 2] rfl)
set_option maxRecDepth 100000 in
set_option maxHeartbeats 4000000 in
theorem wX5_busiest {p : Program} {l : Launch} {e : Env} {R : Room} {s : State} {m : MethodId} {args : Array Value} {below : List Frame} {meth : Method} {c : Code} {Q : State → Prop} {D : va_G} {cI cJ cZ : ClassId} {ad : Nat → Nat} {A : Nat → Prop} (C : Cx p s m args c cX5_busiest 6 wsX5_busiest RX5 D vwCl (tyl cI cJ cZ) (wM cI cJ cZ ad) A R 2 43) {r : (Int32 × SH)} (hR : Ri p l e R s m args below meth c cX5_busiest D vwCl (wM cI cJ cZ ad) A Q r) (N : Nat) (a1 : Int32) (a2 : Int32) (z0 : SH) {H : Heap} {locs : List Loc} {ls : Array Slot} (h : fX5_busiest N a1 a2 z0 = some r) (hP : va_P D vwCl (wM cI cJ cZ ad z0) H) (hS : va_S A s.heap H locs) (hl : lv_has ls 6 [(0, .ref (ad 0)), (1, .int a1), (2, .int a2)]) : W p l e R s m args below meth c H locs 0 0 Q (F0 m 0 ls []) := by
  unfold fX5_busiest at h
  have hx := C.1.1
  have hb := C.1.2.1
  refine lv_aload_n hx hb dX5_busiest_0 rfl (lv_at hl 0 rfl) ?_
  refine lv_iload_n hx hb dX5_busiest_1 rfl (lv_at hl 1 rfl) ?_
  refine b_callSi (As := [.int a1]) (rest := [.ref (ad 0)]) C hP hS h (mX5_isSymbol l D cI cJ cZ ad a1 z0) (va_cwS 1 C.1.2.2.2.2 gX5_busiest_X5_isSymbol rfl rfl rfl (by decide +kernel) ⟨Nat.le_trans (Nat.le_of_ble_eq_true rfl) C.2.2.2.2.1, Nat.le_trans (Nat.le_of_ble_eq_true rfl) C.2.2.2.2.2⟩) rfl hl.1 rfl (Nat.le_of_ble_eq_true rfl) dX5_busiest_2 (fun v2 z1 _ _ h hP hS => ?_)
  refine lv_if_eq (tgt := 16) hx hb dX5_busiest_5 (by decide) (fun c1 => ?_) (fun c1 => ?_)
  · replace h := (ite_h h).1 c1
    exact wX5_busiest_16 C hR N a1 a2 z1 h hP hS (lv_sub hl [0, 1, 2] rfl)
  · replace h := (ite_h h).2 c1
    refine lv_iload_n hx hb dX5_busiest_8 rfl (lv_at hl 2 rfl) ?_
    refine lv_if_lt (tgt := 16) hx hb dX5_busiest_9 (by decide) (fun c1 => ?_) (fun c1 => ?_)
    · replace h := (ite_h h).1 c1
      exact wX5_busiest_16 C hR N a1 a2 z1 h hP hS (lv_sub hl [0, 1, 2] rfl)
    · replace h := (ite_h h).2 c1
      refine lv_iconst (v := 0) hx hb dX5_busiest_12 (by decide) ?_
      refine lv_goto (tgt := 17) hx hb dX5_busiest_13 (by decide) ?_
      exact wX5_busiest_17 C hR N a1 a2 0 z1 h hP hS (lv_sub hl [0, 1, 2] rfl)
theorem mX5_busiest (l : Launch) (D : va_G) (cI cJ cZ : ClassId) (ad : Nat → Nat) (N : Nat) (a1 : Int32) (a2 : Int32) (z0 : SH) : ∀ (q : (Int32 × SH)) (sz : Nat), fX5_busiest N a1 a2 z0 = some q → Met l yX5_busiest wsX5_busiest rmX5_busiest (cP D vwCl (tyl cI cJ cZ) (wM cI cJ cZ ad z0) sz [.ref (ad 0), .int a1, .int a2]) (cQi D vwCl (wM cI cJ cZ ad) z0 sz q) 0 0 (va_A (wM cI cJ cZ ad z0) sz) := by
  intro q sz h
  refine ofW_i (cc := cX5_busiest) (maxL := 6) (by decide) rfl (wM_same cI cJ cZ ad) (Nat.le_of_ble_eq_true rfl) (fun p e s m below meth c ls hsz C hR hP hl => ?_)
  exact wX5_busiest C hR N a1 a2 z0 h hP va_S.rf hl
