abbrev rmX5_match : Room := { frames := 3, cells := 0, slots := 0, locals := 71 }
theorem fX5_match_i146 : Cond.fieldLink RX5 146 (TX5 22).1 (TX5 22).2.1 (TX5 22).2.2.1 ∈ wsX5_match := by decide +kernel
theorem fX5_match_i33 : Cond.fieldLink RX5 33 (TX5 10).1 (TX5 10).2.1 (TX5 10).2.2.1 ∈ wsX5_match := by decide +kernel
theorem fX5_match_i36 : Cond.fieldLink RX5 36 (TX5 11).1 (TX5 11).2.1 (TX5 11).2.2.1 ∈ wsX5_match := by decide +kernel
theorem fX5_match_i39 : Cond.fieldLink RX5 39 (TX5 12).1 (TX5 12).2.1 (TX5 12).2.2.1 ∈ wsX5_match := by decide +kernel
theorem fX5_match_i48 : Cond.fieldLink RX5 48 (TX5 15).1 (TX5 15).2.1 (TX5 15).2.2.1 ∈ wsX5_match := by decide +kernel
theorem fX5_match_i51 : Cond.fieldLink RX5 51 (TX5 16).1 (TX5 16).2.1 (TX5 16).2.2.1 ∈ wsX5_match := by decide +kernel
theorem fX5_match_i54 : Cond.fieldLink RX5 54 (TX5 17).1 (TX5 17).2.1 (TX5 17).2.2.1 ∈ wsX5_match := by decide +kernel
theorem fX5_match_i57 : Cond.fieldLink RX5 57 (TX5 18).1 (TX5 18).2.1 (TX5 18).2.2.1 ∈ wsX5_match := by decide +kernel
theorem fX5_match_i63 : Cond.fieldLink RX5 63 (TX5 20).1 (TX5 20).2.1 (TX5 20).2.2.1 ∈ wsX5_match := by decide +kernel
theorem fX5_match_i66 : Cond.fieldLink RX5 66 (TX5 21).1 (TX5 21).2.1 (TX5 21).2.2.1 ∈ wsX5_match := by decide +kernel
theorem iX5_match_X5 : ∀ x ∈ wsX50, x ∈ wsX5_match := by decide +kernel
set_option maxRecDepth 100000 in
set_option maxHeartbeats 4000000 in
theorem wX5_match_274 {p : Program} {l : Launch} {e : Env} {R : Room} {s : State} {m : MethodId} {args : Array Value} {below : List Frame} {meth : Method} {c : Code} {Q : State → Prop} {D : va_G} {cI cJ cZ : ClassId} {ad : Nat → Nat} {A : Nat → Prop} (C : Cx p s m args c cX5_match 5 wsX5_match RX5 D vwCl (tyl cI cJ cZ) (wM cI cJ cZ ad) A R 3 71) {r : (Int32 × SH)} (hR : Rz p l e R s m args below meth c cX5_match D vwCl (wM cI cJ cZ ad) A Q r) (N : Nat) (x2 : Int32) (z0 : SH) {H : Heap} {locs : List Loc} {ls : Array Slot} (h : fX5_match_274 N x2 z0 = some r) (hP : va_P D vwCl (wM cI cJ cZ ad z0) H) (hS : va_S A s.heap H locs) (hl : lv_has ls 5 [(2, .int x2)]) : W p l e R s m args below meth c H locs 0 0 Q (F0 m 274 ls []) := by
  unfold fX5_match_274 at h
  have hx := C.1.1
  have hb := C.1.2.1
  refine lv_iload_n hx hb dX5_match_274 rfl (lv_at hl 0 rfl) ?_
  exact hR 275 _ _ _ _ _ h dX5_match_275 hP hS
set_option maxRecDepth 100000 in
set_option maxHeartbeats 4000000 in
theorem wX5_match_252 {p : Program} {l : Launch} {e : Env} {R : Room} {s : State} {m : MethodId} {args : Array Value} {below : List Frame} {meth : Method} {c : Code} {Q : State → Prop} {D : va_G} {cI cJ cZ : ClassId} {ad : Nat → Nat} {A : Nat → Prop} (C : Cx p s m args c cX5_match 5 wsX5_match RX5 D vwCl (tyl cI cJ cZ) (wM cI cJ cZ ad) A R 3 71) {r : (Int32 × SH)} (hR : Rz p l e R s m args below meth c cX5_match D vwCl (wM cI cJ cZ ad) A Q r) (N : Nat) (k21 : Int32 → Int32 → Int32 → SH → Option (Int32 × SH)) (K21 : ∀ (x1 : Int32) (x2 : Int32) (x3 : Int32) (z : SH) (H : Heap) (locs : List Loc) (ls : Array Slot), k21 x1 x2 x3 z = some r → va_P D vwCl (wM cI cJ cZ ad z) H → va_S A s.heap H locs → lv_has ls 5 [(0, .ref (ad 0)), (1, .int x1), (2, .int x2), (3, .int x3)] → W p l e R s m args below meth c H locs 0 0 Q (F0 m 21 ls [])) (x1 : Int32) (x2 : Int32) (z0 : SH) {H : Heap} {locs : List Loc} {ls : Array Slot} (h : fX5_match_252 N k21 x1 x2 z0 = some r) (hP : va_P D vwCl (wM cI cJ cZ ad z0) H) (hS : va_S A s.heap H locs) (hl : lv_has ls 5 [(0, .ref (ad 0)), (1, .int x1), (2, .int x2)]) : W p l e R s m args below meth c H locs 0 0 Q (F0 m 252 ls []) := by
  unfold fX5_match_252 at h
  have hx := C.1.1
  have hb := C.1.2.1
  refine lv_aload_n hx hb dX5_match_252 rfl (lv_at hl 0 rfl) ?_
  refine lv_aload_n hx hb dX5_match_253 rfl (lv_at hl 0 rfl) ?_
  refine b_getr C hP iX5_match_X5 0 (wM_0 cI cJ cZ ad z0) rfl 11 (by decide) fX5_match_i36 rfl rfl dX5_match_254 ?_
  refine lv_iload_n hx hb dX5_match_257 rfl (lv_at hl 1 rfl) ?_
  refine b_iald C hP h 9 (wM_9 cI cJ cZ ad z0) 0 rfl dX5_match_258 (fun v1 h => ?_)
  refine lv_iconst (v := 1) hx hb dX5_match_259 (by decide) ?_
  refine lv_aload_n hx hb dX5_match_260 rfl (lv_at hl 0 rfl) ?_
  refine b_getr C hP iX5_match_X5 0 (wM_0 cI cJ cZ ad z0) rfl 12 (by decide) fX5_match_i39 rfl rfl dX5_match_261 ?_
  refine lv_iload_n hx hb dX5_match_264 rfl (lv_at hl 1 rfl) ?_
  refine b_iald C hP h 10 (wM_10 cI cJ cZ ad z0) 0 rfl dX5_match_265 (fun v2 h => ?_)
  refine lv_isub hx hb dX5_match_266 ?_
  refine b_callVi (As := [.int v1, .int (1 - v2)]) (rest := []) C hP hS h (mX5_first l D cI cJ cZ ad N v1 (1 - v2) z0) (cwV 2 C.1.2.2.2.2 gX5_match_X5_first rfl rfl rfl (by decide +kernel) ⟨Nat.le_trans (Nat.le_of_ble_eq_true rfl) C.2.2.2.2.1, Nat.le_trans (Nat.le_of_ble_eq_true rfl) C.2.2.2.2.2⟩) (va_recv C.2.1 hP (ci := 5) (q0 := 0) rfl (wM_0 cI cJ cZ ad z0)) rfl hl.1 rfl (Nat.le_of_ble_eq_true rfl) dX5_match_267 (fun v4 z3 _ _ h hP hS => ?_)
  refine lv_istore_n (lv' := [(3, .int v4), (0, .ref (ad 0)), (1, .int x1), (2, .int x2)]) hx hb dX5_match_270 rfl hl (by decide) rfl (fun ls hl => ?_)
  refine lv_goto (tgt := 21) hx hb dX5_match_271 (by decide) ?_
  exact K21 x1 x2 v4 z3 _ _ _ h hP hS (lv_sub hl [1, 2, 3, 0] rfl)
set_option maxRecDepth 100000 in
set_option maxHeartbeats 4000000 in
theorem wX5_match_231 {p : Program} {l : Launch} {e : Env} {R : Room} {s : State} {m : MethodId} {args : Array Value} {below : List Frame} {meth : Method} {c : Code} {Q : State → Prop} {D : va_G} {cI cJ cZ : ClassId} {ad : Nat → Nat} {A : Nat → Prop} (C : Cx p s m args c cX5_match 5 wsX5_match RX5 D vwCl (tyl cI cJ cZ) (wM cI cJ cZ ad) A R 3 71) {r : (Int32 × SH)} (hR : Rz p l e R s m args below meth c cX5_match D vwCl (wM cI cJ cZ ad) A Q r) (N : Nat) (k21 : Int32 → Int32 → Int32 → SH → Option (Int32 × SH)) (K21 : ∀ (x1 : Int32) (x2 : Int32) (x3 : Int32) (z : SH) (H : Heap) (locs : List Loc) (ls : Array Slot), k21 x1 x2 x3 z = some r → va_P D vwCl (wM cI cJ cZ ad z) H → va_S A s.heap H locs → lv_has ls 5 [(0, .ref (ad 0)), (1, .int x1), (2, .int x2), (3, .int x3)] → W p l e R s m args below meth c H locs 0 0 Q (F0 m 21 ls [])) (x1 : Int32) (x2 : Int32) (x3 : Int32) (t0 : Int32) (t1 : Int32) (z0 : SH) {H : Heap} {locs : List Loc} {ls : Array Slot} (h : fX5_match_231 N k21 x1 x2 x3 t0 t1 z0 = some r) (hP : va_P D vwCl (wM cI cJ cZ ad z0) H) (hS : va_S A s.heap H locs) (hl : lv_has ls 5 [(0, .ref (ad 0)), (1, .int x1), (2, .int x2), (3, .int x3)]) : W p l e R s m args below meth c H locs 0 0 Q (F0 m 231 ls [.int t0, .int t1, .ref (ad 14)]) := by
  unfold fX5_match_231 at h
  have hx := C.1.1
  have hb := C.1.2.1
  refine b_iast C hP hS h 14 (wM_14 cI cJ cZ ad z0) 0 rfl (wM_s14 cI cJ cZ ad z0 _ _) dX5_match_231 (fun z1 _ _ h hP hS => ?_)
  refine lv_aload_n hx hb dX5_match_232 rfl (lv_at hl 0 rfl) ?_
  refine b_getr C hP iX5_match_X5 0 (wM_0 cI cJ cZ ad z1) rfl 21 (by decide) fX5_match_i66 rfl rfl dX5_match_233 ?_
  refine lv_iload_n hx hb dX5_match_236 rfl (lv_at hl 3 rfl) ?_
  refine lv_aload_n hx hb dX5_match_237 rfl (lv_at hl 0 rfl) ?_
  refine b_geti C hP h iX5_match_X5 0 (wM_0 cI cJ cZ ad z1) rfl 22 (by decide) fX5_match_i146 rfl rfl dX5_match_238 (fun v2 h => ?_)
  refine b_iast C hP hS h 19 (wM_19 cI cJ cZ ad z1) 0 rfl (wM_s19 cI cJ cZ ad z1 _ _) dX5_match_241 (fun z3 _ _ h hP hS => ?_)
  refine lv_aload_n hx hb dX5_match_242 rfl (lv_at hl 0 rfl) ?_
  refine lv_dup hx hb dX5_match_243 rfl ?_
  refine b_geti C hP h iX5_match_X5 0 (wM_0 cI cJ cZ ad z3) rfl 22 (by decide) fX5_match_i146 rfl rfl dX5_match_244 (fun v4 h => ?_)
  refine lv_iconst (v := 1) hx hb dX5_match_247 (by decide) ?_
  refine lv_iadd hx hb dX5_match_248 ?_
  refine b_puti C hP hS h iX5_match_X5 tyX5 tyX5_ok nmX5 0 (wM_0 cI cJ cZ ad z3) rfl 22 (by decide) fX5_match_i146 rfl rfl rfl (Nat.le_of_ble_eq_true rfl) (wM_si3 cI cJ cZ ad z3 _) dX5_match_249 (fun z5 _ _ h hP hS => ?_)
  exact wX5_match_252 C hR N k21 K21 x1 x2 z5 h hP hS (lv_sub hl [0, 1, 2] rfl)
set_option maxRecDepth 100000 in
set_option maxHeartbeats 4000000 in
theorem wX5_match_103 {p : Program} {l : Launch} {e : Env} {R : Room} {s : State} {m : MethodId} {args : Array Value} {below : List Frame} {meth : Method} {c : Code} {Q : State → Prop} {D : va_G} {cI cJ cZ : ClassId} {ad : Nat → Nat} {A : Nat → Prop} (C : Cx p s m args c cX5_match 5 wsX5_match RX5 D vwCl (tyl cI cJ cZ) (wM cI cJ cZ ad) A R 3 71) {r : (Int32 × SH)} (hR : Rz p l e R s m args below meth c cX5_match D vwCl (wM cI cJ cZ ad) A Q r) (N : Nat) (k21 : Int32 → Int32 → Int32 → SH → Option (Int32 × SH)) (K21 : ∀ (x1 : Int32) (x2 : Int32) (x3 : Int32) (z : SH) (H : Heap) (locs : List Loc) (ls : Array Slot), k21 x1 x2 x3 z = some r → va_P D vwCl (wM cI cJ cZ ad z) H → va_S A s.heap H locs → lv_has ls 5 [(0, .ref (ad 0)), (1, .int x1), (2, .int x2), (3, .int x3)] → W p l e R s m args below meth c H locs 0 0 Q (F0 m 21 ls [])) (x1 : Int32) (x2 : Int32) (x3 : Int32) (t0 : Int32) (z0 : SH) {H : Heap} {locs : List Loc} {ls : Array Slot} (h : fX5_match_103 N k21 x1 x2 x3 t0 z0 = some r) (hP : va_P D vwCl (wM cI cJ cZ ad z0) H) (hS : va_S A s.heap H locs) (hl : lv_has ls 5 [(0, .ref (ad 0)), (1, .int x1), (2, .int x2), (3, .int x3)]) : W p l e R s m args below meth c H locs 0 0 Q (F0 m 103 ls [.int t0]) := by
  unfold fX5_match_103 at h
  have hx := C.1.1
  have hb := C.1.2.1
  refine lv_istore (lv' := [(4, .int t0), (0, .ref (ad 0)), (1, .int x1), (2, .int x2), (3, .int x3)]) hx hb dX5_match_103 hl (by decide) rfl (fun ls hl => ?_)
  refine lv_aload_n hx hb dX5_match_105 rfl (lv_at hl 1 rfl) ?_
  refine lv_iload_n hx hb dX5_match_106 rfl (lv_at hl 2 rfl) ?_
  refine lv_iload_n hx hb dX5_match_107 rfl (lv_at hl 4 rfl) ?_
  refine lv_iload hx hb dX5_match_108 (lv_at hl 0 rfl) ?_
  refine b_callVv (As := [.int x1, .int x3, .int t0]) (rest := []) C hP hS h (mX5_exchange l D cI cJ cZ ad x1 x3 t0 z0) (cwV 3 C.1.2.2.2.2 gX5_match_X5_exchange rfl rfl rfl (by decide +kernel) ⟨Nat.le_trans (Nat.le_of_ble_eq_true rfl) C.2.2.2.2.1, Nat.le_trans (Nat.le_of_ble_eq_true rfl) C.2.2.2.2.2⟩) (va_recv C.2.1 hP (ci := 5) (q0 := 0) rfl (wM_0 cI cJ cZ ad z0)) rfl hl.1 rfl (Nat.le_of_ble_eq_true rfl) dX5_match_110 (fun _ z1 _ _ h hP hS => ?_)
  refine lv_aload_n hx hb dX5_match_113 rfl (lv_at hl 1 rfl) ?_
  refine b_getr C hP iX5_match_X5 0 (wM_0 cI cJ cZ ad z1) rfl 15 (by decide) fX5_match_i48 rfl rfl dX5_match_114 ?_
  refine lv_iload_n hx hb dX5_match_117 rfl (lv_at hl 2 rfl) ?_
  refine lv_dup2_11 hx hb dX5_match_118 rfl rfl ?_
  refine b_iald C hP h 13 (wM_13 cI cJ cZ ad z1) 0 rfl dX5_match_119 (fun v2 h => ?_)
  refine lv_iload hx hb dX5_match_120 (lv_at hl 0 rfl) ?_
  refine lv_isub hx hb dX5_match_122 ?_
  refine b_iast C hP hS h 13 (wM_13 cI cJ cZ ad z1) 0 rfl (wM_s13 cI cJ cZ ad z1 _ _) dX5_match_123 (fun z3 _ _ h hP hS => ?_)
  refine lv_aload_n hx hb dX5_match_124 rfl (lv_at hl 1 rfl) ?_
  refine b_getr C hP iX5_match_X5 0 (wM_0 cI cJ cZ ad z3) rfl 20 (by decide) fX5_match_i63 rfl rfl dX5_match_125 ?_
  refine lv_iload_n hx hb dX5_match_128 rfl (lv_at hl 2 rfl) ?_
  refine lv_dup2_11 hx hb dX5_match_129 rfl rfl ?_
  refine b_iald C hP h 18 (wM_18 cI cJ cZ ad z3) 0 rfl dX5_match_130 (fun v4 h => ?_)
  refine lv_iload hx hb dX5_match_131 (lv_at hl 0 rfl) ?_
  refine lv_iadd hx hb dX5_match_133 ?_
  refine b_iast C hP hS h 18 (wM_18 cI cJ cZ ad z3) 0 rfl (wM_s18 cI cJ cZ ad z3 _ _) dX5_match_134 (fun z5 _ _ h hP hS => ?_)
  refine lv_aload_n hx hb dX5_match_135 rfl (lv_at hl 1 rfl) ?_
  refine b_getr C hP iX5_match_X5 0 (wM_0 cI cJ cZ ad z5) rfl 15 (by decide) fX5_match_i48 rfl rfl dX5_match_136 ?_
  refine lv_iload_n hx hb dX5_match_139 rfl (lv_at hl 4 rfl) ?_
  refine lv_dup2_11 hx hb dX5_match_140 rfl rfl ?_
  refine b_iald C hP h 13 (wM_13 cI cJ cZ ad z5) 0 rfl dX5_match_141 (fun v6 h => ?_)
  refine lv_iload hx hb dX5_match_142 (lv_at hl 0 rfl) ?_
  refine lv_isub hx hb dX5_match_144 ?_
  refine b_iast C hP hS h 13 (wM_13 cI cJ cZ ad z5) 0 rfl (wM_s13 cI cJ cZ ad z5 _ _) dX5_match_145 (fun z7 _ _ h hP hS => ?_)
  refine lv_aload_n hx hb dX5_match_146 rfl (lv_at hl 1 rfl) ?_
  refine b_getr C hP iX5_match_X5 0 (wM_0 cI cJ cZ ad z7) rfl 16 (by decide) fX5_match_i51 rfl rfl dX5_match_147 ?_
  refine lv_iload_n hx hb dX5_match_150 rfl (lv_at hl 4 rfl) ?_
  refine lv_dup2_11 hx hb dX5_match_151 rfl rfl ?_
  refine b_iald C hP h 14 (wM_14 cI cJ cZ ad z7) 0 rfl dX5_match_152 (fun v8 h => ?_)
  refine lv_iload hx hb dX5_match_153 (lv_at hl 0 rfl) ?_
  refine lv_isub hx hb dX5_match_155 ?_
  refine b_iast C hP hS h 14 (wM_14 cI cJ cZ ad z7) 0 rfl (wM_s14 cI cJ cZ ad z7 _ _) dX5_match_156 (fun z9 _ _ h hP hS => ?_)
  refine lv_aload_n hx hb dX5_match_157 rfl (lv_at hl 1 rfl) ?_
  refine b_getr C hP iX5_match_X5 0 (wM_0 cI cJ cZ ad z9) rfl 20 (by decide) fX5_match_i63 rfl rfl dX5_match_158 ?_
  refine lv_iload_n hx hb dX5_match_161 rfl (lv_at hl 4 rfl) ?_
  refine lv_dup2_11 hx hb dX5_match_162 rfl rfl ?_
  refine b_iald C hP h 18 (wM_18 cI cJ cZ ad z9) 0 rfl dX5_match_163 (fun v10 h => ?_)
  refine lv_iload hx hb dX5_match_164 (lv_at hl 0 rfl) ?_
  refine lv_iadd hx hb dX5_match_166 ?_
  refine b_iast C hP hS h 18 (wM_18 cI cJ cZ ad z9) 0 rfl (wM_s18 cI cJ cZ ad z9 _ _) dX5_match_167 (fun z11 _ _ h hP hS => ?_)
  refine lv_aload_n hx hb dX5_match_168 rfl (lv_at hl 1 rfl) ?_
  refine b_getr C hP iX5_match_X5 0 (wM_0 cI cJ cZ ad z11) rfl 15 (by decide) fX5_match_i48 rfl rfl dX5_match_169 ?_
  refine lv_iload_n hx hb dX5_match_172 rfl (lv_at hl 4 rfl) ?_
  refine b_iald C hP h 13 (wM_13 cI cJ cZ ad z11) 0 rfl dX5_match_173 (fun v12 h => ?_)
  refine lv_if_ne (tgt := 187) hx hb dX5_match_174 (by decide) (fun c1 => ?_) (fun c1 => ?_)
  · replace h := (ite_h h).2 c1
    refine lv_aload_n hx hb dX5_match_187 rfl (lv_at hl 1 rfl) ?_
    refine b_getr C hP iX5_match_X5 0 (wM_0 cI cJ cZ ad z11) rfl 16 (by decide) fX5_match_i51 rfl rfl dX5_match_188 ?_
    refine lv_iload_n hx hb dX5_match_191 rfl (lv_at hl 4 rfl) ?_
    refine b_iald C hP h 14 (wM_14 cI cJ cZ ad z11) 0 rfl dX5_match_192 (fun v13 h => ?_)
    refine lv_if_ne (tgt := 252) hx hb dX5_match_193 (by decide) (fun c1 => ?_) (fun c1 => ?_)
    · replace h := (ite_h h).2 c1
      exact wX5_match_252 C hR N k21 K21 x1 x2 z11 h hP hS (lv_sub hl [1, 2, 3] rfl)
    · replace h := (ite_h h).1 c1
      refine lv_aload_n hx hb dX5_match_196 rfl (lv_at hl 1 rfl) ?_
      refine b_getr C hP iX5_match_X5 0 (wM_0 cI cJ cZ ad z11) rfl 16 (by decide) fX5_match_i51 rfl rfl dX5_match_197 ?_
      refine lv_iload_n hx hb dX5_match_200 rfl (lv_at hl 4 rfl) ?_
      refine lv_aload_n hx hb dX5_match_201 rfl (lv_at hl 1 rfl) ?_
      refine b_getr C hP iX5_match_X5 0 (wM_0 cI cJ cZ ad z11) rfl 15 (by decide) fX5_match_i48 rfl rfl dX5_match_202 ?_
      refine lv_iload_n hx hb dX5_match_205 rfl (lv_at hl 4 rfl) ?_
      refine b_iald C hP h 13 (wM_13 cI cJ cZ ad z11) 0 rfl dX5_match_206 (fun v14 h => ?_)
      refine lv_aload_n hx hb dX5_match_207 rfl (lv_at hl 1 rfl) ?_
      refine b_getr C hP iX5_match_X5 0 (wM_0 cI cJ cZ ad z11) rfl 17 (by decide) fX5_match_i54 rfl rfl dX5_match_208 ?_
      refine lv_iload_n hx hb dX5_match_211 rfl (lv_at hl 4 rfl) ?_
      refine b_iald C hP h 15 (wM_15 cI cJ cZ ad z11) 0 rfl dX5_match_212 (fun v15 h => ?_)
      refine lv_icmp_ge (tgt := 225) hx hb dX5_match_213 (by decide) (fun c1 => ?_) (fun c1 => ?_)
      · replace h := (ite_h h).1 c1
        refine lv_aload_n hx hb dX5_match_225 rfl (lv_at hl 1 rfl) ?_
        refine b_getr C hP iX5_match_X5 0 (wM_0 cI cJ cZ ad z11) rfl 17 (by decide) fX5_match_i54 rfl rfl dX5_match_226 ?_
        refine lv_iload_n hx hb dX5_match_229 rfl (lv_at hl 4 rfl) ?_
        refine b_iald C hP h 15 (wM_15 cI cJ cZ ad z11) 0 rfl dX5_match_230 (fun v16 h => ?_)
        exact wX5_match_231 C hR N k21 K21 x1 x2 x3 v16 x3 z11 h hP hS (lv_sub hl [1, 2, 3, 4] rfl)
      · replace h := (ite_h h).2 c1
        refine lv_aload_n hx hb dX5_match_216 rfl (lv_at hl 1 rfl) ?_
        refine b_getr C hP iX5_match_X5 0 (wM_0 cI cJ cZ ad z11) rfl 15 (by decide) fX5_match_i48 rfl rfl dX5_match_217 ?_
        refine lv_iload_n hx hb dX5_match_220 rfl (lv_at hl 4 rfl) ?_
        refine b_iald C hP h 13 (wM_13 cI cJ cZ ad z11) 0 rfl dX5_match_221 (fun v17 h => ?_)
        refine lv_goto (tgt := 231) hx hb dX5_match_222 (by decide) ?_
        exact wX5_match_231 C hR N k21 K21 x1 x2 x3 v17 x3 z11 h hP hS (lv_sub hl [1, 2, 3, 4] rfl)
  · replace h := (ite_h h).1 c1
    refine lv_aload_n hx hb dX5_match_177 rfl (lv_at hl 1 rfl) ?_
    refine b_getr C hP iX5_match_X5 0 (wM_0 cI cJ cZ ad z11) rfl 18 (by decide) fX5_match_i57 rfl rfl dX5_match_178 ?_
    refine lv_iload_n hx hb dX5_match_181 rfl (lv_at hl 4 rfl) ?_
    refine lv_iconst (v := 2) hx hb dX5_match_182 (by decide) ?_
    refine b_iast C hP hS h 16 (wM_16 cI cJ cZ ad z11) 0 rfl (wM_s16 cI cJ cZ ad z11 _ _) dX5_match_183 (fun z18 _ _ h hP hS => ?_)
    refine lv_goto (tgt := 252) hx hb dX5_match_184 (by decide) ?_
    exact wX5_match_252 C hR N k21 K21 x1 x2 z18 h hP hS (lv_sub hl [1, 2, 3] rfl)
set_option maxRecDepth 100000 in
set_option maxHeartbeats 4000000 in
theorem wX5_match_68 {p : Program} {l : Launch} {e : Env} {R : Room} {s : State} {m : MethodId} {args : Array Value} {below : List Frame} {meth : Method} {c : Code} {Q : State → Prop} {D : va_G} {cI cJ cZ : ClassId} {ad : Nat → Nat} {A : Nat → Prop} (C : Cx p s m args c cX5_match 5 wsX5_match RX5 D vwCl (tyl cI cJ cZ) (wM cI cJ cZ ad) A R 3 71) {r : (Int32 × SH)} (hR : Rz p l e R s m args below meth c cX5_match D vwCl (wM cI cJ cZ ad) A Q r) (N : Nat) (k21 : Int32 → Int32 → Int32 → SH → Option (Int32 × SH)) (K21 : ∀ (x1 : Int32) (x2 : Int32) (x3 : Int32) (z : SH) (H : Heap) (locs : List Loc) (ls : Array Slot), k21 x1 x2 x3 z = some r → va_P D vwCl (wM cI cJ cZ ad z) H → va_S A s.heap H locs → lv_has ls 5 [(0, .ref (ad 0)), (1, .int x1), (2, .int x2), (3, .int x3)] → W p l e R s m args below meth c H locs 0 0 Q (F0 m 21 ls [])) (x1 : Int32) (x3 : Int32) (t0 : Int32) (z0 : SH) {H : Heap} {locs : List Loc} {ls : Array Slot} (h : fX5_match_68 N k21 x1 x3 t0 z0 = some r) (hP : va_P D vwCl (wM cI cJ cZ ad z0) H) (hS : va_S A s.heap H locs) (hl : lv_has ls 5 [(0, .ref (ad 0)), (1, .int x1), (3, .int x3)]) : W p l e R s m args below meth c H locs 0 0 Q (F0 m 68 ls [.int t0]) := by
  unfold fX5_match_68 at h
  have hx := C.1.1
  have hb := C.1.2.1
  refine lv_istore_n (lv' := [(2, .int t0), (0, .ref (ad 0)), (1, .int x1), (3, .int x3)]) hx hb dX5_match_68 rfl hl (by decide) rfl (fun ls hl => ?_)
  refine lv_iload_n hx hb dX5_match_69 rfl (lv_at hl 0 rfl) ?_
  refine lv_if_ne (tgt := 21) hx hb dX5_match_70 (by decide) (fun c1 => ?_) (fun c1 => ?_)
  · replace h := (ite_h h).2 c1
    exact K21 x1 t0 x3 z0 _ _ _ h hP hS (lv_sub hl [1, 2, 0, 3] rfl)
  · replace h := (ite_h h).1 c1
    refine lv_aload_n hx hb dX5_match_73 rfl (lv_at hl 1 rfl) ?_
    refine b_getr C hP iX5_match_X5 0 (wM_0 cI cJ cZ ad z0) rfl 15 (by decide) fX5_match_i48 rfl rfl dX5_match_74 ?_
    refine lv_iload_n hx hb dX5_match_77 rfl (lv_at hl 2 rfl) ?_
    refine b_iald C hP h 13 (wM_13 cI cJ cZ ad z0) 0 rfl dX5_match_78 (fun v1 h => ?_)
    refine lv_aload_n hx hb dX5_match_79 rfl (lv_at hl 1 rfl) ?_
    refine b_getr C hP iX5_match_X5 0 (wM_0 cI cJ cZ ad z0) rfl 16 (by decide) fX5_match_i51 rfl rfl dX5_match_80 ?_
    refine lv_iload_n hx hb dX5_match_83 rfl (lv_at hl 3 rfl) ?_
    refine b_iald C hP h 14 (wM_14 cI cJ cZ ad z0) 0 rfl dX5_match_84 (fun v2 h => ?_)
    refine lv_icmp_ge (tgt := 97) hx hb dX5_match_85 (by decide) (fun c1 => ?_) (fun c1 => ?_)
    · replace h := (ite_h h).1 c1
      refine lv_aload_n hx hb dX5_match_97 rfl (lv_at hl 1 rfl) ?_
      refine b_getr C hP iX5_match_X5 0 (wM_0 cI cJ cZ ad z0) rfl 16 (by decide) fX5_match_i51 rfl rfl dX5_match_98 ?_
      refine lv_iload_n hx hb dX5_match_101 rfl (lv_at hl 3 rfl) ?_
      refine b_iald C hP h 14 (wM_14 cI cJ cZ ad z0) 0 rfl dX5_match_102 (fun v3 h => ?_)
      exact wX5_match_103 C hR N k21 K21 x1 t0 x3 v3 z0 h hP hS (lv_sub hl [1, 2, 0, 3] rfl)
    · replace h := (ite_h h).2 c1
      refine lv_aload_n hx hb dX5_match_88 rfl (lv_at hl 1 rfl) ?_
      refine b_getr C hP iX5_match_X5 0 (wM_0 cI cJ cZ ad z0) rfl 15 (by decide) fX5_match_i48 rfl rfl dX5_match_89 ?_
      refine lv_iload_n hx hb dX5_match_92 rfl (lv_at hl 2 rfl) ?_
      refine b_iald C hP h 13 (wM_13 cI cJ cZ ad z0) 0 rfl dX5_match_93 (fun v4 h => ?_)
      refine lv_goto (tgt := 103) hx hb dX5_match_94 (by decide) ?_
      exact wX5_match_103 C hR N k21 K21 x1 t0 x3 v4 z0 h hP hS (lv_sub hl [1, 2, 0, 3] rfl)
set_option maxRecDepth 100000 in
set_option maxHeartbeats 4000000 in
theorem wX5_match_21 {p : Program} {l : Launch} {e : Env} {R : Room} {s : State} {m : MethodId} {args : Array Value} {below : List Frame} {meth : Method} {c : Code} {Q : State → Prop} {D : va_G} {cI cJ cZ : ClassId} {ad : Nat → Nat} {A : Nat → Prop} (C : Cx p s m args c cX5_match 5 wsX5_match RX5 D vwCl (tyl cI cJ cZ) (wM cI cJ cZ ad) A R 3 71) {r : (Int32 × SH)} (hR : Rz p l e R s m args below meth c cX5_match D vwCl (wM cI cJ cZ ad) A Q r) (N : Nat) (k21 : Int32 → Int32 → Int32 → SH → Option (Int32 × SH)) (K21 : ∀ (x1 : Int32) (x2 : Int32) (x3 : Int32) (z : SH) (H : Heap) (locs : List Loc) (ls : Array Slot), k21 x1 x2 x3 z = some r → va_P D vwCl (wM cI cJ cZ ad z) H → va_S A s.heap H locs → lv_has ls 5 [(0, .ref (ad 0)), (1, .int x1), (2, .int x2), (3, .int x3)] → W p l e R s m args below meth c H locs 0 0 Q (F0 m 21 ls [])) (x1 : Int32) (x2 : Int32) (x3 : Int32) (z0 : SH) {H : Heap} {locs : List Loc} {ls : Array Slot} (h : fX5_match_21 N k21 x1 x2 x3 z0 = some r) (hP : va_P D vwCl (wM cI cJ cZ ad z0) H) (hS : va_S A s.heap H locs) (hl : lv_has ls 5 [(0, .ref (ad 0)), (1, .int x1), (2, .int x2), (3, .int x3)]) : W p l e R s m args below meth c H locs 0 0 Q (F0 m 21 ls []) := by
  unfold fX5_match_21 at h
  have hx := C.1.1
  have hb := C.1.2.1
  refine lv_aload_n hx hb dX5_match_21 rfl (lv_at hl 0 rfl) ?_
  refine b_getr C hP iX5_match_X5 0 (wM_0 cI cJ cZ ad z0) rfl 15 (by decide) fX5_match_i48 rfl rfl dX5_match_22 ?_
  refine lv_iload_n hx hb dX5_match_25 rfl (lv_at hl 1 rfl) ?_
  refine b_iald C hP h 13 (wM_13 cI cJ cZ ad z0) 0 rfl dX5_match_26 (fun v1 h => ?_)
  refine lv_if_le (tgt := 274) hx hb dX5_match_27 (by decide) (fun c1 => ?_) (fun c1 => ?_)
  · replace h := (ite_h h).1 c1
    exact wX5_match_274 C hR N x2 z0 h hP hS (lv_sub hl [2] rfl)
  · replace h := (ite_h h).2 c1
    refine lv_iload_n hx hb dX5_match_30 rfl (lv_at hl 2 rfl) ?_
    refine lv_if_ne (tgt := 274) hx hb dX5_match_31 (by decide) (fun c1 => ?_) (fun c1 => ?_)
    · replace h := (ite_h h).2 c1
      exact wX5_match_274 C hR N x2 z0 h hP hS (lv_sub hl [2] rfl)
    · replace h := (ite_h h).1 c1
      refine lv_iload_n hx hb dX5_match_34 rfl (lv_at hl 3 rfl) ?_
      refine lv_iconst (v := -1) hx hb dX5_match_35 (by decide) ?_
      refine lv_icmp_eq (tgt := 274) hx hb dX5_match_36 (by decide) (fun c1 => ?_) (fun c1 => ?_)
      · replace h := (ite_h h).1 c1
        exact wX5_match_274 C hR N x2 z0 h hP hS (lv_sub hl [2] rfl)
      · replace h := (ite_h h).2 c1
        refine lv_aload_n hx hb dX5_match_39 rfl (lv_at hl 0 rfl) ?_
        refine lv_iload_n hx hb dX5_match_40 rfl (lv_at hl 1 rfl) ?_
        refine lv_iload_n hx hb dX5_match_41 rfl (lv_at hl 3 rfl) ?_
        refine b_callVi (As := [.int x1, .int x3]) (rest := []) C hP hS h (mX5_allows l D cI cJ cZ ad x1 x3 z0) (cwV 2 C.1.2.2.2.2 gX5_match_X5_allows rfl rfl rfl (by decide +kernel) ⟨Nat.le_trans (Nat.le_of_ble_eq_true rfl) C.2.2.2.2.1, Nat.le_trans (Nat.le_of_ble_eq_true rfl) C.2.2.2.2.2⟩) (va_recv C.2.1 hP (ci := 5) (q0 := 0) rfl (wM_0 cI cJ cZ ad z0)) rfl hl.1 rfl (Nat.le_of_ble_eq_true rfl) dX5_match_42 (fun v3 z2 _ _ h hP hS => ?_)
        refine lv_if_eq (tgt := 274) hx hb dX5_match_45 (by decide) (fun c1 => ?_) (fun c1 => ?_)
        · replace h := (ite_h h).1 c1
          exact wX5_match_274 C hR N x2 z2 h hP hS (lv_sub hl [2] rfl)
        · replace h := (ite_h h).2 c1
          refine lv_aload_n hx hb dX5_match_48 rfl (lv_at hl 0 rfl) ?_
          refine b_getr C hP iX5_match_X5 0 (wM_0 cI cJ cZ ad z2) rfl 10 (by decide) fX5_match_i33 rfl rfl dX5_match_49 ?_
          refine lv_iload_n hx hb dX5_match_52 rfl (lv_at hl 3 rfl) ?_
          refine b_iald C hP h 8 (wM_8 cI cJ cZ ad z2) 0 rfl dX5_match_53 (fun v4 h => ?_)
          refine lv_aload_n hx hb dX5_match_54 rfl (lv_at hl 0 rfl) ?_
          refine b_getr C hP iX5_match_X5 0 (wM_0 cI cJ cZ ad z2) rfl 10 (by decide) fX5_match_i33 rfl rfl dX5_match_55 ?_
          refine lv_iload_n hx hb dX5_match_58 rfl (lv_at hl 1 rfl) ?_
          refine b_iald C hP h 8 (wM_8 cI cJ cZ ad z2) 0 rfl dX5_match_59 (fun v5 h => ?_)
          refine lv_icmp_ne (tgt := 67) hx hb dX5_match_60 (by decide) (fun c1 => ?_) (fun c1 => ?_)
          · replace h := (ite_h h).2 c1
            refine lv_iconst (v := 0) hx hb dX5_match_67 (by decide) ?_
            exact wX5_match_68 C hR N k21 K21 x1 x3 0 z2 h hP hS (lv_sub hl [0, 1, 3] rfl)
          · replace h := (ite_h h).1 c1
            refine lv_iconst (v := 1) hx hb dX5_match_63 (by decide) ?_
            refine lv_goto (tgt := 68) hx hb dX5_match_64 (by decide) ?_
            exact wX5_match_68 C hR N k21 K21 x1 x3 1 z2 h hP hS (lv_sub hl [0, 1, 3] rfl)
theorem wX5_match_21_L {p : Program} {l : Launch} {e : Env} {R : Room} {s : State} {m : MethodId} {args : Array Value} {below : List Frame} {meth : Method} {c : Code} {Q : State → Prop} {D : va_G} {cI cJ cZ : ClassId} {ad : Nat → Nat} {A : Nat → Prop} (C : Cx p s m args c cX5_match 5 wsX5_match RX5 D vwCl (tyl cI cJ cZ) (wM cI cJ cZ ad) A R 3 71) {r : (Int32 × SH)} (hR : Rz p l e R s m args below meth c cX5_match D vwCl (wM cI cJ cZ ad) A Q r) (N : Nat) : ∀ (n : Nat), ∀ (x1 : Int32) (x2 : Int32) (x3 : Int32) (z : SH) (H : Heap) (locs : List Loc) (ls : Array Slot), fX5_match_21_L N n x1 x2 x3 z = some r → va_P D vwCl (wM cI cJ cZ ad z) H → va_S A s.heap H locs → lv_has ls 5 [(0, .ref (ad 0)), (1, .int x1), (2, .int x2), (3, .int x3)] → W p l e R s m args below meth c H locs 0 0 Q (F0 m 21 ls []) := by
  intro n
  induction n with
  | zero => intro x1 x2 x3 z H locs ls h; exact nomatch (show (none : Option (Int32 × SH)) = some r from h)
  | succ n ih => intro x1 x2 x3 z H locs ls h hP hS hl; exact wX5_match_21 C hR N (fX5_match_21_L N n) ih x1 x2 x3 z (show fX5_match_21 N (fX5_match_21_L N n) x1 x2 x3 z = some r from h) hP hS hl
set_option maxRecDepth 100000 in
set_option maxHeartbeats 4000000 in
theorem wX5_match {p : Program} {l : Launch} {e : Env} {R : Room} {s : State} {m : MethodId} {args : Array Value} {below : List Frame} {meth : Method} {c : Code} {Q : State → Prop} {D : va_G} {cI cJ cZ : ClassId} {ad : Nat → Nat} {A : Nat → Prop} (C : Cx p s m args c cX5_match 5 wsX5_match RX5 D vwCl (tyl cI cJ cZ) (wM cI cJ cZ ad) A R 3 71) {r : (Int32 × SH)} (hR : Rz p l e R s m args below meth c cX5_match D vwCl (wM cI cJ cZ ad) A Q r) (N : Nat) (a1 : Int32) (z0 : SH) {H : Heap} {locs : List Loc} {ls : Array Slot} (h : fX5_match N a1 z0 = some r) (hP : va_P D vwCl (wM cI cJ cZ ad z0) H) (hS : va_S A s.heap H locs) (hl : lv_has ls 5 [(0, .ref (ad 0)), (1, .int a1)]) : W p l e R s m args below meth c H locs 0 0 Q (F0 m 0 ls []) := by
  unfold fX5_match at h
  have hx := C.1.1
  have hb := C.1.2.1
  refine lv_iconst (v := 0) hx hb dX5_match_0 (by decide) ?_
  refine lv_istore_n (lv' := [(2, .int 0), (0, .ref (ad 0)), (1, .int a1)]) hx hb dX5_match_1 rfl hl (by decide) rfl (fun ls hl => ?_)
  refine lv_aload_n hx hb dX5_match_2 rfl (lv_at hl 1 rfl) ?_
  refine lv_aload_n hx hb dX5_match_3 rfl (lv_at hl 1 rfl) ?_
  refine b_getr C hP iX5_match_X5 0 (wM_0 cI cJ cZ ad z0) rfl 11 (by decide) fX5_match_i36 rfl rfl dX5_match_4 ?_
  refine lv_iload_n hx hb dX5_match_7 rfl (lv_at hl 2 rfl) ?_
  refine b_iald C hP h 9 (wM_9 cI cJ cZ ad z0) 0 rfl dX5_match_8 (fun v1 h => ?_)
  refine lv_iconst (v := 1) hx hb dX5_match_9 (by decide) ?_
  refine lv_aload_n hx hb dX5_match_10 rfl (lv_at hl 1 rfl) ?_
  refine b_getr C hP iX5_match_X5 0 (wM_0 cI cJ cZ ad z0) rfl 12 (by decide) fX5_match_i39 rfl rfl dX5_match_11 ?_
  refine lv_iload_n hx hb dX5_match_14 rfl (lv_at hl 2 rfl) ?_
  refine b_iald C hP h 10 (wM_10 cI cJ cZ ad z0) 0 rfl dX5_match_15 (fun v2 h => ?_)
  refine lv_isub hx hb dX5_match_16 ?_
  refine b_callVi (As := [.int v1, .int (1 - v2)]) (rest := []) C hP hS h (mX5_first l D cI cJ cZ ad N v1 (1 - v2) z0) (cwV 2 C.1.2.2.2.2 gX5_match_X5_first rfl rfl rfl (by decide +kernel) ⟨Nat.le_trans (Nat.le_of_ble_eq_true rfl) C.2.2.2.2.1, Nat.le_trans (Nat.le_of_ble_eq_true rfl) C.2.2.2.2.2⟩) (va_recv C.2.1 hP (ci := 5) (q0 := 0) rfl (wM_0 cI cJ cZ ad z0)) rfl hl.1 rfl (Nat.le_of_ble_eq_true rfl) dX5_match_17 (fun v4 z3 _ _ h hP hS => ?_)
  refine lv_istore_n (lv' := [(3, .int v4), (2, .int 0), (0, .ref (ad 0)), (1, .int a1)]) hx hb dX5_match_20 rfl hl (by decide) rfl (fun ls hl => ?_)
  exact wX5_match_21_L C hR N N a1 0 v4 z3 _ _ _ h hP hS (lv_sub hl [2, 3, 1, 0] rfl)
theorem mX5_match (l : Launch) (D : va_G) (cI cJ cZ : ClassId) (ad : Nat → Nat) (N : Nat) (a1 : Int32) (z0 : SH) : ∀ (q : (Int32 × SH)) (sz : Nat), fX5_match N a1 z0 = some q → Met l yX5_match wsX5_match rmX5_match (cP D vwCl (tyl cI cJ cZ) (wM cI cJ cZ ad z0) sz [.ref (ad 0), .int a1]) (cQi D vwCl (wM cI cJ cZ ad) z0 sz q) 0 0 (va_A (wM cI cJ cZ ad z0) sz) := by
  intro q sz h
  refine ofW_z (cc := cX5_match) (maxL := 5) (by decide) rfl (wM_same cI cJ cZ ad) (Nat.le_of_ble_eq_true rfl) (fun p e s m below meth c ls hsz C hR hP hl => ?_)
  exact wX5_match C hR N a1 z0 h hP va_S.rf hl
abbrev rmX5_wouldTrade : Room := { frames := 1, cells := 0, slots := 0, locals := 23 }
theorem fX5_wouldTrade_i116 : Cond.fieldLink RX5 116 (TX5 9).1 (TX5 9).2.1 (TX5 9).2.2.1 ∈ wsX5_wouldTrade := by decide +kernel
theorem fX5_wouldTrade_i146 : Cond.fieldLink RX5 146 (TX5 22).1 (TX5 22).2.1 (TX5 22).2.2.1 ∈ wsX5_wouldTrade := by decide +kernel
theorem fX5_wouldTrade_i33 : Cond.fieldLink RX5 33 (TX5 10).1 (TX5 10).2.1 (TX5 10).2.2.1 ∈ wsX5_wouldTrade := by decide +kernel
theorem fX5_wouldTrade_i36 : Cond.fieldLink RX5 36 (TX5 11).1 (TX5 11).2.1 (TX5 11).2.2.1 ∈ wsX5_wouldTrade := by decide +kernel
theorem fX5_wouldTrade_i39 : Cond.fieldLink RX5 39 (TX5 12).1 (TX5 12).2.1 (TX5 12).2.2.1 ∈ wsX5_wouldTrade := by decide +kernel
theorem fX5_wouldTrade_i45 : Cond.fieldLink RX5 45 (TX5 14).1 (TX5 14).2.1 (TX5 14).2.2.1 ∈ wsX5_wouldTrade := by decide +kernel
theorem fX5_wouldTrade_i48 : Cond.fieldLink RX5 48 (TX5 15).1 (TX5 15).2.1 (TX5 15).2.2.1 ∈ wsX5_wouldTrade := by decide +kernel
theorem fX5_wouldTrade_i51 : Cond.fieldLink RX5 51 (TX5 16).1 (TX5 16).2.1 (TX5 16).2.2.1 ∈ wsX5_wouldTrade := by decide +kernel
theorem fX5_wouldTrade_i54 : Cond.fieldLink RX5 54 (TX5 17).1 (TX5 17).2.1 (TX5 17).2.2.1 ∈ wsX5_wouldTrade := by decide +kernel
theorem fX5_wouldTrade_i66 : Cond.fieldLink RX5 66 (TX5 21).1 (TX5 21).2.1 (TX5 21).2.2.1 ∈ wsX5_wouldTrade := by decide +kernel
theorem fX5_wouldTrade_i69 : Cond.fieldLink RX5 69 (TX5 23).1 (TX5 23).2.1 (TX5 23).2.2.1 ∈ wsX5_wouldTrade := by decide +kernel
theorem fX5_wouldTrade_i72 : Cond.fieldLink RX5 72 (TX5 24).1 (TX5 24).2.1 (TX5 24).2.2.1 ∈ wsX5_wouldTrade := by decide +kernel
theorem fX5_wouldTrade_i75 : Cond.fieldLink RX5 75 (TX5 25).1 (TX5 25).2.1 (TX5 25).2.2.1 ∈ wsX5_wouldTrade := by decide +kernel
theorem iX5_wouldTrade_X5 : ∀ x ∈ wsX50, x ∈ wsX5_wouldTrade := by decide +kernel
set_option maxRecDepth 100000 in
set_option maxHeartbeats 4000000 in
theorem wX5_wouldTrade_237 {p : Program} {l : Launch} {e : Env} {R : Room} {s : State} {m : MethodId} {args : Array Value} {below : List Frame} {meth : Method} {c : Code} {Q : State → Prop} {D : va_G} {cI cJ cZ : ClassId} {ad : Nat → Nat} {A : Nat → Prop} (C : Cx p s m args c cX5_wouldTrade 7 wsX5_wouldTrade RX5 D vwCl (tyl cI cJ cZ) (wM cI cJ cZ ad) A R 1 23) {r : (Int32 × SH)} (hR : Rz p l e R s m args below meth c cX5_wouldTrade D vwCl (wM cI cJ cZ ad) A Q r) (N : Nat) (z0 : SH) {H : Heap} {locs : List Loc} {ls : Array Slot} (h : fX5_wouldTrade_237 N z0 = some r) (hP : va_P D vwCl (wM cI cJ cZ ad z0) H) (hS : va_S A s.heap H locs) (hl : lv_has ls 7 []) : W p l e R s m args below meth c H locs 0 0 Q (F0 m 237 ls []) := by
  unfold fX5_wouldTrade_237 at h
  have hx := C.1.1
  have hb := C.1.2.1
  refine lv_iconst (v := 0) hx hb dX5_wouldTrade_237 (by decide) ?_
  exact hR 238 _ _ _ _ _ h dX5_wouldTrade_238 hP hS
set_option maxRecDepth 100000 in
set_option maxHeartbeats 4000000 in
theorem wX5_wouldTrade_354 {p : Program} {l : Launch} {e : Env} {R : Room} {s : State} {m : MethodId} {args : Array Value} {below : List Frame} {meth : Method} {c : Code} {Q : State → Prop} {D : va_G} {cI cJ cZ : ClassId} {ad : Nat → Nat} {A : Nat → Prop} (C : Cx p s m args c cX5_wouldTrade 7 wsX5_wouldTrade RX5 D vwCl (tyl cI cJ cZ) (wM cI cJ cZ ad) A R 1 23) {r : (Int32 × SH)} (hR : Rz p l e R s m args below meth c cX5_wouldTrade D vwCl (wM cI cJ cZ ad) A Q r) (N : Nat) (k64 : Int32 → Int32 → Int32 → SH → Option (Int32 × SH)) (K64 : ∀ (x1 : Int32) (x2 : Int32) (x3 : Int32) (z : SH) (H : Heap) (locs : List Loc) (ls : Array Slot), k64 x1 x2 x3 z = some r → va_P D vwCl (wM cI cJ cZ ad z) H → va_S A s.heap H locs → lv_has ls 7 [(0, .ref (ad 0)), (1, .int x1), (2, .int x2), (3, .int x3)] → W p l e R s m args below meth c H locs 0 0 Q (F0 m 64 ls [])) (x1 : Int32) (x2 : Int32) (x3 : Int32) (z0 : SH) {H : Heap} {locs : List Loc} {ls : Array Slot} (h : fX5_wouldTrade_354 N k64 x1 x2 x3 z0 = some r) (hP : va_P D vwCl (wM cI cJ cZ ad z0) H) (hS : va_S A s.heap H locs) (hl : lv_has ls 7 [(0, .ref (ad 0)), (1, .int x1), (2, .int x2), (3, .int x3)]) : W p l e R s m args below meth c H locs 0 0 Q (F0 m 354 ls []) := by
  unfold fX5_wouldTrade_354 at h
  have hx := C.1.1
  have hb := C.1.2.1
  refine lv_goto (tgt := 64) hx hb dX5_wouldTrade_354 (by decide) ?_
  exact K64 x1 x2 x3 z0 _ _ _ h hP hS (lv_sub hl [0, 1, 2, 3] rfl)
set_option maxRecDepth 100000 in
set_option maxHeartbeats 4000000 in
theorem wX5_wouldTrade_342 {p : Program} {l : Launch} {e : Env} {R : Room} {s : State} {m : MethodId} {args : Array Value} {below : List Frame} {meth : Method} {c : Code} {Q : State → Prop} {D : va_G} {cI cJ cZ : ClassId} {ad : Nat → Nat} {A : Nat → Prop} (C : Cx p s m args c cX5_wouldTrade 7 wsX5_wouldTrade RX5 D vwCl (tyl cI cJ cZ) (wM cI cJ cZ ad) A R 1 23) {r : (Int32 × SH)} (hR : Rz p l e R s m args below meth c cX5_wouldTrade D vwCl (wM cI cJ cZ ad) A Q r) (N : Nat) (k64 : Int32 → Int32 → Int32 → SH → Option (Int32 × SH)) (K64 : ∀ (x1 : Int32) (x2 : Int32) (x3 : Int32) (z : SH) (H : Heap) (locs : List Loc) (ls : Array Slot), k64 x1 x2 x3 z = some r → va_P D vwCl (wM cI cJ cZ ad z) H → va_S A s.heap H locs → lv_has ls 7 [(0, .ref (ad 0)), (1, .int x1), (2, .int x2), (3, .int x3)] → W p l e R s m args below meth c H locs 0 0 Q (F0 m 64 ls [])) (x1 : Int32) (x2 : Int32) (x3 : Int32) (x4 : Int32) (t0 : Int32) (t1 : Int32) (z0 : SH) {H : Heap} {locs : List Loc} {ls : Array Slot} (h : fX5_wouldTrade_342 N k64 x1 x2 x3 x4 t0 t1 z0 = some r) (hP : va_P D vwCl (wM cI cJ cZ ad z0) H) (hS : va_S A s.heap H locs) (hl : lv_has ls 7 [(0, .ref (ad 0)), (1, .int x1), (2, .int x2), (3, .int x3), (4, .int x4)]) : W p l e R s m args below meth c H locs 0 0 Q (F0 m 342 ls [.int t0, .int t1, .ref (ad 21)]) := by
  unfold fX5_wouldTrade_342 at h
  have hx := C.1.1
  have hb := C.1.2.1
  refine b_iast C hP hS h 21 (wM_21 cI cJ cZ ad z0) 0 rfl (wM_s21 cI cJ cZ ad z0 _ _) dX5_wouldTrade_342 (fun z1 _ _ h hP hS => ?_)
  refine lv_aload_n hx hb dX5_wouldTrade_343 rfl (lv_at hl 0 rfl) ?_
  refine b_getr C hP iX5_wouldTrade_X5 0 (wM_0 cI cJ cZ ad z1) rfl 25 (by decide) fX5_wouldTrade_i75 rfl rfl dX5_wouldTrade_344 ?_
  refine lv_iload hx hb dX5_wouldTrade_347 (lv_at hl 4 rfl) ?_
  refine lv_iload_n hx hb dX5_wouldTrade_349 rfl (lv_at hl 3 rfl) ?_
  refine b_iast C hP hS h 22 (wM_22 cI cJ cZ ad z1) 0 rfl (wM_s22 cI cJ cZ ad z1 _ _) dX5_wouldTrade_350 (fun z2 _ _ h hP hS => ?_)
  refine lv_iinc (v := x3 + 1) (lv' := [(3, .int (x3 + 1)), (0, .ref (ad 0)), (1, .int x1), (2, .int x2), (4, .int x4)]) hx hb dX5_wouldTrade_351 hl (k := 3) rfl rfl (by decide) rfl (fun ls hl => ?_)
  exact wX5_wouldTrade_354 C hR N k64 K64 x1 x2 (x3 + 1) z2 h hP hS (lv_sub hl [1, 2, 3, 0] rfl)
set_option maxRecDepth 100000 in
set_option maxHeartbeats 4000000 in
theorem wX5_wouldTrade_261 {p : Program} {l : Launch} {e : Env} {R : Room} {s : State} {m : MethodId} {args : Array Value} {below : List Frame} {meth : Method} {c : Code} {Q : State → Prop} {D : va_G} {cI cJ cZ : ClassId} {ad : Nat → Nat} {A : Nat → Prop} (C : Cx p s m args c cX5_wouldTrade 7 wsX5_wouldTrade RX5 D vwCl (tyl cI cJ cZ) (wM cI cJ cZ ad) A R 1 23) {r : (Int32 × SH)} (hR : Rz p l e R s m args below meth c cX5_wouldTrade D vwCl (wM cI cJ cZ ad) A Q r) (N : Nat) (k64 : Int32 → Int32 → Int32 → SH → Option (Int32 × SH)) (K64 : ∀ (x1 : Int32) (x2 : Int32) (x3 : Int32) (z : SH) (H : Heap) (locs : List Loc) (ls : Array Slot), k64 x1 x2 x3 z = some r → va_P D vwCl (wM cI cJ cZ ad z) H → va_S A s.heap H locs → lv_has ls 7 [(0, .ref (ad 0)), (1, .int x1), (2, .int x2), (3, .int x3)] → W p l e R s m args below meth c H locs 0 0 Q (F0 m 64 ls [])) (x1 : Int32) (x2 : Int32) (x3 : Int32) (x4 : Int32) (t0 : Int32) (z0 : SH) {H : Heap} {locs : List Loc} {ls : Array Slot} (h : fX5_wouldTrade_261 N k64 x1 x2 x3 x4 t0 z0 = some r) (hP : va_P D vwCl (wM cI cJ cZ ad z0) H) (hS : va_S A s.heap H locs) (hl : lv_has ls 7 [(0, .ref (ad 0)), (1, .int x1), (2, .int x2), (3, .int x3), (4, .int x4)]) : W p l e R s m args below meth c H locs 0 0 Q (F0 m 261 ls [.int t0]) := by
  unfold fX5_wouldTrade_261 at h
  have hx := C.1.1
  have hb := C.1.2.1
  refine lv_istore (lv' := [(5, .int t0), (0, .ref (ad 0)), (1, .int x1), (2, .int x2), (3, .int x3), (4, .int x4)]) hx hb dX5_wouldTrade_261 hl (by decide) rfl (fun ls hl => ?_)
  refine lv_iload_n hx hb dX5_wouldTrade_263 rfl (lv_at hl 3 rfl) ?_
  refine lv_iload hx hb dX5_wouldTrade_264 (lv_at hl 0 rfl) ?_
  refine lv_isub hx hb dX5_wouldTrade_266 ?_
  refine lv_istore_n (lv' := [(2, .int (x2 - t0)), (5, .int t0), (0, .ref (ad 0)), (1, .int x1), (3, .int x3), (4, .int x4)]) hx hb dX5_wouldTrade_267 rfl hl (by decide) rfl (fun ls hl => ?_)
  refine lv_aload_n hx hb dX5_wouldTrade_268 rfl (lv_at hl 2 rfl) ?_
  refine b_getr C hP iX5_wouldTrade_X5 0 (wM_0 cI cJ cZ ad z0) rfl 23 (by decide) fX5_wouldTrade_i69 rfl rfl dX5_wouldTrade_269 ?_
  refine lv_iload hx hb dX5_wouldTrade_272 (lv_at hl 5 rfl) ?_
  refine lv_dup2_11 hx hb dX5_wouldTrade_274 rfl rfl ?_
  refine b_iald C hP h 20 (wM_20 cI cJ cZ ad z0) 0 rfl dX5_wouldTrade_275 (fun v1 h => ?_)
  refine lv_iload hx hb dX5_wouldTrade_276 (lv_at hl 1 rfl) ?_
  refine lv_isub hx hb dX5_wouldTrade_278 ?_
  refine b_iast C hP hS h 20 (wM_20 cI cJ cZ ad z0) 0 rfl (wM_s20 cI cJ cZ ad z0 _ _) dX5_wouldTrade_279 (fun z2 _ _ h hP hS => ?_)
  refine lv_aload_n hx hb dX5_wouldTrade_280 rfl (lv_at hl 2 rfl) ?_
  refine b_getr C hP iX5_wouldTrade_X5 0 (wM_0 cI cJ cZ ad z2) rfl 24 (by decide) fX5_wouldTrade_i72 rfl rfl dX5_wouldTrade_281 ?_
  refine lv_iload hx hb dX5_wouldTrade_284 (lv_at hl 5 rfl) ?_
  refine lv_dup2_11 hx hb dX5_wouldTrade_286 rfl rfl ?_
  refine b_iald C hP h 21 (wM_21 cI cJ cZ ad z2) 0 rfl dX5_wouldTrade_287 (fun v3 h => ?_)
  refine lv_iload hx hb dX5_wouldTrade_288 (lv_at hl 1 rfl) ?_
  refine lv_isub hx hb dX5_wouldTrade_290 ?_
  refine b_iast C hP hS h 21 (wM_21 cI cJ cZ ad z2) 0 rfl (wM_s21 cI cJ cZ ad z2 _ _) dX5_wouldTrade_291 (fun z4 _ _ h hP hS => ?_)
  refine lv_aload_n hx hb dX5_wouldTrade_292 rfl (lv_at hl 2 rfl) ?_
  refine b_getr C hP iX5_wouldTrade_X5 0 (wM_0 cI cJ cZ ad z4) rfl 24 (by decide) fX5_wouldTrade_i72 rfl rfl dX5_wouldTrade_293 ?_
  refine lv_iload hx hb dX5_wouldTrade_296 (lv_at hl 5 rfl) ?_
  refine b_iald C hP h 21 (wM_21 cI cJ cZ ad z4) 0 rfl dX5_wouldTrade_298 (fun v5 h => ?_)
  refine lv_if_ne (tgt := 354) hx hb dX5_wouldTrade_299 (by decide) (fun c1 => ?_) (fun c1 => ?_)
  · replace h := (ite_h h).2 c1
    exact wX5_wouldTrade_354 C hR N k64 K64 x1 (x2 - t0) x3 z4 h hP hS (lv_sub hl [2, 3, 0, 4] rfl)
  · replace h := (ite_h h).1 c1
    refine lv_aload_n hx hb dX5_wouldTrade_302 rfl (lv_at hl 2 rfl) ?_
    refine b_getr C hP iX5_wouldTrade_X5 0 (wM_0 cI cJ cZ ad z4) rfl 24 (by decide) fX5_wouldTrade_i72 rfl rfl dX5_wouldTrade_303 ?_
    refine lv_iload hx hb dX5_wouldTrade_306 (lv_at hl 5 rfl) ?_
    refine lv_aload_n hx hb dX5_wouldTrade_308 rfl (lv_at hl 2 rfl) ?_
    refine b_getr C hP iX5_wouldTrade_X5 0 (wM_0 cI cJ cZ ad z4) rfl 23 (by decide) fX5_wouldTrade_i69 rfl rfl dX5_wouldTrade_309 ?_
    refine lv_iload hx hb dX5_wouldTrade_312 (lv_at hl 5 rfl) ?_
    refine b_iald C hP h 20 (wM_20 cI cJ cZ ad z4) 0 rfl dX5_wouldTrade_314 (fun v6 h => ?_)
    refine lv_aload_n hx hb dX5_wouldTrade_315 rfl (lv_at hl 2 rfl) ?_
    refine b_getr C hP iX5_wouldTrade_X5 0 (wM_0 cI cJ cZ ad z4) rfl 17 (by decide) fX5_wouldTrade_i54 rfl rfl dX5_wouldTrade_316 ?_
    refine lv_iload hx hb dX5_wouldTrade_319 (lv_at hl 5 rfl) ?_
    refine b_iald C hP h 15 (wM_15 cI cJ cZ ad z4) 0 rfl dX5_wouldTrade_321 (fun v7 h => ?_)
    refine lv_icmp_ge (tgt := 335) hx hb dX5_wouldTrade_322 (by decide) (fun c1 => ?_) (fun c1 => ?_)
    · replace h := (ite_h h).1 c1
      refine lv_aload_n hx hb dX5_wouldTrade_335 rfl (lv_at hl 2 rfl) ?_
      refine b_getr C hP iX5_wouldTrade_X5 0 (wM_0 cI cJ cZ ad z4) rfl 17 (by decide) fX5_wouldTrade_i54 rfl rfl dX5_wouldTrade_336 ?_
      refine lv_iload hx hb dX5_wouldTrade_339 (lv_at hl 5 rfl) ?_
      refine b_iald C hP h 15 (wM_15 cI cJ cZ ad z4) 0 rfl dX5_wouldTrade_341 (fun v8 h => ?_)
      exact wX5_wouldTrade_342 C hR N k64 K64 x1 (x2 - t0) x3 x4 v8 x4 z4 h hP hS (lv_sub hl [2, 3, 0, 4, 5] rfl)
    · replace h := (ite_h h).2 c1
      refine lv_aload_n hx hb dX5_wouldTrade_325 rfl (lv_at hl 2 rfl) ?_
      refine b_getr C hP iX5_wouldTrade_X5 0 (wM_0 cI cJ cZ ad z4) rfl 23 (by decide) fX5_wouldTrade_i69 rfl rfl dX5_wouldTrade_326 ?_
      refine lv_iload hx hb dX5_wouldTrade_329 (lv_at hl 5 rfl) ?_
      refine b_iald C hP h 20 (wM_20 cI cJ cZ ad z4) 0 rfl dX5_wouldTrade_331 (fun v9 h => ?_)
      refine lv_goto (tgt := 342) hx hb dX5_wouldTrade_332 (by decide) ?_
      exact wX5_wouldTrade_342 C hR N k64 K64 x1 (x2 - t0) x3 x4 v9 x4 z4 h hP hS (lv_sub hl [2, 3, 0, 4, 5] rfl)
set_option maxRecDepth 100000 in
set_option maxHeartbeats 4000000 in
theorem wX5_wouldTrade_199 {p : Program} {l : Launch} {e : Env} {R : Room} {s : State} {m : MethodId} {args : Array Value} {below : List Frame} {meth : Method} {c : Code} {Q : State → Prop} {D : va_G} {cI cJ cZ : ClassId} {ad : Nat → Nat} {A : Nat → Prop} (C : Cx p s m args c cX5_wouldTrade 7 wsX5_wouldTrade RX5 D vwCl (tyl cI cJ cZ) (wM cI cJ cZ ad) A R 1 23) {r : (Int32 × SH)} (hR : Rz p l e R s m args below meth c cX5_wouldTrade D vwCl (wM cI cJ cZ ad) A Q r) (N : Nat) (k64 : Int32 → Int32 → Int32 → SH → Option (Int32 × SH)) (k74 : Int32 → Int32 → Int32 → Int32 → Int32 → SH → Option (Int32 × SH)) (K64 : ∀ (x1 : Int32) (x2 : Int32) (x3 : Int32) (z : SH) (H : Heap) (locs : List Loc) (ls : Array Slot), k64 x1 x2 x3 z = some r → va_P D vwCl (wM cI cJ cZ ad z) H → va_S A s.heap H locs → lv_has ls 7 [(0, .ref (ad 0)), (1, .int x1), (2, .int x2), (3, .int x3)] → W p l e R s m args below meth c H locs 0 0 Q (F0 m 64 ls [])) (K74 : ∀ (x1 : Int32) (x2 : Int32) (x3 : Int32) (x4 : Int32) (x5 : Int32) (z : SH) (H : Heap) (locs : List Loc) (ls : Array Slot), k74 x1 x2 x3 x4 x5 z = some r → va_P D vwCl (wM cI cJ cZ ad z) H → va_S A s.heap H locs → lv_has ls 7 [(0, .ref (ad 0)), (1, .int x1), (2, .int x2), (3, .int x3), (4, .int x4), (5, .int x5)] → W p l e R s m args below meth c H locs 0 0 Q (F0 m 74 ls [])) (x1 : Int32) (x2 : Int32) (x3 : Int32) (x4 : Int32) (x5 : Int32) (z0 : SH) {H : Heap} {locs : List Loc} {ls : Array Slot} (h : fX5_wouldTrade_199 N k64 k74 x1 x2 x3 x4 x5 z0 = some r) (hP : va_P D vwCl (wM cI cJ cZ ad z0) H) (hS : va_S A s.heap H locs) (hl : lv_has ls 7 [(0, .ref (ad 0)), (1, .int x1), (2, .int x2), (3, .int x3), (4, .int x4), (5, .int x5)]) : W p l e R s m args below meth c H locs 0 0 Q (F0 m 199 ls []) := by
  unfold fX5_wouldTrade_199 at h
  have hx := C.1.1
  have hb := C.1.2.1
  refine lv_iinc (v := x5 + 1) (lv' := [(5, .int (x5 + 1)), (0, .ref (ad 0)), (1, .int x1), (2, .int x2), (3, .int x3), (4, .int x4)]) hx hb dX5_wouldTrade_199 hl (k := 5) rfl rfl (by decide) rfl (fun ls hl => ?_)
  refine lv_goto (tgt := 74) hx hb dX5_wouldTrade_202 (by decide) ?_
  exact K74 x1 x2 x3 x4 (x5 + 1) z0 _ _ _ h hP hS (lv_sub hl [1, 2, 3, 4, 5, 0] rfl)
set_option maxRecDepth 100000 in
set_option maxHeartbeats 4000000 in
theorem wX5_wouldTrade_195 {p : Program} {l : Launch} {e : Env} {R : Room} {s : State} {m : MethodId} {args : Array Value} {below : List Frame} {meth : Method} {c : Code} {Q : State → Prop} {D : va_G} {cI cJ cZ : ClassId} {ad : Nat → Nat} {A : Nat → Prop} (C : Cx p s m args c cX5_wouldTrade 7 wsX5_wouldTrade RX5 D vwCl (tyl cI cJ cZ) (wM cI cJ cZ ad) A R 1 23) {r : (Int32 × SH)} (hR : Rz p l e R s m args below meth c cX5_wouldTrade D vwCl (wM cI cJ cZ ad) A Q r) (N : Nat) (k64 : Int32 → Int32 → Int32 → SH → Option (Int32 × SH)) (k74 : Int32 → Int32 → Int32 → Int32 → Int32 → SH → Option (Int32 × SH)) (K64 : ∀ (x1 : Int32) (x2 : Int32) (x3 : Int32) (z : SH) (H : Heap) (locs : List Loc) (ls : Array Slot), k64 x1 x2 x3 z = some r → va_P D vwCl (wM cI cJ cZ ad z) H → va_S A s.heap H locs → lv_has ls 7 [(0, .ref (ad 0)), (1, .int x1), (2, .int x2), (3, .int x3)] → W p l e R s m args below meth c H locs 0 0 Q (F0 m 64 ls [])) (K74 : ∀ (x1 : Int32) (x2 : Int32) (x3 : Int32) (x4 : Int32) (x5 : Int32) (z : SH) (H : Heap) (locs : List Loc) (ls : Array Slot), k74 x1 x2 x3 x4 x5 z = some r → va_P D vwCl (wM cI cJ cZ ad z) H → va_S A s.heap H locs → lv_has ls 7 [(0, .ref (ad 0)), (1, .int x1), (2, .int x2), (3, .int x3), (4, .int x4), (5, .int x5)] → W p l e R s m args below meth c H locs 0 0 Q (F0 m 74 ls [])) (x1 : Int32) (x2 : Int32) (x3 : Int32) (x5 : Int32) (z0 : SH) {H : Heap} {locs : List Loc} {ls : Array Slot} (h : fX5_wouldTrade_195 N k64 k74 x1 x2 x3 x5 z0 = some r) (hP : va_P D vwCl (wM cI cJ cZ ad z0) H) (hS : va_S A s.heap H locs) (hl : lv_has ls 7 [(0, .ref (ad 0)), (1, .int x1), (2, .int x2), (3, .int x3), (5, .int x5)]) : W p l e R s m args below meth c H locs 0 0 Q (F0 m 195 ls []) := by
  unfold fX5_wouldTrade_195 at h
  have hx := C.1.1
  have hb := C.1.2.1
  refine lv_iload hx hb dX5_wouldTrade_195 (lv_at hl 4 rfl) ?_
  refine lv_istore (lv' := [(4, .int x5), (0, .ref (ad 0)), (1, .int x1), (2, .int x2), (3, .int x3), (5, .int x5)]) hx hb dX5_wouldTrade_197 hl (by decide) rfl (fun ls hl => ?_)
  exact wX5_wouldTrade_199 C hR N k64 k74 K64 K74 x1 x2 x3 x5 x5 z0 h hP hS (lv_sub hl [1, 2, 3, 4, 0, 5] rfl)
set_option maxRecDepth 100000 in
set_option maxHeartbeats 4000000 in
theorem wX5_wouldTrade_121 {p : Program} {l : Launch} {e : Env} {R : Room} {s : State} {m : MethodId} {args : Array Value} {below : List Frame} {meth : Method} {c : Code} {Q : State → Prop} {D : va_G} {cI cJ cZ : ClassId} {ad : Nat → Nat} {A : Nat → Prop} (C : Cx p s m args c cX5_wouldTrade 7 wsX5_wouldTrade RX5 D vwCl (tyl cI cJ cZ) (wM cI cJ cZ ad) A R 1 23) {r : (Int32 × SH)} (hR : Rz p l e R s m args below meth c cX5_wouldTrade D vwCl (wM cI cJ cZ ad) A Q r) (N : Nat) (k64 : Int32 → Int32 → Int32 → SH → Option (Int32 × SH)) (k74 : Int32 → Int32 → Int32 → Int32 → Int32 → SH → Option (Int32 × SH)) (K64 : ∀ (x1 : Int32) (x2 : Int32) (x3 : Int32) (z : SH) (H : Heap) (locs : List Loc) (ls : Array Slot), k64 x1 x2 x3 z = some r → va_P D vwCl (wM cI cJ cZ ad z) H → va_S A s.heap H locs → lv_has ls 7 [(0, .ref (ad 0)), (1, .int x1), (2, .int x2), (3, .int x3)] → W p l e R s m args below meth c H locs 0 0 Q (F0 m 64 ls [])) (K74 : ∀ (x1 : Int32) (x2 : Int32) (x3 : Int32) (x4 : Int32) (x5 : Int32) (z : SH) (H : Heap) (locs : List Loc) (ls : Array Slot), k74 x1 x2 x3 x4 x5 z = some r → va_P D vwCl (wM cI cJ cZ ad z) H → va_S A s.heap H locs → lv_has ls 7 [(0, .ref (ad 0)), (1, .int x1), (2, .int x2), (3, .int x3), (4, .int x4), (5, .int x5)] → W p l e R s m args below meth c H locs 0 0 Q (F0 m 74 ls [])) (x1 : Int32) (x2 : Int32) (x3 : Int32) (x4 : Int32) (x5 : Int32) (t0 : Int32) (z0 : SH) {H : Heap} {locs : List Loc} {ls : Array Slot} (h : fX5_wouldTrade_121 N k64 k74 x1 x2 x3 x4 x5 t0 z0 = some r) (hP : va_P D vwCl (wM cI cJ cZ ad z0) H) (hS : va_S A s.heap H locs) (hl : lv_has ls 7 [(0, .ref (ad 0)), (1, .int x1), (2, .int x2), (3, .int x3), (4, .int x4), (5, .int x5)]) : W p l e R s m args below meth c H locs 0 0 Q (F0 m 121 ls [.int t0]) := by
  unfold fX5_wouldTrade_121 at h
  have hx := C.1.1
  have hb := C.1.2.1
  refine lv_istore (lv' := [(6, .int t0), (0, .ref (ad 0)), (1, .int x1), (2, .int x2), (3, .int x3), (4, .int x4), (5, .int x5)]) hx hb dX5_wouldTrade_121 hl (by decide) rfl (fun ls hl => ?_)
  refine lv_iload hx hb dX5_wouldTrade_123 (lv_at hl 0 rfl) ?_
  refine lv_if_eq (tgt := 199) hx hb dX5_wouldTrade_125 (by decide) (fun c1 => ?_) (fun c1 => ?_)
  · replace h := (ite_h h).1 c1
    exact wX5_wouldTrade_199 C hR N k64 k74 K64 K74 x1 x2 x3 x4 x5 z0 h hP hS (lv_sub hl [1, 2, 3, 4, 5, 6] rfl)
  · replace h := (ite_h h).2 c1
    refine lv_iload hx hb dX5_wouldTrade_128 (lv_at hl 5 rfl) ?_
    refine lv_iconst (v := -1) hx hb dX5_wouldTrade_130 (by decide) ?_
    refine lv_icmp_eq (tgt := 195) hx hb dX5_wouldTrade_131 (by decide) (fun c1 => ?_) (fun c1 => ?_)
    · replace h := (ite_h h).1 c1
      exact wX5_wouldTrade_195 C hR N k64 k74 K64 K74 x1 x2 x3 x5 z0 h hP hS (lv_sub hl [1, 2, 3, 4, 6] rfl)
    · replace h := (ite_h h).2 c1
      refine lv_aload_n hx hb dX5_wouldTrade_134 rfl (lv_at hl 1 rfl) ?_
      refine b_getr C hP iX5_wouldTrade_X5 0 (wM_0 cI cJ cZ ad z0) rfl 12 (by decide) fX5_wouldTrade_i39 rfl rfl dX5_wouldTrade_135 ?_
      refine lv_iload hx hb dX5_wouldTrade_138 (lv_at hl 6 rfl) ?_
      refine b_iald C hP h 10 (wM_10 cI cJ cZ ad z0) 0 rfl dX5_wouldTrade_140 (fun v1 h => ?_)
      refine lv_aload_n hx hb dX5_wouldTrade_141 rfl (lv_at hl 1 rfl) ?_
      refine b_getr C hP iX5_wouldTrade_X5 0 (wM_0 cI cJ cZ ad z0) rfl 14 (by decide) fX5_wouldTrade_i45 rfl rfl dX5_wouldTrade_142 ?_
      refine lv_iload hx hb dX5_wouldTrade_145 (lv_at hl 6 rfl) ?_
      refine b_iald C hP h 12 (wM_12 cI cJ cZ ad z0) 0 rfl dX5_wouldTrade_147 (fun v2 h => ?_)
      refine lv_aload_n hx hb dX5_wouldTrade_148 rfl (lv_at hl 1 rfl) ?_
      refine b_getr C hP iX5_wouldTrade_X5 0 (wM_0 cI cJ cZ ad z0) rfl 14 (by decide) fX5_wouldTrade_i45 rfl rfl dX5_wouldTrade_149 ?_
      refine lv_iload hx hb dX5_wouldTrade_152 (lv_at hl 5 rfl) ?_
      refine b_iald C hP h 12 (wM_12 cI cJ cZ ad z0) 0 rfl dX5_wouldTrade_154 (fun v3 h => ?_)
      refine b_callSi (As := [.int v1, .int v2, .int v3]) (rest := []) C hP hS h (mX5_isBetter l D cI cJ cZ ad v1 v2 v3 z0) (va_cwS 3 C.1.2.2.2.2 gX5_wouldTrade_X5_isBetter rfl rfl rfl (by decide +kernel) ⟨Nat.le_trans (Nat.le_of_ble_eq_true rfl) C.2.2.2.2.1, Nat.le_trans (Nat.le_of_ble_eq_true rfl) C.2.2.2.2.2⟩) rfl hl.1 rfl (Nat.le_of_ble_eq_true rfl) dX5_wouldTrade_155 (fun v5 z4 _ _ h hP hS => ?_)
      refine lv_if_ne (tgt := 195) hx hb dX5_wouldTrade_158 (by decide) (fun c1 => ?_) (fun c1 => ?_)
      · replace h := (ite_h h).2 c1
        exact wX5_wouldTrade_195 C hR N k64 k74 K64 K74 x1 x2 x3 x5 z4 h hP hS (lv_sub hl [1, 2, 3, 4, 6] rfl)
      · replace h := (ite_h h).1 c1
        refine lv_aload_n hx hb dX5_wouldTrade_161 rfl (lv_at hl 1 rfl) ?_
        refine b_getr C hP iX5_wouldTrade_X5 0 (wM_0 cI cJ cZ ad z4) rfl 14 (by decide) fX5_wouldTrade_i45 rfl rfl dX5_wouldTrade_162 ?_
        refine lv_iload hx hb dX5_wouldTrade_165 (lv_at hl 6 rfl) ?_
        refine b_iald C hP h 12 (wM_12 cI cJ cZ ad z4) 0 rfl dX5_wouldTrade_167 (fun v6 h => ?_)
        refine lv_aload_n hx hb dX5_wouldTrade_168 rfl (lv_at hl 1 rfl) ?_
        refine b_getr C hP iX5_wouldTrade_X5 0 (wM_0 cI cJ cZ ad z4) rfl 14 (by decide) fX5_wouldTrade_i45 rfl rfl dX5_wouldTrade_169 ?_
        refine lv_iload hx hb dX5_wouldTrade_172 (lv_at hl 5 rfl) ?_
        refine b_iald C hP h 12 (wM_12 cI cJ cZ ad z4) 0 rfl dX5_wouldTrade_174 (fun v7 h => ?_)
        refine lv_icmp_ne (tgt := 199) hx hb dX5_wouldTrade_175 (by decide) (fun c1 => ?_) (fun c1 => ?_)
        · replace h := (ite_h h).2 c1
          exact wX5_wouldTrade_199 C hR N k64 k74 K64 K74 x1 x2 x3 x4 x5 z4 h hP hS (lv_sub hl [1, 2, 3, 4, 5, 6] rfl)
        · replace h := (ite_h h).1 c1
          refine lv_aload_n hx hb dX5_wouldTrade_178 rfl (lv_at hl 1 rfl) ?_
          refine b_getr C hP iX5_wouldTrade_X5 0 (wM_0 cI cJ cZ ad z4) rfl 25 (by decide) fX5_wouldTrade_i75 rfl rfl dX5_wouldTrade_179 ?_
          refine lv_iload hx hb dX5_wouldTrade_182 (lv_at hl 6 rfl) ?_
          refine b_iald C hP h 22 (wM_22 cI cJ cZ ad z4) 0 rfl dX5_wouldTrade_184 (fun v8 h => ?_)
          refine lv_aload_n hx hb dX5_wouldTrade_185 rfl (lv_at hl 1 rfl) ?_
          refine b_getr C hP iX5_wouldTrade_X5 0 (wM_0 cI cJ cZ ad z4) rfl 25 (by decide) fX5_wouldTrade_i75 rfl rfl dX5_wouldTrade_186 ?_
          refine lv_iload hx hb dX5_wouldTrade_189 (lv_at hl 5 rfl) ?_
          refine b_iald C hP h 22 (wM_22 cI cJ cZ ad z4) 0 rfl dX5_wouldTrade_191 (fun v9 h => ?_)
          refine lv_icmp_ge (tgt := 199) hx hb dX5_wouldTrade_192 (by decide) (fun c1 => ?_) (fun c1 => ?_)
          · replace h := (ite_h h).1 c1
            exact wX5_wouldTrade_199 C hR N k64 k74 K64 K74 x1 x2 x3 x4 x5 z4 h hP hS (lv_sub hl [1, 2, 3, 4, 5, 6] rfl)
          · replace h := (ite_h h).2 c1
            exact wX5_wouldTrade_195 C hR N k64 k74 K64 K74 x1 x2 x3 x5 z4 h hP hS (lv_sub hl [1, 2, 3, 4, 6] rfl)
set_option maxRecDepth 100000 in
set_option maxHeartbeats 4000000 in
theorem wX5_wouldTrade_120 {p : Program} {l : Launch} {e : Env} {R : Room} {s : State} {m : MethodId} {args : Array Value} {below : List Frame} {meth : Method} {c : Code} {Q : State → Prop} {D : va_G} {cI cJ cZ : ClassId} {ad : Nat → Nat} {A : Nat → Prop} (C : Cx p s m args c cX5_wouldTrade 7 wsX5_wouldTrade RX5 D vwCl (tyl cI cJ cZ) (wM cI cJ cZ ad) A R 1 23) {r : (Int32 × SH)} (hR : Rz p l e R s m args below meth c cX5_wouldTrade D vwCl (wM cI cJ cZ ad) A Q r) (N : Nat) (k64 : Int32 → Int32 → Int32 → SH → Option (Int32 × SH)) (k74 : Int32 → Int32 → Int32 → Int32 → Int32 → SH → Option (Int32 × SH)) (K64 : ∀ (x1 : Int32) (x2 : Int32) (x3 : Int32) (z : SH) (H : Heap) (locs : List Loc) (ls : Array Slot), k64 x1 x2 x3 z = some r → va_P D vwCl (wM cI cJ cZ ad z) H → va_S A s.heap H locs → lv_has ls 7 [(0, .ref (ad 0)), (1, .int x1), (2, .int x2), (3, .int x3)] → W p l e R s m args below meth c H locs 0 0 Q (F0 m 64 ls [])) (K74 : ∀ (x1 : Int32) (x2 : Int32) (x3 : Int32) (x4 : Int32) (x5 : Int32) (z : SH) (H : Heap) (locs : List Loc) (ls : Array Slot), k74 x1 x2 x3 x4 x5 z = some r → va_P D vwCl (wM cI cJ cZ ad z) H → va_S A s.heap H locs → lv_has ls 7 [(0, .ref (ad 0)), (1, .int x1), (2, .int x2), (3, .int x3), (4, .int x4), (5, .int x5)] → W p l e R s m args below meth c H locs 0 0 Q (F0 m 74 ls [])) (x1 : Int32) (x2 : Int32) (x3 : Int32) (x4 : Int32) (x5 : Int32) (z0 : SH) {H : Heap} {locs : List Loc} {ls : Array Slot} (h : fX5_wouldTrade_120 N k64 k74 x1 x2 x3 x4 x5 z0 = some r) (hP : va_P D vwCl (wM cI cJ cZ ad z0) H) (hS : va_S A s.heap H locs) (hl : lv_has ls 7 [(0, .ref (ad 0)), (1, .int x1), (2, .int x2), (3, .int x3), (4, .int x4), (5, .int x5)]) : W p l e R s m args below meth c H locs 0 0 Q (F0 m 120 ls []) := by
  unfold fX5_wouldTrade_120 at h
  have hx := C.1.1
  have hb := C.1.2.1
  refine lv_iconst (v := 0) hx hb dX5_wouldTrade_120 (by decide) ?_
  exact wX5_wouldTrade_121 C hR N k64 k74 K64 K74 x1 x2 x3 x4 x5 0 z0 h hP hS (lv_sub hl [0, 1, 2, 3, 4, 5] rfl)
set_option maxRecDepth 100000 in
set_option maxHeartbeats 4000000 in
theorem wX5_wouldTrade_74 {p : Program} {l : Launch} {e : Env} {R : Room} {s : State} {m : MethodId} {args : Array Value} {below : List Frame} {meth : Method} {c : Code} {Q : State → Prop} {D : va_G} {cI cJ cZ : ClassId} {ad : Nat → Nat} {A : Nat → Prop} (C : Cx p s m args c cX5_wouldTrade 7 wsX5_wouldTrade RX5 D vwCl (tyl cI cJ cZ) (wM cI cJ cZ ad) A R 1 23) {r : (Int32 × SH)} (hR : Rz p l e R s m args below meth c cX5_wouldTrade D vwCl (wM cI cJ cZ ad) A Q r) (N : Nat) (k64 : Int32 → Int32 → Int32 → SH → Option (Int32 × SH)) (k74 : Int32 → Int32 → Int32 → Int32 → Int32 → SH → Option (Int32 × SH)) (K64 : ∀ (x1 : Int32) (x2 : Int32) (x3 : Int32) (z : SH) (H : Heap) (locs : List Loc) (ls : Array Slot), k64 x1 x2 x3 z = some r → va_P D vwCl (wM cI cJ cZ ad z) H → va_S A s.heap H locs → lv_has ls 7 [(0, .ref (ad 0)), (1, .int x1), (2, .int x2), (3, .int x3)] → W p l e R s m args below meth c H locs 0 0 Q (F0 m 64 ls [])) (K74 : ∀ (x1 : Int32) (x2 : Int32) (x3 : Int32) (x4 : Int32) (x5 : Int32) (z : SH) (H : Heap) (locs : List Loc) (ls : Array Slot), k74 x1 x2 x3 x4 x5 z = some r → va_P D vwCl (wM cI cJ cZ ad z) H → va_S A s.heap H locs → lv_has ls 7 [(0, .ref (ad 0)), (1, .int x1), (2, .int x2), (3, .int x3), (4, .int x4), (5, .int x5)] → W p l e R s m args below meth c H locs 0 0 Q (F0 m 74 ls [])) (x1 : Int32) (x2 : Int32) (x3 : Int32) (x4 : Int32) (x5 : Int32) (z0 : SH) {H : Heap} {locs : List Loc} {ls : Array Slot} (h : fX5_wouldTrade_74 N k64 k74 x1 x2 x3 x4 x5 z0 = some r) (hP : va_P D vwCl (wM cI cJ cZ ad z0) H) (hS : va_S A s.heap H locs) (hl : lv_has ls 7 [(0, .ref (ad 0)), (1, .int x1), (2, .int x2), (3, .int x3), (4, .int x4), (5, .int x5)]) : W p l e R s m args below meth c H locs 0 0 Q (F0 m 74 ls []) := by
  unfold fX5_wouldTrade_74 at h
  have hx := C.1.1
  have hb := C.1.2.1
  refine lv_iload hx hb dX5_wouldTrade_74 (lv_at hl 5 rfl) ?_
  refine lv_aload_n hx hb dX5_wouldTrade_76 rfl (lv_at hl 0 rfl) ?_
  refine b_geti C hP h iX5_wouldTrade_X5 0 (wM_0 cI cJ cZ ad z0) rfl 9 (by decide) fX5_wouldTrade_i116 rfl rfl dX5_wouldTrade_77 (fun v1 h => ?_)
  refine lv_icmp_ge (tgt := 205) hx hb dX5_wouldTrade_80 (by decide) (fun c1 => ?_) (fun c1 => ?_)
  · replace h := (ite_h h).1 c1
    refine lv_iload hx hb dX5_wouldTrade_205 (lv_at hl 4 rfl) ?_
    refine lv_iconst (v := -1) hx hb dX5_wouldTrade_207 (by decide) ?_
    refine lv_icmp_eq (tgt := 237) hx hb dX5_wouldTrade_208 (by decide) (fun c1 => ?_) (fun c1 => ?_)
    · replace h := (ite_h h).1 c1
      exact wX5_wouldTrade_237 C hR N z0 h hP hS (lv_sub hl [] rfl)
    · replace h := (ite_h h).2 c1
      refine lv_aload_n hx hb dX5_wouldTrade_211 rfl (lv_at hl 0 rfl) ?_
      refine lv_iload_n hx hb dX5_wouldTrade_212 rfl (lv_at hl 1 rfl) ?_
      refine lv_iload hx hb dX5_wouldTrade_213 (lv_at hl 4 rfl) ?_
      refine b_callVi (As := [.int x1, .int x4]) (rest := []) C hP hS h (mX5_allows l D cI cJ cZ ad x1 x4 z0) (cwV 2 C.1.2.2.2.2 gX5_wouldTrade_X5_allows rfl rfl rfl (by decide +kernel) ⟨Nat.le_trans (Nat.le_of_ble_eq_true rfl) C.2.2.2.2.1, Nat.le_trans (Nat.le_of_ble_eq_true rfl) C.2.2.2.2.2⟩) (va_recv C.2.1 hP (ci := 5) (q0 := 0) rfl (wM_0 cI cJ cZ ad z0)) rfl hl.1 rfl (Nat.le_of_ble_eq_true rfl) dX5_wouldTrade_215 (fun v3 z2 _ _ h hP hS => ?_)
      refine lv_if_eq (tgt := 237) hx hb dX5_wouldTrade_218 (by decide) (fun c1 => ?_) (fun c1 => ?_)
      · replace h := (ite_h h).1 c1
        exact wX5_wouldTrade_237 C hR N z2 h hP hS (lv_sub hl [] rfl)
      · replace h := (ite_h h).2 c1
        refine lv_aload_n hx hb dX5_wouldTrade_221 rfl (lv_at hl 0 rfl) ?_
        refine b_getr C hP iX5_wouldTrade_X5 0 (wM_0 cI cJ cZ ad z2) rfl 10 (by decide) fX5_wouldTrade_i33 rfl rfl dX5_wouldTrade_222 ?_
        refine lv_iload hx hb dX5_wouldTrade_225 (lv_at hl 4 rfl) ?_
        refine b_iald C hP h 8 (wM_8 cI cJ cZ ad z2) 0 rfl dX5_wouldTrade_227 (fun v4 h => ?_)
        refine lv_aload_n hx hb dX5_wouldTrade_228 rfl (lv_at hl 0 rfl) ?_
        refine b_getr C hP iX5_wouldTrade_X5 0 (wM_0 cI cJ cZ ad z2) rfl 10 (by decide) fX5_wouldTrade_i33 rfl rfl dX5_wouldTrade_229 ?_
        refine lv_iload_n hx hb dX5_wouldTrade_232 rfl (lv_at hl 1 rfl) ?_
        refine b_iald C hP h 8 (wM_8 cI cJ cZ ad z2) 0 rfl dX5_wouldTrade_233 (fun v5 h => ?_)
        refine lv_icmp_ne (tgt := 239) hx hb dX5_wouldTrade_234 (by decide) (fun c1 => ?_) (fun c1 => ?_)
        · replace h := (ite_h h).2 c1
          refine lv_iload_n hx hb dX5_wouldTrade_239 rfl (lv_at hl 2 rfl) ?_
          refine lv_aload_n hx hb dX5_wouldTrade_240 rfl (lv_at hl 0 rfl) ?_
          refine b_getr C hP iX5_wouldTrade_X5 0 (wM_0 cI cJ cZ ad z2) rfl 24 (by decide) fX5_wouldTrade_i72 rfl rfl dX5_wouldTrade_241 ?_
          refine lv_iload hx hb dX5_wouldTrade_244 (lv_at hl 4 rfl) ?_
          refine b_iald C hP h 21 (wM_21 cI cJ cZ ad z2) 0 rfl dX5_wouldTrade_246 (fun v6 h => ?_)
          refine lv_icmp_ge (tgt := 254) hx hb dX5_wouldTrade_247 (by decide) (fun c1 => ?_) (fun c1 => ?_)
          · replace h := (ite_h h).1 c1
            refine lv_aload_n hx hb dX5_wouldTrade_254 rfl (lv_at hl 0 rfl) ?_
            refine b_getr C hP iX5_wouldTrade_X5 0 (wM_0 cI cJ cZ ad z2) rfl 24 (by decide) fX5_wouldTrade_i72 rfl rfl dX5_wouldTrade_255 ?_
            refine lv_iload hx hb dX5_wouldTrade_258 (lv_at hl 4 rfl) ?_
            refine b_iald C hP h 21 (wM_21 cI cJ cZ ad z2) 0 rfl dX5_wouldTrade_260 (fun v7 h => ?_)
            exact wX5_wouldTrade_261 C hR N k64 K64 x1 x2 x3 x4 v7 z2 h hP hS (lv_sub hl [0, 1, 2, 3, 4] rfl)
          · replace h := (ite_h h).2 c1
            refine lv_iload_n hx hb dX5_wouldTrade_250 rfl (lv_at hl 2 rfl) ?_
            refine lv_goto (tgt := 261) hx hb dX5_wouldTrade_251 (by decide) ?_
            exact wX5_wouldTrade_261 C hR N k64 K64 x1 x2 x3 x4 x2 z2 h hP hS (lv_sub hl [0, 1, 2, 3, 4] rfl)
        · replace h := (ite_h h).1 c1
          exact wX5_wouldTrade_237 C hR N z2 h hP hS (lv_sub hl [] rfl)
  · replace h := (ite_h h).2 c1
    refine lv_aload_n hx hb dX5_wouldTrade_83 rfl (lv_at hl 0 rfl) ?_
    refine lv_iload hx hb dX5_wouldTrade_84 (lv_at hl 5 rfl) ?_
    refine lv_aload_n hx hb dX5_wouldTrade_86 rfl (lv_at hl 0 rfl) ?_
    refine b_getr C hP iX5_wouldTrade_X5 0 (wM_0 cI cJ cZ ad z0) rfl 11 (by decide) fX5_wouldTrade_i36 rfl rfl dX5_wouldTrade_87 ?_
    refine lv_iload_n hx hb dX5_wouldTrade_90 rfl (lv_at hl 1 rfl) ?_
    refine b_iald C hP h 9 (wM_9 cI cJ cZ ad z0) 0 rfl dX5_wouldTrade_91 (fun v8 h => ?_)
    refine lv_iconst (v := 1) hx hb dX5_wouldTrade_92 (by decide) ?_
    refine lv_aload_n hx hb dX5_wouldTrade_93 rfl (lv_at hl 0 rfl) ?_
    refine b_getr C hP iX5_wouldTrade_X5 0 (wM_0 cI cJ cZ ad z0) rfl 12 (by decide) fX5_wouldTrade_i39 rfl rfl dX5_wouldTrade_94 ?_
    refine lv_iload_n hx hb dX5_wouldTrade_97 rfl (lv_at hl 1 rfl) ?_
    refine b_iald C hP h 10 (wM_10 cI cJ cZ ad z0) 0 rfl dX5_wouldTrade_98 (fun v9 h => ?_)
    refine lv_isub hx hb dX5_wouldTrade_99 ?_
    refine b_callVi (As := [.int x5, .int v8, .int (1 - v9)]) (rest := []) C hP hS h (mX5_rests l D cI cJ cZ ad x5 v8 (1 - v9) z0) (cwV 3 C.1.2.2.2.2 gX5_wouldTrade_X5_rests rfl rfl rfl (by decide +kernel) ⟨Nat.le_trans (Nat.le_of_ble_eq_true rfl) C.2.2.2.2.1, Nat.le_trans (Nat.le_of_ble_eq_true rfl) C.2.2.2.2.2⟩) (va_recv C.2.1 hP (ci := 5) (q0 := 0) rfl (wM_0 cI cJ cZ ad z0)) rfl hl.1 rfl (Nat.le_of_ble_eq_true rfl) dX5_wouldTrade_100 (fun v11 z10 _ _ h hP hS => ?_)
    refine lv_if_eq (tgt := 120) hx hb dX5_wouldTrade_103 (by decide) (fun c1 => ?_) (fun c1 => ?_)
    · replace h := (ite_h h).1 c1
      exact wX5_wouldTrade_120 C hR N k64 k74 K64 K74 x1 x2 x3 x4 x5 z10 h hP hS (lv_sub hl [0, 1, 2, 3, 4, 5] rfl)
    · replace h := (ite_h h).2 c1
      refine lv_aload_n hx hb dX5_wouldTrade_106 rfl (lv_at hl 0 rfl) ?_
      refine b_getr C hP iX5_wouldTrade_X5 0 (wM_0 cI cJ cZ ad z10) rfl 23 (by decide) fX5_wouldTrade_i69 rfl rfl dX5_wouldTrade_107 ?_
      refine lv_iload hx hb dX5_wouldTrade_110 (lv_at hl 5 rfl) ?_
      refine b_iald C hP h 20 (wM_20 cI cJ cZ ad z10) 0 rfl dX5_wouldTrade_112 (fun v12 h => ?_)
      refine lv_if_le (tgt := 120) hx hb dX5_wouldTrade_113 (by decide) (fun c1 => ?_) (fun c1 => ?_)
      · replace h := (ite_h h).1 c1
        exact wX5_wouldTrade_120 C hR N k64 k74 K64 K74 x1 x2 x3 x4 x5 z10 h hP hS (lv_sub hl [0, 1, 2, 3, 4, 5] rfl)
      · replace h := (ite_h h).2 c1
        refine lv_iconst (v := 1) hx hb dX5_wouldTrade_116 (by decide) ?_
        refine lv_goto (tgt := 121) hx hb dX5_wouldTrade_117 (by decide) ?_
        exact wX5_wouldTrade_121 C hR N k64 k74 K64 K74 x1 x2 x3 x4 x5 1 z10 h hP hS (lv_sub hl [0, 1, 2, 3, 4, 5] rfl)
theorem wX5_wouldTrade_74_L {p : Program} {l : Launch} {e : Env} {R : Room} {s : State} {m : MethodId} {args : Array Value} {below : List Frame} {meth : Method} {c : Code} {Q : State → Prop} {D : va_G} {cI cJ cZ : ClassId} {ad : Nat → Nat} {A : Nat → Prop} (C : Cx p s m args c cX5_wouldTrade 7 wsX5_wouldTrade RX5 D vwCl (tyl cI cJ cZ) (wM cI cJ cZ ad) A R 1 23) {r : (Int32 × SH)} (hR : Rz p l e R s m args below meth c cX5_wouldTrade D vwCl (wM cI cJ cZ ad) A Q r) (N : Nat) (k64 : Int32 → Int32 → Int32 → SH → Option (Int32 × SH)) (K64 : ∀ (x1 : Int32) (x2 : Int32) (x3 : Int32) (z : SH) (H : Heap) (locs : List Loc) (ls : Array Slot), k64 x1 x2 x3 z = some r → va_P D vwCl (wM cI cJ cZ ad z) H → va_S A s.heap H locs → lv_has ls 7 [(0, .ref (ad 0)), (1, .int x1), (2, .int x2), (3, .int x3)] → W p l e R s m args below meth c H locs 0 0 Q (F0 m 64 ls [])) : ∀ (n : Nat), ∀ (x1 : Int32) (x2 : Int32) (x3 : Int32) (x4 : Int32) (x5 : Int32) (z : SH) (H : Heap) (locs : List Loc) (ls : Array Slot), fX5_wouldTrade_74_L N k64 n x1 x2 x3 x4 x5 z = some r → va_P D vwCl (wM cI cJ cZ ad z) H → va_S A s.heap H locs → lv_has ls 7 [(0, .ref (ad 0)), (1, .int x1), (2, .int x2), (3, .int x3), (4, .int x4), (5, .int x5)] → W p l e R s m args below meth c H locs 0 0 Q (F0 m 74 ls []) := by
  intro n
  induction n with
  | zero => intro x1 x2 x3 x4 x5 z H locs ls h; exact nomatch (show (none : Option (Int32 × SH)) = some r from h)
  | succ n ih => intro x1 x2 x3 x4 x5 z H locs ls h hP hS hl; exact wX5_wouldTrade_74 C hR N k64 (fX5_wouldTrade_74_L N k64 n) K64 ih x1 x2 x3 x4 x5 z (show fX5_wouldTrade_74 N k64 (fX5_wouldTrade_74_L N k64 n) x1 x2 x3 x4 x5 z = some r from h) hP hS hl
set_option maxRecDepth 100000 in
set_option maxHeartbeats 4000000 in
theorem wX5_wouldTrade_64 {p : Program} {l : Launch} {e : Env} {R : Room} {s : State} {m : MethodId} {args : Array Value} {below : List Frame} {meth : Method} {c : Code} {Q : State → Prop} {D : va_G} {cI cJ cZ : ClassId} {ad : Nat → Nat} {A : Nat → Prop} (C : Cx p s m args c cX5_wouldTrade 7 wsX5_wouldTrade RX5 D vwCl (tyl cI cJ cZ) (wM cI cJ cZ ad) A R 1 23) {r : (Int32 × SH)} (hR : Rz p l e R s m args below meth c cX5_wouldTrade D vwCl (wM cI cJ cZ ad) A Q r) (N : Nat) (k64 : Int32 → Int32 → Int32 → SH → Option (Int32 × SH)) (K64 : ∀ (x1 : Int32) (x2 : Int32) (x3 : Int32) (z : SH) (H : Heap) (locs : List Loc) (ls : Array Slot), k64 x1 x2 x3 z = some r → va_P D vwCl (wM cI cJ cZ ad z) H → va_S A s.heap H locs → lv_has ls 7 [(0, .ref (ad 0)), (1, .int x1), (2, .int x2), (3, .int x3)] → W p l e R s m args below meth c H locs 0 0 Q (F0 m 64 ls [])) (x1 : Int32) (x2 : Int32) (x3 : Int32) (z0 : SH) {H : Heap} {locs : List Loc} {ls : Array Slot} (h : fX5_wouldTrade_64 N k64 x1 x2 x3 z0 = some r) (hP : va_P D vwCl (wM cI cJ cZ ad z0) H) (hS : va_S A s.heap H locs) (hl : lv_has ls 7 [(0, .ref (ad 0)), (1, .int x1), (2, .int x2), (3, .int x3)]) : W p l e R s m args below meth c H locs 0 0 Q (F0 m 64 ls []) := by
  unfold fX5_wouldTrade_64 at h
  have hx := C.1.1
  have hb := C.1.2.1
  refine lv_iload_n hx hb dX5_wouldTrade_64 rfl (lv_at hl 2 rfl) ?_
  refine lv_if_le (tgt := 357) hx hb dX5_wouldTrade_65 (by decide) (fun c1 => ?_) (fun c1 => ?_)
  · replace h := (ite_h h).1 c1
    refine lv_iconst (v := 1) hx hb dX5_wouldTrade_357 (by decide) ?_
    exact hR 358 _ _ _ _ _ h dX5_wouldTrade_358 hP hS
  · replace h := (ite_h h).2 c1
    refine lv_iconst (v := -1) hx hb dX5_wouldTrade_68 (by decide) ?_
    refine lv_istore (lv' := [(4, .int ((-1))), (0, .ref (ad 0)), (1, .int x1), (2, .int x2), (3, .int x3)]) hx hb dX5_wouldTrade_69 hl (by decide) rfl (fun ls hl => ?_)
    refine lv_iconst (v := 0) hx hb dX5_wouldTrade_71 (by decide) ?_
    refine lv_istore (lv' := [(5, .int 0), (4, .int ((-1))), (0, .ref (ad 0)), (1, .int x1), (2, .int x2), (3, .int x3)]) hx hb dX5_wouldTrade_72 hl (by decide) rfl (fun ls hl => ?_)
    exact wX5_wouldTrade_74_L C hR N k64 K64 N x1 x2 x3 ((-1)) 0 z0 _ _ _ h hP hS (lv_sub hl [2, 3, 4, 5, 1, 0] rfl)
theorem wX5_wouldTrade_64_L {p : Program} {l : Launch} {e : Env} {R : Room} {s : State} {m : MethodId} {args : Array Value} {below : List Frame} {meth : Method} {c : Code} {Q : State → Prop} {D : va_G} {cI cJ cZ : ClassId} {ad : Nat → Nat} {A : Nat → Prop} (C : Cx p s m args c cX5_wouldTrade 7 wsX5_wouldTrade RX5 D vwCl (tyl cI cJ cZ) (wM cI cJ cZ ad) A R 1 23) {r : (Int32 × SH)} (hR : Rz p l e R s m args below meth c cX5_wouldTrade D vwCl (wM cI cJ cZ ad) A Q r) (N : Nat) : ∀ (n : Nat), ∀ (x1 : Int32) (x2 : Int32) (x3 : Int32) (z : SH) (H : Heap) (locs : List Loc) (ls : Array Slot), fX5_wouldTrade_64_L N n x1 x2 x3 z = some r → va_P D vwCl (wM cI cJ cZ ad z) H → va_S A s.heap H locs → lv_has ls 7 [(0, .ref (ad 0)), (1, .int x1), (2, .int x2), (3, .int x3)] → W p l e R s m args below meth c H locs 0 0 Q (F0 m 64 ls []) := by
  intro n
  induction n with
  | zero => intro x1 x2 x3 z H locs ls h; exact nomatch (show (none : Option (Int32 × SH)) = some r from h)
  | succ n ih => intro x1 x2 x3 z H locs ls h hP hS hl; exact wX5_wouldTrade_64 C hR N (fX5_wouldTrade_64_L N n) ih x1 x2 x3 z (show fX5_wouldTrade_64 N (fX5_wouldTrade_64_L N n) x1 x2 x3 z = some r from h) hP hS hl
set_option maxRecDepth 100000 in
set_option maxHeartbeats 4000000 in
theorem wX5_wouldTrade_2 {p : Program} {l : Launch} {e : Env} {R : Room} {s : State} {m : MethodId} {args : Array Value} {below : List Frame} {meth : Method} {c : Code} {Q : State → Prop} {D : va_G} {cI cJ cZ : ClassId} {ad : Nat → Nat} {A : Nat → Prop} (C : Cx p s m args c cX5_wouldTrade 7 wsX5_wouldTrade RX5 D vwCl (tyl cI cJ cZ) (wM cI cJ cZ ad) A R 1 23) {r : (Int32 × SH)} (hR : Rz p l e R s m args below meth c cX5_wouldTrade D vwCl (wM cI cJ cZ ad) A Q r) (N : Nat) (k2 : Int32 → Int32 → SH → Option (Int32 × SH)) (K2 : ∀ (x1 : Int32) (x2 : Int32) (z : SH) (H : Heap) (locs : List Loc) (ls : Array Slot), k2 x1 x2 z = some r → va_P D vwCl (wM cI cJ cZ ad z) H → va_S A s.heap H locs → lv_has ls 7 [(0, .ref (ad 0)), (1, .int x1), (2, .int x2)] → W p l e R s m args below meth c H locs 0 0 Q (F0 m 2 ls [])) (x1 : Int32) (x2 : Int32) (z0 : SH) {H : Heap} {locs : List Loc} {ls : Array Slot} (h : fX5_wouldTrade_2 N k2 x1 x2 z0 = some r) (hP : va_P D vwCl (wM cI cJ cZ ad z0) H) (hS : va_S A s.heap H locs) (hl : lv_has ls 7 [(0, .ref (ad 0)), (1, .int x1), (2, .int x2)]) : W p l e R s m args below meth c H locs 0 0 Q (F0 m 2 ls []) := by
  unfold fX5_wouldTrade_2 at h
  have hx := C.1.1
  have hb := C.1.2.1
  refine lv_iload_n hx hb dX5_wouldTrade_2 rfl (lv_at hl 2 rfl) ?_
  refine lv_aload_n hx hb dX5_wouldTrade_3 rfl (lv_at hl 0 rfl) ?_
  refine b_geti C hP h iX5_wouldTrade_X5 0 (wM_0 cI cJ cZ ad z0) rfl 9 (by decide) fX5_wouldTrade_i116 rfl rfl dX5_wouldTrade_4 (fun v1 h => ?_)
  refine lv_icmp_ge (tgt := 52) hx hb dX5_wouldTrade_7 (by decide) (fun c1 => ?_) (fun c1 => ?_)
  · replace h := (ite_h h).1 c1
    refine lv_aload_n hx hb dX5_wouldTrade_52 rfl (lv_at hl 0 rfl) ?_
    refine b_getr C hP iX5_wouldTrade_X5 0 (wM_0 cI cJ cZ ad z0) rfl 15 (by decide) fX5_wouldTrade_i48 rfl rfl dX5_wouldTrade_53 ?_
    refine lv_iload_n hx hb dX5_wouldTrade_56 rfl (lv_at hl 1 rfl) ?_
    refine b_iald C hP h 13 (wM_13 cI cJ cZ ad z0) 0 rfl dX5_wouldTrade_57 (fun v2 h => ?_)
    refine lv_istore_n (lv' := [(2, .int v2), (0, .ref (ad 0)), (1, .int x1)]) hx hb dX5_wouldTrade_58 rfl hl (by decide) rfl (fun ls hl => ?_)
    refine lv_aload_n hx hb dX5_wouldTrade_59 rfl (lv_at hl 1 rfl) ?_
    refine b_geti C hP h iX5_wouldTrade_X5 0 (wM_0 cI cJ cZ ad z0) rfl 22 (by decide) fX5_wouldTrade_i146 rfl rfl dX5_wouldTrade_60 (fun v3 h => ?_)
    refine lv_istore_n (lv' := [(3, .int v3), (2, .int v2), (0, .ref (ad 0)), (1, .int x1)]) hx hb dX5_wouldTrade_63 rfl hl (by decide) rfl (fun ls hl => ?_)
    exact wX5_wouldTrade_64_L C hR N N x1 v2 v3 z0 _ _ _ h hP hS (lv_sub hl [2, 3, 1, 0] rfl)
  · replace h := (ite_h h).2 c1
    refine lv_aload_n hx hb dX5_wouldTrade_10 rfl (lv_at hl 0 rfl) ?_
    refine b_getr C hP iX5_wouldTrade_X5 0 (wM_0 cI cJ cZ ad z0) rfl 23 (by decide) fX5_wouldTrade_i69 rfl rfl dX5_wouldTrade_11 ?_
    refine lv_iload_n hx hb dX5_wouldTrade_14 rfl (lv_at hl 2 rfl) ?_
    refine lv_aload_n hx hb dX5_wouldTrade_15 rfl (lv_at hl 0 rfl) ?_
    refine b_getr C hP iX5_wouldTrade_X5 0 (wM_0 cI cJ cZ ad z0) rfl 15 (by decide) fX5_wouldTrade_i48 rfl rfl dX5_wouldTrade_16 ?_
    refine lv_iload_n hx hb dX5_wouldTrade_19 rfl (lv_at hl 2 rfl) ?_
    refine b_iald C hP h 13 (wM_13 cI cJ cZ ad z0) 0 rfl dX5_wouldTrade_20 (fun v4 h => ?_)
    refine b_iast C hP hS h 20 (wM_20 cI cJ cZ ad z0) 0 rfl (wM_s20 cI cJ cZ ad z0 _ _) dX5_wouldTrade_21 (fun z5 _ _ h hP hS => ?_)
    refine lv_aload_n hx hb dX5_wouldTrade_22 rfl (lv_at hl 0 rfl) ?_
    refine b_getr C hP iX5_wouldTrade_X5 0 (wM_0 cI cJ cZ ad z5) rfl 24 (by decide) fX5_wouldTrade_i72 rfl rfl dX5_wouldTrade_23 ?_
    refine lv_iload_n hx hb dX5_wouldTrade_26 rfl (lv_at hl 2 rfl) ?_
    refine lv_aload_n hx hb dX5_wouldTrade_27 rfl (lv_at hl 0 rfl) ?_
    refine b_getr C hP iX5_wouldTrade_X5 0 (wM_0 cI cJ cZ ad z5) rfl 16 (by decide) fX5_wouldTrade_i51 rfl rfl dX5_wouldTrade_28 ?_
    refine lv_iload_n hx hb dX5_wouldTrade_31 rfl (lv_at hl 2 rfl) ?_
    refine b_iald C hP h 14 (wM_14 cI cJ cZ ad z5) 0 rfl dX5_wouldTrade_32 (fun v6 h => ?_)
    refine b_iast C hP hS h 21 (wM_21 cI cJ cZ ad z5) 0 rfl (wM_s21 cI cJ cZ ad z5 _ _) dX5_wouldTrade_33 (fun z7 _ _ h hP hS => ?_)
    refine lv_aload_n hx hb dX5_wouldTrade_34 rfl (lv_at hl 0 rfl) ?_
    refine b_getr C hP iX5_wouldTrade_X5 0 (wM_0 cI cJ cZ ad z7) rfl 25 (by decide) fX5_wouldTrade_i75 rfl rfl dX5_wouldTrade_35 ?_
    refine lv_iload_n hx hb dX5_wouldTrade_38 rfl (lv_at hl 2 rfl) ?_
    refine lv_aload_n hx hb dX5_wouldTrade_39 rfl (lv_at hl 0 rfl) ?_
    refine b_getr C hP iX5_wouldTrade_X5 0 (wM_0 cI cJ cZ ad z7) rfl 21 (by decide) fX5_wouldTrade_i66 rfl rfl dX5_wouldTrade_40 ?_
    refine lv_iload_n hx hb dX5_wouldTrade_43 rfl (lv_at hl 2 rfl) ?_
    refine b_iald C hP h 19 (wM_19 cI cJ cZ ad z7) 0 rfl dX5_wouldTrade_44 (fun v8 h => ?_)
    refine b_iast C hP hS h 22 (wM_22 cI cJ cZ ad z7) 0 rfl (wM_s22 cI cJ cZ ad z7 _ _) dX5_wouldTrade_45 (fun z9 _ _ h hP hS => ?_)
    refine lv_iinc (v := x2 + 1) (lv' := [(2, .int (x2 + 1)), (0, .ref (ad 0)), (1, .int x1)]) hx hb dX5_wouldTrade_46 hl (k := 2) rfl rfl (by decide) rfl (fun ls hl => ?_)
    refine lv_goto (tgt := 2) hx hb dX5_wouldTrade_49 (by decide) ?_
    exact K2 x1 (x2 + 1) z9 _ _ _ h hP hS (lv_sub hl [1, 2, 0] rfl)
theorem wX5_wouldTrade_2_L {p : Program} {l : Launch} {e : Env} {R : Room} {s : State} {m : MethodId} {args : Array Value} {below : List Frame} {meth : Method} {c : Code} {Q : State → Prop} {D : va_G} {cI cJ cZ : ClassId} {ad : Nat → Nat} {A : Nat → Prop} (C : Cx p s m args c cX5_wouldTrade 7 wsX5_wouldTrade RX5 D vwCl (tyl cI cJ cZ) (wM cI cJ cZ ad) A R 1 23) {r : (Int32 × SH)} (hR : Rz p l e R s m args below meth c cX5_wouldTrade D vwCl (wM cI cJ cZ ad) A Q r) (N : Nat) : ∀ (n : Nat), ∀ (x1 : Int32) (x2 : Int32) (z : SH) (H : Heap) (locs : List Loc) (ls : Array Slot), fX5_wouldTrade_2_L N n x1 x2 z = some r → va_P D vwCl (wM cI cJ cZ ad z) H → va_S A s.heap H locs → lv_has ls 7 [(0, .ref (ad 0)), (1, .int x1), (2, .int x2)] → W p l e R s m args below meth c H locs 0 0 Q (F0 m 2 ls []) := by
  intro n
  induction n with
  | zero => intro x1 x2 z H locs ls h; exact nomatch (show (none : Option (Int32 × SH)) = some r from h)
  | succ n ih => intro x1 x2 z H locs ls h hP hS hl; exact wX5_wouldTrade_2 C hR N (fX5_wouldTrade_2_L N n) ih x1 x2 z (show fX5_wouldTrade_2 N (fX5_wouldTrade_2_L N n) x1 x2 z = some r from h) hP hS hl
set_option maxRecDepth 100000 in
set_option maxHeartbeats 4000000 in
theorem wX5_wouldTrade {p : Program} {l : Launch} {e : Env} {R : Room} {s : State} {m : MethodId} {args : Array Value} {below : List Frame} {meth : Method} {c : Code} {Q : State → Prop} {D : va_G} {cI cJ cZ : ClassId} {ad : Nat → Nat} {A : Nat → Prop} (C : Cx p s m args c cX5_wouldTrade 7 wsX5_wouldTrade RX5 D vwCl (tyl cI cJ cZ) (wM cI cJ cZ ad) A R 1 23) {r : (Int32 × SH)} (hR : Rz p l e R s m args below meth c cX5_wouldTrade D vwCl (wM cI cJ cZ ad) A Q r) (N : Nat) (a1 : Int32) (z0 : SH) {H : Heap} {locs : List Loc} {ls : Array Slot} (h : fX5_wouldTrade N a1 z0 = some r) (hP : va_P D vwCl (wM cI cJ cZ ad z0) H) (hS : va_S A s.heap H locs) (hl : lv_has ls 7 [(0, .ref (ad 0)), (1, .int a1)]) : W p l e R s m args below meth c H locs 0 0 Q (F0 m 0 ls []) := by
  unfold fX5_wouldTrade at h
  have hx := C.1.1
  have hb := C.1.2.1
  refine lv_iconst (v := 0) hx hb dX5_wouldTrade_0 (by decide) ?_
  refine lv_istore_n (lv' := [(2, .int 0), (0, .ref (ad 0)), (1, .int a1)]) hx hb dX5_wouldTrade_1 rfl hl (by decide) rfl (fun ls hl => ?_)
  exact wX5_wouldTrade_2_L C hR N N a1 0 z0 _ _ _ h hP hS (lv_sub hl [1, 2, 0] rfl)
theorem mX5_wouldTrade (l : Launch) (D : va_G) (cI cJ cZ : ClassId) (ad : Nat → Nat) (N : Nat) (a1 : Int32) (z0 : SH) : ∀ (q : (Int32 × SH)) (sz : Nat), fX5_wouldTrade N a1 z0 = some q → Met l yX5_wouldTrade wsX5_wouldTrade rmX5_wouldTrade (cP D vwCl (tyl cI cJ cZ) (wM cI cJ cZ ad z0) sz [.ref (ad 0), .int a1]) (cQi D vwCl (wM cI cJ cZ ad) z0 sz q) 0 0 (va_A (wM cI cJ cZ ad z0) sz) := by
  intro q sz h
  refine ofW_z (cc := cX5_wouldTrade) (maxL := 7) (by decide) rfl (wM_same cI cJ cZ ad) (Nat.le_of_ble_eq_true rfl) (fun p e s m below meth c ls hsz C hR hP hl => ?_)
  exact wX5_wouldTrade C hR N a1 z0 h hP va_S.rf hl
abbrev rmX5_rest : Room := { frames := 0, cells := 0, slots := 0, locals := 0 }
theorem fX5_rest_i146 : Cond.fieldLink RX5 146 (TX5 22).1 (TX5 22).2.1 (TX5 22).2.2.1 ∈ wsX5_rest := by decide +kernel
theorem fX5_rest_i42 : Cond.fieldLink RX5 42 (TX5 13).1 (TX5 13).2.1 (TX5 13).2.2.1 ∈ wsX5_rest := by decide +kernel
theorem fX5_rest_i48 : Cond.fieldLink RX5 48 (TX5 15).1 (TX5 15).2.1 (TX5 15).2.2.1 ∈ wsX5_rest := by decide +kernel
theorem fX5_rest_i51 : Cond.fieldLink RX5 51 (TX5 16).1 (TX5 16).2.1 (TX5 16).2.2.1 ∈ wsX5_rest := by decide +kernel
theorem fX5_rest_i54 : Cond.fieldLink RX5 54 (TX5 17).1 (TX5 17).2.1 (TX5 17).2.2.1 ∈ wsX5_rest := by decide +kernel
theorem fX5_rest_i57 : Cond.fieldLink RX5 57 (TX5 18).1 (TX5 18).2.1 (TX5 18).2.2.1 ∈ wsX5_rest := by decide +kernel
theorem fX5_rest_i66 : Cond.fieldLink RX5 66 (TX5 21).1 (TX5 21).2.1 (TX5 21).2.2.1 ∈ wsX5_rest := by decide +kernel
theorem iX5_rest_X5 : ∀ x ∈ wsX50, x ∈ wsX5_rest := by decide +kernel
set_option maxRecDepth 100000 in
set_option maxHeartbeats 4000000 in
theorem wX5_rest_52 {p : Program} {l : Launch} {e : Env} {R : Room} {s : State} {m : MethodId} {args : Array Value} {below : List Frame} {meth : Method} {c : Code} {Q : State → Prop} {D : va_G} {cI cJ cZ : ClassId} {ad : Nat → Nat} {A : Nat → Prop} (C : Cx p s m args c cX5_rest 2 wsX5_rest RX5 D vwCl (tyl cI cJ cZ) (wM cI cJ cZ ad) A R 0 0) {r : (Unit × SH)} (hR : Rv p l e R s m args below meth c cX5_rest D vwCl (wM cI cJ cZ ad) A Q r) (x1 : Int32) (t0 : Int32) (t1 : Int32) (z0 : SH) {H : Heap} {locs : List Loc} {ls : Array Slot} (h : fX5_rest_52 x1 t0 t1 z0 = some r) (hP : va_P D vwCl (wM cI cJ cZ ad z0) H) (hS : va_S A s.heap H locs) (hl : lv_has ls 2 [(0, .ref (ad 0)), (1, .int x1)]) : W p l e R s m args below meth c H locs 0 0 Q (F0 m 52 ls [.int t0, .int t1, .ref (ad 14)]) := by
  unfold fX5_rest_52 at h
  have hx := C.1.1
  have hb := C.1.2.1
  refine b_iast C hP hS h 14 (wM_14 cI cJ cZ ad z0) 0 rfl (wM_s14 cI cJ cZ ad z0 _ _) dX5_rest_52 (fun z1 _ _ h hP hS => ?_)
  refine lv_aload_n hx hb dX5_rest_53 rfl (lv_at hl 0 rfl) ?_
  refine b_getr C hP iX5_rest_X5 0 (wM_0 cI cJ cZ ad z1) rfl 21 (by decide) fX5_rest_i66 rfl rfl dX5_rest_54 ?_
  refine lv_iload_n hx hb dX5_rest_57 rfl (lv_at hl 1 rfl) ?_
  refine lv_aload_n hx hb dX5_rest_58 rfl (lv_at hl 0 rfl) ?_
  refine b_geti C hP h iX5_rest_X5 0 (wM_0 cI cJ cZ ad z1) rfl 22 (by decide) fX5_rest_i146 rfl rfl dX5_rest_59 (fun v2 h => ?_)
  refine b_iast C hP hS h 19 (wM_19 cI cJ cZ ad z1) 0 rfl (wM_s19 cI cJ cZ ad z1 _ _) dX5_rest_62 (fun z3 _ _ h hP hS => ?_)
  refine lv_aload_n hx hb dX5_rest_63 rfl (lv_at hl 0 rfl) ?_
  refine lv_dup hx hb dX5_rest_64 rfl ?_
  refine b_geti C hP h iX5_rest_X5 0 (wM_0 cI cJ cZ ad z3) rfl 22 (by decide) fX5_rest_i146 rfl rfl dX5_rest_65 (fun v4 h => ?_)
  refine lv_iconst (v := 1) hx hb dX5_rest_68 (by decide) ?_
  refine lv_iadd hx hb dX5_rest_69 ?_
  refine b_puti C hP hS h iX5_rest_X5 tyX5 tyX5_ok nmX5 0 (wM_0 cI cJ cZ ad z3) rfl 22 (by decide) fX5_rest_i146 rfl rfl rfl (Nat.le_of_ble_eq_true rfl) (wM_si3 cI cJ cZ ad z3 _) dX5_rest_70 (fun z5 _ _ h hP hS => ?_)
  exact hR 73 _ _ _ _ (Option.some.inj h).symm dX5_rest_73 hP hS
set_option maxRecDepth 100000 in
set_option maxHeartbeats 4000000 in
theorem wX5_rest_46 {p : Program} {l : Launch} {e : Env} {R : Room} {s : State} {m : MethodId} {args : Array Value} {below : List Frame} {meth : Method} {c : Code} {Q : State → Prop} {D : va_G} {cI cJ cZ : ClassId} {ad : Nat → Nat} {A : Nat → Prop} (C : Cx p s m args c cX5_rest 2 wsX5_rest RX5 D vwCl (tyl cI cJ cZ) (wM cI cJ cZ ad) A R 0 0) {r : (Unit × SH)} (hR : Rv p l e R s m args below meth c cX5_rest D vwCl (wM cI cJ cZ ad) A Q r) (x1 : Int32) (t0 : Int32) (z0 : SH) {H : Heap} {locs : List Loc} {ls : Array Slot} (h : fX5_rest_46 x1 t0 z0 = some r) (hP : va_P D vwCl (wM cI cJ cZ ad z0) H) (hS : va_S A s.heap H locs) (hl : lv_has ls 2 [(0, .ref (ad 0)), (1, .int x1)]) : W p l e R s m args below meth c H locs 0 0 Q (F0 m 46 ls [.int t0, .ref (ad 14)]) := by
  unfold fX5_rest_46 at h
  have hx := C.1.1
  have hb := C.1.2.1
  refine lv_aload_n hx hb dX5_rest_46 rfl (lv_at hl 0 rfl) ?_
  refine b_getr C hP iX5_rest_X5 0 (wM_0 cI cJ cZ ad z0) rfl 15 (by decide) fX5_rest_i48 rfl rfl dX5_rest_47 ?_
  refine lv_iload_n hx hb dX5_rest_50 rfl (lv_at hl 1 rfl) ?_
  refine b_iald C hP h 13 (wM_13 cI cJ cZ ad z0) 0 rfl dX5_rest_51 (fun v1 h => ?_)
  exact wX5_rest_52 C hR x1 v1 t0 z0 h hP hS (lv_sub hl [0, 1] rfl)
set_option maxRecDepth 100000 in
set_option maxHeartbeats 4000000 in
theorem wX5_rest {p : Program} {l : Launch} {e : Env} {R : Room} {s : State} {m : MethodId} {args : Array Value} {below : List Frame} {meth : Method} {c : Code} {Q : State → Prop} {D : va_G} {cI cJ cZ : ClassId} {ad : Nat → Nat} {A : Nat → Prop} (C : Cx p s m args c cX5_rest 2 wsX5_rest RX5 D vwCl (tyl cI cJ cZ) (wM cI cJ cZ ad) A R 0 0) {r : (Unit × SH)} (hR : Rv p l e R s m args below meth c cX5_rest D vwCl (wM cI cJ cZ ad) A Q r) (a1 : Int32) (z0 : SH) {H : Heap} {locs : List Loc} {ls : Array Slot} (h : fX5_rest a1 z0 = some r) (hP : va_P D vwCl (wM cI cJ cZ ad z0) H) (hS : va_S A s.heap H locs) (hl : lv_has ls 2 [(0, .ref (ad 0)), (1, .int a1)]) : W p l e R s m args below meth c H locs 0 0 Q (F0 m 0 ls []) := by
  unfold fX5_rest at h
  have hx := C.1.1
  have hb := C.1.2.1
  refine lv_aload_n hx hb dX5_rest_0 rfl (lv_at hl 0 rfl) ?_
  refine b_getr C hP iX5_rest_X5 0 (wM_0 cI cJ cZ ad z0) rfl 18 (by decide) fX5_rest_i57 rfl rfl dX5_rest_1 ?_
  refine lv_iload_n hx hb dX5_rest_4 rfl (lv_at hl 1 rfl) ?_
  refine lv_iconst (v := 0) hx hb dX5_rest_5 (by decide) ?_
  refine b_iast C hP hS h 16 (wM_16 cI cJ cZ ad z0) 0 rfl (wM_s16 cI cJ cZ ad z0 _ _) dX5_rest_6 (fun z1 _ _ h hP hS => ?_)
  refine lv_aload_n hx hb dX5_rest_7 rfl (lv_at hl 0 rfl) ?_
  refine b_getr C hP iX5_rest_X5 0 (wM_0 cI cJ cZ ad z1) rfl 16 (by decide) fX5_rest_i51 rfl rfl dX5_rest_8 ?_
  refine lv_iload_n hx hb dX5_rest_11 rfl (lv_at hl 1 rfl) ?_
  refine lv_aload_n hx hb dX5_rest_12 rfl (lv_at hl 0 rfl) ?_
  refine b_getr C hP iX5_rest_X5 0 (wM_0 cI cJ cZ ad z1) rfl 13 (by decide) fX5_rest_i42 rfl rfl dX5_rest_13 ?_
  refine lv_iload_n hx hb dX5_rest_16 rfl (lv_at hl 1 rfl) ?_
  refine b_iald C hP h 11 (wM_11 cI cJ cZ ad z1) 0 rfl dX5_rest_17 (fun v2 h => ?_)
  refine lv_iconst (v := 4) hx hb dX5_rest_18 (by decide) ?_
  refine lv_icmp_ne (tgt := 46) hx hb dX5_rest_19 (by decide) (fun c1 => ?_) (fun c1 => ?_)
  · replace h := (ite_h h).2 c1
    exact wX5_rest_46 C hR a1 a1 z1 h hP hS (lv_sub hl [0, 1] rfl)
  · replace h := (ite_h h).1 c1
    refine lv_aload_n hx hb dX5_rest_22 rfl (lv_at hl 0 rfl) ?_
    refine b_getr C hP iX5_rest_X5 0 (wM_0 cI cJ cZ ad z1) rfl 17 (by decide) fX5_rest_i54 rfl rfl dX5_rest_23 ?_
    refine lv_iload_n hx hb dX5_rest_26 rfl (lv_at hl 1 rfl) ?_
    refine b_iald C hP h 15 (wM_15 cI cJ cZ ad z1) 0 rfl dX5_rest_27 (fun v3 h => ?_)
    refine lv_aload_n hx hb dX5_rest_28 rfl (lv_at hl 0 rfl) ?_
    refine b_getr C hP iX5_rest_X5 0 (wM_0 cI cJ cZ ad z1) rfl 15 (by decide) fX5_rest_i48 rfl rfl dX5_rest_29 ?_
    refine lv_iload_n hx hb dX5_rest_32 rfl (lv_at hl 1 rfl) ?_
    refine b_iald C hP h 13 (wM_13 cI cJ cZ ad z1) 0 rfl dX5_rest_33 (fun v4 h => ?_)
    refine lv_icmp_ge (tgt := 46) hx hb dX5_rest_34 (by decide) (fun c1 => ?_) (fun c1 => ?_)
    · replace h := (ite_h h).1 c1
      exact wX5_rest_46 C hR a1 a1 z1 h hP hS (lv_sub hl [0, 1] rfl)
    · replace h := (ite_h h).2 c1
      refine lv_aload_n hx hb dX5_rest_37 rfl (lv_at hl 0 rfl) ?_
      refine b_getr C hP iX5_rest_X5 0 (wM_0 cI cJ cZ ad z1) rfl 17 (by decide) fX5_rest_i54 rfl rfl dX5_rest_38 ?_
      refine lv_iload_n hx hb dX5_rest_41 rfl (lv_at hl 1 rfl) ?_
      refine b_iald C hP h 15 (wM_15 cI cJ cZ ad z1) 0 rfl dX5_rest_42 (fun v5 h => ?_)
      refine lv_goto (tgt := 52) hx hb dX5_rest_43 (by decide) ?_
      exact wX5_rest_52 C hR a1 v5 a1 z1 h hP hS (lv_sub hl [0, 1] rfl)
theorem mX5_rest (l : Launch) (D : va_G) (cI cJ cZ : ClassId) (ad : Nat → Nat) (a1 : Int32) (z0 : SH) : ∀ (q : (Unit × SH)) (sz : Nat), fX5_rest a1 z0 = some q → Met l yX5_rest wsX5_rest rmX5_rest (cP D vwCl (tyl cI cJ cZ) (wM cI cJ cZ ad z0) sz [.ref (ad 0), .int a1]) (cQv D vwCl (wM cI cJ cZ ad) z0 sz q) 0 0 (va_A (wM cI cJ cZ ad z0) sz) := by
  intro q sz h
  refine ofW_v (cc := cX5_rest) (maxL := 2) (by decide) rfl (wM_same cI cJ cZ ad) (Nat.le_of_ble_eq_true rfl) (fun p e s m below meth c ls hsz C hR hP hl => ?_)
  exact wX5_rest C hR a1 z0 h hP va_S.rf hl
abbrev rmX5_finish : Room := { frames := 3, cells := 0, slots := 0, locals := 65 }
theorem fX5_finish_i48 : Cond.fieldLink RX5 48 (TX5 15).1 (TX5 15).2.1 (TX5 15).2.2.1 ∈ wsX5_finish := by decide +kernel
theorem fX5_finish_i57 : Cond.fieldLink RX5 57 (TX5 18).1 (TX5 18).2.1 (TX5 18).2.2.1 ∈ wsX5_finish := by decide +kernel
theorem iX5_finish_X5 : ∀ x ∈ wsX50, x ∈ wsX5_finish := by decide +kernel
set_option maxRecDepth 100000 in
set_option maxHeartbeats 4000000 in
theorem wX5_finish_36 {p : Program} {l : Launch} {e : Env} {R : Room} {s : State} {m : MethodId} {args : Array Value} {below : List Frame} {meth : Method} {c : Code} {Q : State → Prop} {D : va_G} {cI cJ cZ : ClassId} {ad : Nat → Nat} {A : Nat → Prop} (C : Cx p s m args c cX5_finish 3 wsX5_finish RX5 D vwCl (tyl cI cJ cZ) (wM cI cJ cZ ad) A R 3 65) {r : (Unit × SH)} (hR : Rv p l e R s m args below meth c cX5_finish D vwCl (wM cI cJ cZ ad) A Q r) (z0 : SH) {H : Heap} {locs : List Loc} {ls : Array Slot} (h : fX5_finish_36 z0 = some r) (hP : va_P D vwCl (wM cI cJ cZ ad z0) H) (hS : va_S A s.heap H locs) (hl : lv_has ls 3 []) : W p l e R s m args below meth c H locs 0 0 Q (F0 m 36 ls []) := by
  unfold fX5_finish_36 at h
  have hx := C.1.1
  have hb := C.1.2.1
  exact hR 36 _ _ _ _ (Option.some.inj h).symm dX5_finish_36 hP hS
set_option maxRecDepth 100000 in
set_option maxHeartbeats 4000000 in
theorem wX5_finish {p : Program} {l : Launch} {e : Env} {R : Room} {s : State} {m : MethodId} {args : Array Value} {below : List Frame} {meth : Method} {c : Code} {Q : State → Prop} {D : va_G} {cI cJ cZ : ClassId} {ad : Nat → Nat} {A : Nat → Prop} (C : Cx p s m args c cX5_finish 3 wsX5_finish RX5 D vwCl (tyl cI cJ cZ) (wM cI cJ cZ ad) A R 3 65) {r : (Unit × SH)} (hR : Rv p l e R s m args below meth c cX5_finish D vwCl (wM cI cJ cZ ad) A Q r) (a1 : Int32) (a2 : Int32) (z0 : SH) {H : Heap} {locs : List Loc} {ls : Array Slot} (h : fX5_finish a1 a2 z0 = some r) (hP : va_P D vwCl (wM cI cJ cZ ad z0) H) (hS : va_S A s.heap H locs) (hl : lv_has ls 3 [(0, .ref (ad 0)), (1, .int a1), (2, .int a2)]) : W p l e R s m args below meth c H locs 0 0 Q (F0 m 0 ls []) := by
  unfold fX5_finish at h
  have hx := C.1.1
  have hb := C.1.2.1
  refine lv_aload_n hx hb dX5_finish_0 rfl (lv_at hl 0 rfl) ?_
  refine b_getr C hP iX5_finish_X5 0 (wM_0 cI cJ cZ ad z0) rfl 15 (by decide) fX5_finish_i48 rfl rfl dX5_finish_1 ?_
  refine lv_iload_n hx hb dX5_finish_4 rfl (lv_at hl 1 rfl) ?_
  refine b_iald C hP h 13 (wM_13 cI cJ cZ ad z0) 0 rfl dX5_finish_5 (fun v1 h => ?_)
  refine lv_if_ne (tgt := 19) hx hb dX5_finish_6 (by decide) (fun c1 => ?_) (fun c1 => ?_)
  · replace h := (ite_h h).2 c1
    refine lv_iload_n hx hb dX5_finish_19 rfl (lv_at hl 2 rfl) ?_
    refine lv_if_eq (tgt := 31) hx hb dX5_finish_20 (by decide) (fun c1 => ?_) (fun c1 => ?_)
    · replace h := (ite_h h).1 c1
      refine lv_aload_n hx hb dX5_finish_31 rfl (lv_at hl 0 rfl) ?_
      refine lv_iload_n hx hb dX5_finish_32 rfl (lv_at hl 1 rfl) ?_
      refine b_callVv (As := [.int a1]) (rest := []) C hP hS h (mX5_cancelled l D cI cJ cZ ad a1 z0) (cwV 1 C.1.2.2.2.2 gX5_finish_X5_cancelled rfl rfl rfl (by decide +kernel) ⟨Nat.le_trans (Nat.le_of_ble_eq_true rfl) C.2.2.2.2.1, Nat.le_trans (Nat.le_of_ble_eq_true rfl) C.2.2.2.2.2⟩) (va_recv C.2.1 hP (ci := 5) (q0 := 0) rfl (wM_0 cI cJ cZ ad z0)) rfl hl.1 rfl (Nat.le_of_ble_eq_true rfl) dX5_finish_33 (fun _ z2 _ _ h hP hS => ?_)
      exact wX5_finish_36 C hR z2 h hP hS (lv_sub hl [] rfl)
    · replace h := (ite_h h).2 c1
      refine lv_aload_n hx hb dX5_finish_23 rfl (lv_at hl 0 rfl) ?_
      refine lv_iload_n hx hb dX5_finish_24 rfl (lv_at hl 1 rfl) ?_
      refine b_callVv (As := [.int a1]) (rest := []) C hP hS h (mX5_rest l D cI cJ cZ ad a1 z0) (cwV 1 C.1.2.2.2.2 gX5_finish_X5_rest rfl rfl rfl (by decide +kernel) ⟨Nat.le_trans (Nat.le_of_ble_eq_true rfl) C.2.2.2.2.1, Nat.le_trans (Nat.le_of_ble_eq_true rfl) C.2.2.2.2.2⟩) (va_recv C.2.1 hP (ci := 5) (q0 := 0) rfl (wM_0 cI cJ cZ ad z0)) rfl hl.1 rfl (Nat.le_of_ble_eq_true rfl) dX5_finish_25 (fun _ z3 _ _ h hP hS => ?_)
      refine lv_goto (tgt := 36) hx hb dX5_finish_28 (by decide) ?_
      exact wX5_finish_36 C hR z3 h hP hS (lv_sub hl [] rfl)
  · replace h := (ite_h h).1 c1
    refine lv_aload_n hx hb dX5_finish_9 rfl (lv_at hl 0 rfl) ?_
    refine b_getr C hP iX5_finish_X5 0 (wM_0 cI cJ cZ ad z0) rfl 18 (by decide) fX5_finish_i57 rfl rfl dX5_finish_10 ?_
    refine lv_iload_n hx hb dX5_finish_13 rfl (lv_at hl 1 rfl) ?_
    refine lv_iconst (v := 2) hx hb dX5_finish_14 (by decide) ?_
    refine b_iast C hP hS h 16 (wM_16 cI cJ cZ ad z0) 0 rfl (wM_s16 cI cJ cZ ad z0 _ _) dX5_finish_15 (fun z4 _ _ h hP hS => ?_)
    refine lv_goto (tgt := 36) hx hb dX5_finish_16 (by decide) ?_
    exact wX5_finish_36 C hR z4 h hP hS (lv_sub hl [] rfl)
theorem mX5_finish (l : Launch) (D : va_G) (cI cJ cZ : ClassId) (ad : Nat → Nat) (a1 : Int32) (a2 : Int32) (z0 : SH) : ∀ (q : (Unit × SH)) (sz : Nat), fX5_finish a1 a2 z0 = some q → Met l yX5_finish wsX5_finish rmX5_finish (cP D vwCl (tyl cI cJ cZ) (wM cI cJ cZ ad z0) sz [.ref (ad 0), .int a1, .int a2]) (cQv D vwCl (wM cI cJ cZ ad) z0 sz q) 0 0 (va_A (wM cI cJ cZ ad z0) sz) := by
  intro q sz h
  refine ofW_v (cc := cX5_finish) (maxL := 3) (by decide) rfl (wM_same cI cJ cZ ad) (Nat.le_of_ble_eq_true rfl) (fun p e s m below meth c ls hsz C hR hP hl => ?_)
  exact wX5_finish C hR a1 a2 z0 h hP va_S.rf hl
abbrev rmX5_act : Room := { frames := 4, cells := 0, slots := 0, locals := 95 }
theorem fX5_act_i36 : Cond.fieldLink RX5 36 (TX5 11).1 (TX5 11).2.1 (TX5 11).2.2.1 ∈ wsX5_act := by decide +kernel
theorem fX5_act_i39 : Cond.fieldLink RX5 39 (TX5 12).1 (TX5 12).2.1 (TX5 12).2.2.1 ∈ wsX5_act := by decide +kernel
theorem fX5_act_i42 : Cond.fieldLink RX5 42 (TX5 13).1 (TX5 13).2.1 (TX5 13).2.2.1 ∈ wsX5_act := by decide +kernel
theorem fX5_act_i57 : Cond.fieldLink RX5 57 (TX5 18).1 (TX5 18).2.1 (TX5 18).2.2.1 ∈ wsX5_act := by decide +kernel
theorem iX5_act_X5 : ∀ x ∈ wsX50, x ∈ wsX5_act := by decide +kernel
set_option maxRecDepth 100000 in
set_option maxHeartbeats 4000000 in
theorem wX5_act_125 {p : Program} {l : Launch} {e : Env} {R : Room} {s : State} {m : MethodId} {args : Array Value} {below : List Frame} {meth : Method} {c : Code} {Q : State → Prop} {D : va_G} {cI cJ cZ : ClassId} {ad : Nat → Nat} {A : Nat → Prop} (C : Cx p s m args c cX5_act 5 wsX5_act RX5 D vwCl (tyl cI cJ cZ) (wM cI cJ cZ ad) A R 4 95) {r : (Unit × SH)} (hR : Rv p l e R s m args below meth c cX5_act D vwCl (wM cI cJ cZ ad) A Q r) (N : Nat) (z0 : SH) {H : Heap} {locs : List Loc} {ls : Array Slot} (h : fX5_act_125 N z0 = some r) (hP : va_P D vwCl (wM cI cJ cZ ad z0) H) (hS : va_S A s.heap H locs) (hl : lv_has ls 5 []) : W p l e R s m args below meth c H locs 0 0 Q (F0 m 125 ls []) := by
  unfold fX5_act_125 at h
  have hx := C.1.1
  have hb := C.1.2.1
  exact hR 125 _ _ _ _ (Option.some.inj h).symm dX5_act_125 hP hS
set_option maxRecDepth 100000 in
set_option maxHeartbeats 4000000 in
theorem wX5_act_122 {p : Program} {l : Launch} {e : Env} {R : Room} {s : State} {m : MethodId} {args : Array Value} {below : List Frame} {meth : Method} {c : Code} {Q : State → Prop} {D : va_G} {cI cJ cZ : ClassId} {ad : Nat → Nat} {A : Nat → Prop} (C : Cx p s m args c cX5_act 5 wsX5_act RX5 D vwCl (tyl cI cJ cZ) (wM cI cJ cZ ad) A R 4 95) {r : (Unit × SH)} (hR : Rv p l e R s m args below meth c cX5_act D vwCl (wM cI cJ cZ ad) A Q r) (N : Nat) (t0 : Int32) (t1 : Int32) (z0 : SH) {H : Heap} {locs : List Loc} {ls : Array Slot} (h : fX5_act_122 N t0 t1 z0 = some r) (hP : va_P D vwCl (wM cI cJ cZ ad z0) H) (hS : va_S A s.heap H locs) (hl : lv_has ls 5 []) : W p l e R s m args below meth c H locs 0 0 Q (F0 m 122 ls [.int t0, .int t1, .ref (ad 0)]) := by
  unfold fX5_act_122 at h
  have hx := C.1.1
  have hb := C.1.2.1
  refine b_callVv (As := [.int t1, .int t0]) (rest := []) C hP hS h (mX5_finish l D cI cJ cZ ad t1 t0 z0) (cwV 2 C.1.2.2.2.2 gX5_act_X5_finish rfl rfl rfl (by decide +kernel) ⟨Nat.le_trans (Nat.le_of_ble_eq_true rfl) C.2.2.2.2.1, Nat.le_trans (Nat.le_of_ble_eq_true rfl) C.2.2.2.2.2⟩) (va_recv C.2.1 hP (ci := 5) (q0 := 0) rfl (wM_0 cI cJ cZ ad z0)) rfl hl.1 rfl (Nat.le_of_ble_eq_true rfl) dX5_act_122 (fun _ z1 _ _ h hP hS => ?_)
  exact wX5_act_125 C hR N z1 h hP hS (lv_sub hl [] rfl)
set_option maxRecDepth 100000 in
set_option maxHeartbeats 4000000 in
theorem wX5_act_121 {p : Program} {l : Launch} {e : Env} {R : Room} {s : State} {m : MethodId} {args : Array Value} {below : List Frame} {meth : Method} {c : Code} {Q : State → Prop} {D : va_G} {cI cJ cZ : ClassId} {ad : Nat → Nat} {A : Nat → Prop} (C : Cx p s m args c cX5_act 5 wsX5_act RX5 D vwCl (tyl cI cJ cZ) (wM cI cJ cZ ad) A R 4 95) {r : (Unit × SH)} (hR : Rv p l e R s m args below meth c cX5_act D vwCl (wM cI cJ cZ ad) A Q r) (N : Nat) (t0 : Int32) (z0 : SH) {H : Heap} {locs : List Loc} {ls : Array Slot} (h : fX5_act_121 N t0 z0 = some r) (hP : va_P D vwCl (wM cI cJ cZ ad z0) H) (hS : va_S A s.heap H locs) (hl : lv_has ls 5 []) : W p l e R s m args below meth c H locs 0 0 Q (F0 m 121 ls [.int t0, .ref (ad 0)]) := by
  unfold fX5_act_121 at h
  have hx := C.1.1
  have hb := C.1.2.1
  refine lv_iconst (v := 0) hx hb dX5_act_121 (by decide) ?_
  exact wX5_act_122 C hR N 0 t0 z0 h hP hS (lv_sub hl [] rfl)
set_option maxRecDepth 100000 in
set_option maxHeartbeats 4000000 in
theorem wX5_act_117 {p : Program} {l : Launch} {e : Env} {R : Room} {s : State} {m : MethodId} {args : Array Value} {below : List Frame} {meth : Method} {c : Code} {Q : State → Prop} {D : va_G} {cI cJ cZ : ClassId} {ad : Nat → Nat} {A : Nat → Prop} (C : Cx p s m args c cX5_act 5 wsX5_act RX5 D vwCl (tyl cI cJ cZ) (wM cI cJ cZ ad) A R 4 95) {r : (Unit × SH)} (hR : Rv p l e R s m args below meth c cX5_act D vwCl (wM cI cJ cZ ad) A Q r) (N : Nat) (t0 : Int32) (z0 : SH) {H : Heap} {locs : List Loc} {ls : Array Slot} (h : fX5_act_117 N t0 z0 = some r) (hP : va_P D vwCl (wM cI cJ cZ ad z0) H) (hS : va_S A s.heap H locs) (hl : lv_has ls 5 []) : W p l e R s m args below meth c H locs 0 0 Q (F0 m 117 ls [.int t0, .ref (ad 0)]) := by
  unfold fX5_act_117 at h
  have hx := C.1.1
  have hb := C.1.2.1
  refine lv_iconst (v := 1) hx hb dX5_act_117 (by decide) ?_
  refine lv_goto (tgt := 122) hx hb dX5_act_118 (by decide) ?_
  exact wX5_act_122 C hR N 1 t0 z0 h hP hS (lv_sub hl [] rfl)
set_option maxRecDepth 100000 in
set_option maxHeartbeats 4000000 in
theorem wX5_act_94 {p : Program} {l : Launch} {e : Env} {R : Room} {s : State} {m : MethodId} {args : Array Value} {below : List Frame} {meth : Method} {c : Code} {Q : State → Prop} {D : va_G} {cI cJ cZ : ClassId} {ad : Nat → Nat} {A : Nat → Prop} (C : Cx p s m args c cX5_act 5 wsX5_act RX5 D vwCl (tyl cI cJ cZ) (wM cI cJ cZ ad) A R 4 95) {r : (Unit × SH)} (hR : Rv p l e R s m args below meth c cX5_act D vwCl (wM cI cJ cZ ad) A Q r) (N : Nat) (x1 : Int32) (x2 : Int32) (z0 : SH) {H : Heap} {locs : List Loc} {ls : Array Slot} (h : fX5_act_94 N x1 x2 z0 = some r) (hP : va_P D vwCl (wM cI cJ cZ ad z0) H) (hS : va_S A s.heap H locs) (hl : lv_has ls 5 [(0, .ref (ad 0)), (1, .int x1), (2, .int x2)]) : W p l e R s m args below meth c H locs 0 0 Q (F0 m 94 ls []) := by
  unfold fX5_act_94 at h
  have hx := C.1.1
  have hb := C.1.2.1
  refine lv_aload_n hx hb dX5_act_94 rfl (lv_at hl 0 rfl) ?_
  refine lv_iload_n hx hb dX5_act_95 rfl (lv_at hl 1 rfl) ?_
  refine b_callVi (As := [.int x1]) (rest := []) C hP hS h (mX5_match l D cI cJ cZ ad N x1 z0) (cwV 1 C.1.2.2.2.2 gX5_act_X5_match rfl rfl rfl (by decide +kernel) ⟨Nat.le_trans (Nat.le_of_ble_eq_true rfl) C.2.2.2.2.1, Nat.le_trans (Nat.le_of_ble_eq_true rfl) C.2.2.2.2.2⟩) (va_recv C.2.1 hP (ci := 5) (q0 := 0) rfl (wM_0 cI cJ cZ ad z0)) rfl hl.1 rfl (Nat.le_of_ble_eq_true rfl) dX5_act_96 (fun v2 z1 _ _ h hP hS => ?_)
  refine lv_istore (lv' := [(4, .int v2), (0, .ref (ad 0)), (1, .int x1), (2, .int x2)]) hx hb dX5_act_99 hl (by decide) rfl (fun ls hl => ?_)
  refine lv_aload_n hx hb dX5_act_101 rfl (lv_at hl 1 rfl) ?_
  refine lv_iload_n hx hb dX5_act_102 rfl (lv_at hl 2 rfl) ?_
  refine lv_iload hx hb dX5_act_103 (lv_at hl 0 rfl) ?_
  refine lv_if_ne (tgt := 121) hx hb dX5_act_105 (by decide) (fun c1 => ?_) (fun c1 => ?_)
  · replace h := (ite_h h).2 c1
    exact wX5_act_121 C hR N x1 z1 h hP hS (lv_sub hl [] rfl)
  · replace h := (ite_h h).1 c1
    refine lv_iload_n hx hb dX5_act_108 rfl (lv_at hl 3 rfl) ?_
    refine lv_if_eq (tgt := 117) hx hb dX5_act_109 (by decide) (fun c1 => ?_) (fun c1 => ?_)
    · replace h := (ite_h h).1 c1
      exact wX5_act_117 C hR N x1 z1 h hP hS (lv_sub hl [] rfl)
    · replace h := (ite_h h).2 c1
      refine lv_iload_n hx hb dX5_act_112 rfl (lv_at hl 3 rfl) ?_
      refine lv_iconst (v := 4) hx hb dX5_act_113 (by decide) ?_
      refine lv_icmp_ne (tgt := 121) hx hb dX5_act_114 (by decide) (fun c1 => ?_) (fun c1 => ?_)
      · replace h := (ite_h h).2 c1
        exact wX5_act_121 C hR N x1 z1 h hP hS (lv_sub hl [] rfl)
      · replace h := (ite_h h).1 c1
        exact wX5_act_117 C hR N x1 z1 h hP hS (lv_sub hl [] rfl)
set_option maxRecDepth 100000 in
set_option maxHeartbeats 4000000 in
theorem wX5_act_67 {p : Program} {l : Launch} {e : Env} {R : Room} {s : State} {m : MethodId} {args : Array Value} {below : List Frame} {meth : Method} {c : Code} {Q : State → Prop} {D : va_G} {cI cJ cZ : ClassId} {ad : Nat → Nat} {A : Nat → Prop} (C : Cx p s m args c cX5_act 5 wsX5_act RX5 D vwCl (tyl cI cJ cZ) (wM cI cJ cZ ad) A R 4 95) {r : (Unit × SH)} (hR : Rv p l e R s m args below meth c cX5_act D vwCl (wM cI cJ cZ ad) A Q r) (N : Nat) (t0 : Int32) (t1 : Int32) (z0 : SH) {H : Heap} {locs : List Loc} {ls : Array Slot} (h : fX5_act_67 N t0 t1 z0 = some r) (hP : va_P D vwCl (wM cI cJ cZ ad z0) H) (hS : va_S A s.heap H locs) (hl : lv_has ls 5 []) : W p l e R s m args below meth c H locs 0 0 Q (F0 m 67 ls [.int t0, .int t1, .ref (ad 0)]) := by
  unfold fX5_act_67 at h
  have hx := C.1.1
  have hb := C.1.2.1
  refine b_callVv (As := [.int t1, .int t0]) (rest := []) C hP hS h (mX5_finish l D cI cJ cZ ad t1 t0 z0) (cwV 2 C.1.2.2.2.2 gX5_act_X5_finish rfl rfl rfl (by decide +kernel) ⟨Nat.le_trans (Nat.le_of_ble_eq_true rfl) C.2.2.2.2.1, Nat.le_trans (Nat.le_of_ble_eq_true rfl) C.2.2.2.2.2⟩) (va_recv C.2.1 hP (ci := 5) (q0 := 0) rfl (wM_0 cI cJ cZ ad z0)) rfl hl.1 rfl (Nat.le_of_ble_eq_true rfl) dX5_act_67 (fun _ z1 _ _ h hP hS => ?_)
  refine lv_goto (tgt := 125) hx hb dX5_act_70 (by decide) ?_
  exact wX5_act_125 C hR N z1 h hP hS (lv_sub hl [] rfl)
set_option maxRecDepth 100000 in
set_option maxHeartbeats 4000000 in
theorem wX5_act_62 {p : Program} {l : Launch} {e : Env} {R : Room} {s : State} {m : MethodId} {args : Array Value} {below : List Frame} {meth : Method} {c : Code} {Q : State → Prop} {D : va_G} {cI cJ cZ : ClassId} {ad : Nat → Nat} {A : Nat → Prop} (C : Cx p s m args c cX5_act 5 wsX5_act RX5 D vwCl (tyl cI cJ cZ) (wM cI cJ cZ ad) A R 4 95) {r : (Unit × SH)} (hR : Rv p l e R s m args below meth c cX5_act D vwCl (wM cI cJ cZ ad) A Q r) (N : Nat) (t0 : Int32) (z0 : SH) {H : Heap} {locs : List Loc} {ls : Array Slot} (h : fX5_act_62 N t0 z0 = some r) (hP : va_P D vwCl (wM cI cJ cZ ad z0) H) (hS : va_S A s.heap H locs) (hl : lv_has ls 5 []) : W p l e R s m args below meth c H locs 0 0 Q (F0 m 62 ls [.int t0, .ref (ad 0)]) := by
  unfold fX5_act_62 at h
  have hx := C.1.1
  have hb := C.1.2.1
  refine lv_iconst (v := 1) hx hb dX5_act_62 (by decide) ?_
  refine lv_goto (tgt := 67) hx hb dX5_act_63 (by decide) ?_
  exact wX5_act_67 C hR N 1 t0 z0 h hP hS (lv_sub hl [] rfl)
set_option maxRecDepth 100000 in
set_option maxHeartbeats 4000000 in
theorem wX5_act {p : Program} {l : Launch} {e : Env} {R : Room} {s : State} {m : MethodId} {args : Array Value} {below : List Frame} {meth : Method} {c : Code} {Q : State → Prop} {D : va_G} {cI cJ cZ : ClassId} {ad : Nat → Nat} {A : Nat → Prop} (C : Cx p s m args c cX5_act 5 wsX5_act RX5 D vwCl (tyl cI cJ cZ) (wM cI cJ cZ ad) A R 4 95) {r : (Unit × SH)} (hR : Rv p l e R s m args below meth c cX5_act D vwCl (wM cI cJ cZ ad) A Q r) (N : Nat) (a1 : Int32) (z0 : SH) {H : Heap} {locs : List Loc} {ls : Array Slot} (h : fX5_act N a1 z0 = some r) (hP : va_P D vwCl (wM cI cJ cZ ad z0) H) (hS : va_S A s.heap H locs) (hl : lv_has ls 5 [(0, .ref (ad 0)), (1, .int a1)]) : W p l e R s m args below meth c H locs 0 0 Q (F0 m 0 ls []) := by
  unfold fX5_act at h
  have hx := C.1.1
  have hb := C.1.2.1
  refine lv_aload_n hx hb dX5_act_0 rfl (lv_at hl 0 rfl) ?_
  refine b_getr C hP iX5_act_X5 0 (wM_0 cI cJ cZ ad z0) rfl 13 (by decide) fX5_act_i42 rfl rfl dX5_act_1 ?_
  refine lv_iload_n hx hb dX5_act_4 rfl (lv_at hl 1 rfl) ?_
  refine b_iald C hP h 11 (wM_11 cI cJ cZ ad z0) 0 rfl dX5_act_5 (fun v1 h => ?_)
  refine lv_istore_n (lv' := [(2, .int v1), (0, .ref (ad 0)), (1, .int a1)]) hx hb dX5_act_6 rfl hl (by decide) rfl (fun ls hl => ?_)
  refine lv_aload_n hx hb dX5_act_7 rfl (lv_at hl 1 rfl) ?_
  refine lv_aload_n hx hb dX5_act_8 rfl (lv_at hl 1 rfl) ?_
  refine b_getr C hP iX5_act_X5 0 (wM_0 cI cJ cZ ad z0) rfl 11 (by decide) fX5_act_i36 rfl rfl dX5_act_9 ?_
  refine lv_iload_n hx hb dX5_act_12 rfl (lv_at hl 2 rfl) ?_
  refine b_iald C hP h 9 (wM_9 cI cJ cZ ad z0) 0 rfl dX5_act_13 (fun v2 h => ?_)
  refine lv_iconst (v := 1) hx hb dX5_act_14 (by decide) ?_
  refine lv_aload_n hx hb dX5_act_15 rfl (lv_at hl 1 rfl) ?_
  refine b_getr C hP iX5_act_X5 0 (wM_0 cI cJ cZ ad z0) rfl 12 (by decide) fX5_act_i39 rfl rfl dX5_act_16 ?_
  refine lv_iload_n hx hb dX5_act_19 rfl (lv_at hl 2 rfl) ?_
  refine b_iald C hP h 10 (wM_10 cI cJ cZ ad z0) 0 rfl dX5_act_20 (fun v3 h => ?_)
  refine lv_isub hx hb dX5_act_21 ?_
  refine b_callVi (As := [.int v2, .int (1 - v3)]) (rest := []) C hP hS h (mX5_first l D cI cJ cZ ad N v2 (1 - v3) z0) (cwV 2 C.1.2.2.2.2 gX5_act_X5_first rfl rfl rfl (by decide +kernel) ⟨Nat.le_trans (Nat.le_of_ble_eq_true rfl) C.2.2.2.2.1, Nat.le_trans (Nat.le_of_ble_eq_true rfl) C.2.2.2.2.2⟩) (va_recv C.2.1 hP (ci := 5) (q0 := 0) rfl (wM_0 cI cJ cZ ad z0)) rfl hl.1 rfl (Nat.le_of_ble_eq_true rfl) dX5_act_22 (fun v5 z4 _ _ h hP hS => ?_)
  refine lv_istore_n (lv' := [(3, .int v5), (2, .int v1), (0, .ref (ad 0)), (1, .int a1)]) hx hb dX5_act_25 rfl hl (by decide) rfl (fun ls hl => ?_)
  refine lv_iload_n hx hb dX5_act_26 rfl (lv_at hl 1 rfl) ?_
  refine lv_iconst (v := 5) hx hb dX5_act_27 (by decide) ?_
  refine lv_icmp_ne (tgt := 41) hx hb dX5_act_28 (by decide) (fun c1 => ?_) (fun c1 => ?_)
  · replace h := (ite_h h).2 c1
    refine lv_iload_n hx hb dX5_act_41 rfl (lv_at hl 1 rfl) ?_
    refine lv_iconst (v := 3) hx hb dX5_act_42 (by decide) ?_
    refine lv_icmp_ne (tgt := 73) hx hb dX5_act_43 (by decide) (fun c1 => ?_) (fun c1 => ?_)
    · replace h := (ite_h h).2 c1
      refine lv_iload_n hx hb dX5_act_73 rfl (lv_at hl 1 rfl) ?_
      refine lv_iconst (v := 2) hx hb dX5_act_74 (by decide) ?_
      refine lv_icmp_ne (tgt := 94) hx hb dX5_act_75 (by decide) (fun c1 => ?_) (fun c1 => ?_)
      · replace h := (ite_h h).2 c1
        exact wX5_act_94 C hR N a1 v1 z4 h hP hS (lv_sub hl [2, 3, 1] rfl)
      · replace h := (ite_h h).1 c1
        refine lv_aload_n hx hb dX5_act_78 rfl (lv_at hl 2 rfl) ?_
        refine lv_iload_n hx hb dX5_act_79 rfl (lv_at hl 3 rfl) ?_
        refine b_callVi (As := [.int a1]) (rest := []) C hP hS h (mX5_wouldTrade l D cI cJ cZ ad N a1 z4) (cwV 1 C.1.2.2.2.2 gX5_act_X5_wouldTrade rfl rfl rfl (by decide +kernel) ⟨Nat.le_trans (Nat.le_of_ble_eq_true rfl) C.2.2.2.2.1, Nat.le_trans (Nat.le_of_ble_eq_true rfl) C.2.2.2.2.2⟩) (va_recv C.2.1 hP (ci := 5) (q0 := 0) rfl (wM_0 cI cJ cZ ad z4)) rfl hl.1 rfl (Nat.le_of_ble_eq_true rfl) dX5_act_80 (fun v7 z6 _ _ h hP hS => ?_)
        refine lv_if_ne (tgt := 94) hx hb dX5_act_83 (by decide) (fun c1 => ?_) (fun c1 => ?_)
        · replace h := (ite_h h).2 c1
          exact wX5_act_94 C hR N a1 v1 z6 h hP hS (lv_sub hl [2, 3, 1] rfl)
        · replace h := (ite_h h).1 c1
          refine lv_aload_n hx hb dX5_act_86 rfl (lv_at hl 2 rfl) ?_
          refine lv_iload_n hx hb dX5_act_87 rfl (lv_at hl 3 rfl) ?_
          refine b_callVv (As := [.int a1]) (rest := []) C hP hS h (mX5_cancelled l D cI cJ cZ ad a1 z6) (cwV 1 C.1.2.2.2.2 gX5_act_X5_cancelled rfl rfl rfl (by decide +kernel) ⟨Nat.le_trans (Nat.le_of_ble_eq_true rfl) C.2.2.2.2.1, Nat.le_trans (Nat.le_of_ble_eq_true rfl) C.2.2.2.2.2⟩) (va_recv C.2.1 hP (ci := 5) (q0 := 0) rfl (wM_0 cI cJ cZ ad z6)) rfl hl.1 rfl (Nat.le_of_ble_eq_true rfl) dX5_act_88 (fun _ z8 _ _ h hP hS => ?_)
          refine lv_goto (tgt := 125) hx hb dX5_act_91 (by decide) ?_
          exact wX5_act_125 C hR N z8 h hP hS (lv_sub hl [] rfl)
    · replace h := (ite_h h).1 c1
      refine lv_aload_n hx hb dX5_act_46 rfl (lv_at hl 2 rfl) ?_
      refine lv_iload_n hx hb dX5_act_47 rfl (lv_at hl 3 rfl) ?_
      refine lv_iload_n hx hb dX5_act_48 rfl (lv_at hl 0 rfl) ?_
      refine lv_iconst (v := -1) hx hb dX5_act_49 (by decide) ?_
      refine lv_icmp_eq (tgt := 62) hx hb dX5_act_50 (by decide) (fun c1 => ?_) (fun c1 => ?_)
      · replace h := (ite_h h).1 c1
        exact wX5_act_62 C hR N a1 z4 h hP hS (lv_sub hl [] rfl)
      · replace h := (ite_h h).2 c1
        refine lv_aload_n hx hb dX5_act_53 rfl (lv_at hl 2 rfl) ?_
        refine lv_iload_n hx hb dX5_act_54 rfl (lv_at hl 3 rfl) ?_
        refine lv_iload_n hx hb dX5_act_55 rfl (lv_at hl 0 rfl) ?_
        refine b_callVi (As := [.int a1, .int v5]) (rest := [.int a1, .ref (ad 0)]) C hP hS h (mX5_allows l D cI cJ cZ ad a1 v5 z4) (cwV 2 C.1.2.2.2.2 gX5_act_X5_allows rfl rfl rfl (by decide +kernel) ⟨Nat.le_trans (Nat.le_of_ble_eq_true rfl) C.2.2.2.2.1, Nat.le_trans (Nat.le_of_ble_eq_true rfl) C.2.2.2.2.2⟩) (va_recv C.2.1 hP (ci := 5) (q0 := 0) rfl (wM_0 cI cJ cZ ad z4)) rfl hl.1 rfl (Nat.le_of_ble_eq_true rfl) dX5_act_56 (fun v10 z9 _ _ h hP hS => ?_)
        refine lv_if_ne (tgt := 66) hx hb dX5_act_59 (by decide) (fun c1 => ?_) (fun c1 => ?_)
        · replace h := (ite_h h).2 c1
          refine lv_iconst (v := 0) hx hb dX5_act_66 (by decide) ?_
          exact wX5_act_67 C hR N 0 a1 z9 h hP hS (lv_sub hl [] rfl)
        · replace h := (ite_h h).1 c1
          exact wX5_act_62 C hR N a1 z9 h hP hS (lv_sub hl [] rfl)
  · replace h := (ite_h h).1 c1
    refine lv_aload_n hx hb dX5_act_31 rfl (lv_at hl 2 rfl) ?_
    refine b_getr C hP iX5_act_X5 0 (wM_0 cI cJ cZ ad z4) rfl 18 (by decide) fX5_act_i57 rfl rfl dX5_act_32 ?_
    refine lv_iload_n hx hb dX5_act_35 rfl (lv_at hl 3 rfl) ?_
    refine lv_iconst (v := 1) hx hb dX5_act_36 (by decide) ?_
    refine b_iast C hP hS h 16 (wM_16 cI cJ cZ ad z4) 0 rfl (wM_s16 cI cJ cZ ad z4 _ _) dX5_act_37 (fun z11 _ _ h hP hS => ?_)
    refine lv_goto (tgt := 125) hx hb dX5_act_38 (by decide) ?_
    exact wX5_act_125 C hR N z11 h hP hS (lv_sub hl [] rfl)
theorem mX5_act (l : Launch) (D : va_G) (cI cJ cZ : ClassId) (ad : Nat → Nat) (N : Nat) (a1 : Int32) (z0 : SH) : ∀ (q : (Unit × SH)) (sz : Nat), fX5_act N a1 z0 = some q → Met l yX5_act wsX5_act rmX5_act (cP D vwCl (tyl cI cJ cZ) (wM cI cJ cZ ad z0) sz [.ref (ad 0), .int a1]) (cQv D vwCl (wM cI cJ cZ ad) z0 sz q) 0 0 (va_A (wM cI cJ cZ ad z0) sz) := by
  intro q sz h
  refine ofW_v (cc := cX5_act) (maxL := 5) (by decide) rfl (wM_same cI cJ cZ ad) (Nat.le_of_ble_eq_true rfl) (fun p e s m below meth c ls hsz C hR hP hl => ?_)
  exact wX5_act C hR N a1 z0 h hP va_S.rf hl
abbrev rmX5_ready : Room := { frames := 0, cells := 0, slots := 0, locals := 0 }
theorem fX5_ready_i116 : Cond.fieldLink RX5 116 (TX5 9).1 (TX5 9).2.1 (TX5 9).2.2.1 ∈ wsX5_ready := by decide +kernel
theorem fX5_ready_i36 : Cond.fieldLink RX5 36 (TX5 11).1 (TX5 11).2.1 (TX5 11).2.2.1 ∈ wsX5_ready := by decide +kernel
theorem fX5_ready_i39 : Cond.fieldLink RX5 39 (TX5 12).1 (TX5 12).2.1 (TX5 12).2.2.1 ∈ wsX5_ready := by decide +kernel
theorem fX5_ready_i54 : Cond.fieldLink RX5 54 (TX5 17).1 (TX5 17).2.1 (TX5 17).2.2.1 ∈ wsX5_ready := by decide +kernel
theorem fX5_ready_i57 : Cond.fieldLink RX5 57 (TX5 18).1 (TX5 18).2.1 (TX5 18).2.2.1 ∈ wsX5_ready := by decide +kernel
theorem fX5_ready_i81 : Cond.fieldLink RX5 81 (TX5 28).1 (TX5 28).2.1 (TX5 28).2.2.1 ∈ wsX5_ready := by decide +kernel
theorem iX5_ready_X5 : ∀ x ∈ wsX50, x ∈ wsX5_ready := by decide +kernel
set_option maxRecDepth 100000 in
set_option maxHeartbeats 4000000 in
theorem wX5_ready_93 {p : Program} {l : Launch} {e : Env} {R : Room} {s : State} {m : MethodId} {args : Array Value} {below : List Frame} {meth : Method} {c : Code} {Q : State → Prop} {D : va_G} {cI cJ cZ : ClassId} {ad : Nat → Nat} {A : Nat → Prop} (C : Cx p s m args c cX5_ready 4 wsX5_ready RX5 D vwCl (tyl cI cJ cZ) (wM cI cJ cZ ad) A R 0 0) {r : (Int32 × SH)} (hR : Ri p l e R s m args below meth c cX5_ready D vwCl (wM cI cJ cZ ad) A Q r) (N : Nat) (k2 : Int32 → Int32 → SH → Option (Int32 × SH)) (K2 : ∀ (x1 : Int32) (x2 : Int32) (z : SH) (H : Heap) (locs : List Loc) (ls : Array Slot), k2 x1 x2 z = some r → va_P D vwCl (wM cI cJ cZ ad z) H → va_S A s.heap H locs → lv_has ls 4 [(0, .ref (ad 0)), (1, .int x1), (2, .int x2)] → W p l e R s m args below meth c H locs 0 0 Q (F0 m 2 ls [])) (x1 : Int32) (x2 : Int32) (z0 : SH) {H : Heap} {locs : List Loc} {ls : Array Slot} (h : fX5_ready_93 N k2 x1 x2 z0 = some r) (hP : va_P D vwCl (wM cI cJ cZ ad z0) H) (hS : va_S A s.heap H locs) (hl : lv_has ls 4 [(0, .ref (ad 0)), (1, .int x1), (2, .int x2)]) : W p l e R s m args below meth c H locs 0 0 Q (F0 m 93 ls []) := by
  unfold fX5_ready_93 at h
  have hx := C.1.1
  have hb := C.1.2.1
  refine lv_iinc (v := x2 + 1) (lv' := [(2, .int (x2 + 1)), (0, .ref (ad 0)), (1, .int x1)]) hx hb dX5_ready_93 hl (k := 2) rfl rfl (by decide) rfl (fun ls hl => ?_)
  refine lv_goto (tgt := 2) hx hb dX5_ready_96 (by decide) ?_
  exact K2 x1 (x2 + 1) z0 _ _ _ h hP hS (lv_sub hl [1, 2, 0] rfl)
set_option maxRecDepth 100000 in
set_option maxHeartbeats 4000000 in
theorem wX5_ready_91 {p : Program} {l : Launch} {e : Env} {R : Room} {s : State} {m : MethodId} {args : Array Value} {below : List Frame} {meth : Method} {c : Code} {Q : State → Prop} {D : va_G} {cI cJ cZ : ClassId} {ad : Nat → Nat} {A : Nat → Prop} (C : Cx p s m args c cX5_ready 4 wsX5_ready RX5 D vwCl (tyl cI cJ cZ) (wM cI cJ cZ ad) A R 0 0) {r : (Int32 × SH)} (hR : Ri p l e R s m args below meth c cX5_ready D vwCl (wM cI cJ cZ ad) A Q r) (N : Nat) (x2 : Int32) (z0 : SH) {H : Heap} {locs : List Loc} {ls : Array Slot} (h : fX5_ready_91 N x2 z0 = some r) (hP : va_P D vwCl (wM cI cJ cZ ad z0) H) (hS : va_S A s.heap H locs) (hl : lv_has ls 4 [(2, .int x2)]) : W p l e R s m args below meth c H locs 0 0 Q (F0 m 91 ls []) := by
  unfold fX5_ready_91 at h
  have hx := C.1.1
  have hb := C.1.2.1
  refine lv_iload_n hx hb dX5_ready_91 rfl (lv_at hl 0 rfl) ?_
  exact hR 92 _ _ _ _ _ (Option.some.inj h).symm dX5_ready_92 hP hS
set_option maxRecDepth 100000 in
set_option maxHeartbeats 4000000 in
theorem wX5_ready_44 {p : Program} {l : Launch} {e : Env} {R : Room} {s : State} {m : MethodId} {args : Array Value} {below : List Frame} {meth : Method} {c : Code} {Q : State → Prop} {D : va_G} {cI cJ cZ : ClassId} {ad : Nat → Nat} {A : Nat → Prop} (C : Cx p s m args c cX5_ready 4 wsX5_ready RX5 D vwCl (tyl cI cJ cZ) (wM cI cJ cZ ad) A R 0 0) {r : (Int32 × SH)} (hR : Ri p l e R s m args below meth c cX5_ready D vwCl (wM cI cJ cZ ad) A Q r) (N : Nat) (k2 : Int32 → Int32 → SH → Option (Int32 × SH)) (K2 : ∀ (x1 : Int32) (x2 : Int32) (z : SH) (H : Heap) (locs : List Loc) (ls : Array Slot), k2 x1 x2 z = some r → va_P D vwCl (wM cI cJ cZ ad z) H → va_S A s.heap H locs → lv_has ls 4 [(0, .ref (ad 0)), (1, .int x1), (2, .int x2)] → W p l e R s m args below meth c H locs 0 0 Q (F0 m 2 ls [])) (x1 : Int32) (x2 : Int32) (t0 : Int32) (z0 : SH) {H : Heap} {locs : List Loc} {ls : Array Slot} (h : fX5_ready_44 N k2 x1 x2 t0 z0 = some r) (hP : va_P D vwCl (wM cI cJ cZ ad z0) H) (hS : va_S A s.heap H locs) (hl : lv_has ls 4 [(0, .ref (ad 0)), (1, .int x1), (2, .int x2)]) : W p l e R s m args below meth c H locs 0 0 Q (F0 m 44 ls [.int t0]) := by
  unfold fX5_ready_44 at h
  have hx := C.1.1
  have hb := C.1.2.1
  refine lv_istore_n (lv' := [(3, .int t0), (0, .ref (ad 0)), (1, .int x1), (2, .int x2)]) hx hb dX5_ready_44 rfl hl (by decide) rfl (fun ls hl => ?_)
  refine lv_iload_n hx hb dX5_ready_45 rfl (lv_at hl 0 rfl) ?_
  refine lv_if_eq (tgt := 93) hx hb dX5_ready_46 (by decide) (fun c1 => ?_) (fun c1 => ?_)
  · replace h := (ite_h h).1 c1
    exact wX5_ready_93 C hR N k2 K2 x1 x2 z0 h hP hS (lv_sub hl [1, 2, 3] rfl)
  · replace h := (ite_h h).2 c1
    refine lv_aload_n hx hb dX5_ready_49 rfl (lv_at hl 1 rfl) ?_
    refine b_getr C hP iX5_ready_X5 0 (wM_0 cI cJ cZ ad z0) rfl 12 (by decide) fX5_ready_i39 rfl rfl dX5_ready_50 ?_
    refine lv_iload_n hx hb dX5_ready_53 rfl (lv_at hl 3 rfl) ?_
    refine b_iald C hP h 10 (wM_10 cI cJ cZ ad z0) 0 rfl dX5_ready_54 (fun v1 h => ?_)
    refine lv_if_ne (tgt := 76) hx hb dX5_ready_55 (by decide) (fun c1 => ?_) (fun c1 => ?_)
    · replace h := (ite_h h).2 c1
      refine lv_aload_n hx hb dX5_ready_76 rfl (lv_at hl 1 rfl) ?_
      refine b_getr C hP iX5_ready_X5 0 (wM_0 cI cJ cZ ad z0) rfl 28 (by decide) fX5_ready_i81 rfl rfl dX5_ready_77 ?_
      refine lv_iload_n hx hb dX5_ready_80 rfl (lv_at hl 2 rfl) ?_
      refine b_iald C hP h 24 (wM_24 cI cJ cZ ad z0) 0 rfl dX5_ready_81 (fun v2 h => ?_)
      refine lv_aload_n hx hb dX5_ready_82 rfl (lv_at hl 1 rfl) ?_
      refine b_getr C hP iX5_ready_X5 0 (wM_0 cI cJ cZ ad z0) rfl 17 (by decide) fX5_ready_i54 rfl rfl dX5_ready_83 ?_
      refine lv_iload_n hx hb dX5_ready_86 rfl (lv_at hl 3 rfl) ?_
      refine b_iald C hP h 15 (wM_15 cI cJ cZ ad z0) 0 rfl dX5_ready_87 (fun v3 h => ?_)
      refine lv_icmp_gt (tgt := 93) hx hb dX5_ready_88 (by decide) (fun c1 => ?_) (fun c1 => ?_)
      · replace h := (ite_h h).1 c1
        exact wX5_ready_93 C hR N k2 K2 x1 x2 z0 h hP hS (lv_sub hl [1, 2, 3] rfl)
      · replace h := (ite_h h).2 c1
        exact wX5_ready_91 C hR N x2 z0 h hP hS (lv_sub hl [3] rfl)
    · replace h := (ite_h h).1 c1
      refine lv_aload_n hx hb dX5_ready_58 rfl (lv_at hl 1 rfl) ?_
      refine b_getr C hP iX5_ready_X5 0 (wM_0 cI cJ cZ ad z0) rfl 28 (by decide) fX5_ready_i81 rfl rfl dX5_ready_59 ?_
      refine lv_iload_n hx hb dX5_ready_62 rfl (lv_at hl 2 rfl) ?_
      refine b_iald C hP h 24 (wM_24 cI cJ cZ ad z0) 0 rfl dX5_ready_63 (fun v4 h => ?_)
      refine lv_aload_n hx hb dX5_ready_64 rfl (lv_at hl 1 rfl) ?_
      refine b_getr C hP iX5_ready_X5 0 (wM_0 cI cJ cZ ad z0) rfl 17 (by decide) fX5_ready_i54 rfl rfl dX5_ready_65 ?_
      refine lv_iload_n hx hb dX5_ready_68 rfl (lv_at hl 3 rfl) ?_
      refine b_iald C hP h 15 (wM_15 cI cJ cZ ad z0) 0 rfl dX5_ready_69 (fun v5 h => ?_)
      refine lv_icmp_lt (tgt := 93) hx hb dX5_ready_70 (by decide) (fun c1 => ?_) (fun c1 => ?_)
      · replace h := (ite_h h).1 c1
        exact wX5_ready_93 C hR N k2 K2 x1 x2 z0 h hP hS (lv_sub hl [1, 2, 3] rfl)
      · replace h := (ite_h h).2 c1
        refine lv_goto (tgt := 91) hx hb dX5_ready_73 (by decide) ?_
        exact wX5_ready_91 C hR N x2 z0 h hP hS (lv_sub hl [3] rfl)
set_option maxRecDepth 100000 in
set_option maxHeartbeats 4000000 in
theorem wX5_ready_43 {p : Program} {l : Launch} {e : Env} {R : Room} {s : State} {m : MethodId} {args : Array Value} {below : List Frame} {meth : Method} {c : Code} {Q : State → Prop} {D : va_G} {cI cJ cZ : ClassId} {ad : Nat → Nat} {A : Nat → Prop} (C : Cx p s m args c cX5_ready 4 wsX5_ready RX5 D vwCl (tyl cI cJ cZ) (wM cI cJ cZ ad) A R 0 0) {r : (Int32 × SH)} (hR : Ri p l e R s m args below meth c cX5_ready D vwCl (wM cI cJ cZ ad) A Q r) (N : Nat) (k2 : Int32 → Int32 → SH → Option (Int32 × SH)) (K2 : ∀ (x1 : Int32) (x2 : Int32) (z : SH) (H : Heap) (locs : List Loc) (ls : Array Slot), k2 x1 x2 z = some r → va_P D vwCl (wM cI cJ cZ ad z) H → va_S A s.heap H locs → lv_has ls 4 [(0, .ref (ad 0)), (1, .int x1), (2, .int x2)] → W p l e R s m args below meth c H locs 0 0 Q (F0 m 2 ls [])) (x1 : Int32) (x2 : Int32) (z0 : SH) {H : Heap} {locs : List Loc} {ls : Array Slot} (h : fX5_ready_43 N k2 x1 x2 z0 = some r) (hP : va_P D vwCl (wM cI cJ cZ ad z0) H) (hS : va_S A s.heap H locs) (hl : lv_has ls 4 [(0, .ref (ad 0)), (1, .int x1), (2, .int x2)]) : W p l e R s m args below meth c H locs 0 0 Q (F0 m 43 ls []) := by
  unfold fX5_ready_43 at h
  have hx := C.1.1
  have hb := C.1.2.1
  refine lv_iconst (v := 0) hx hb dX5_ready_43 (by decide) ?_
  exact wX5_ready_44 C hR N k2 K2 x1 x2 0 z0 h hP hS (lv_sub hl [0, 1, 2] rfl)
set_option maxRecDepth 100000 in
set_option maxHeartbeats 4000000 in
theorem wX5_ready_2 {p : Program} {l : Launch} {e : Env} {R : Room} {s : State} {m : MethodId} {args : Array Value} {below : List Frame} {meth : Method} {c : Code} {Q : State → Prop} {D : va_G} {cI cJ cZ : ClassId} {ad : Nat → Nat} {A : Nat → Prop} (C : Cx p s m args c cX5_ready 4 wsX5_ready RX5 D vwCl (tyl cI cJ cZ) (wM cI cJ cZ ad) A R 0 0) {r : (Int32 × SH)} (hR : Ri p l e R s m args below meth c cX5_ready D vwCl (wM cI cJ cZ ad) A Q r) (N : Nat) (k2 : Int32 → Int32 → SH → Option (Int32 × SH)) (K2 : ∀ (x1 : Int32) (x2 : Int32) (z : SH) (H : Heap) (locs : List Loc) (ls : Array Slot), k2 x1 x2 z = some r → va_P D vwCl (wM cI cJ cZ ad z) H → va_S A s.heap H locs → lv_has ls 4 [(0, .ref (ad 0)), (1, .int x1), (2, .int x2)] → W p l e R s m args below meth c H locs 0 0 Q (F0 m 2 ls [])) (x1 : Int32) (x2 : Int32) (z0 : SH) {H : Heap} {locs : List Loc} {ls : Array Slot} (h : fX5_ready_2 N k2 x1 x2 z0 = some r) (hP : va_P D vwCl (wM cI cJ cZ ad z0) H) (hS : va_S A s.heap H locs) (hl : lv_has ls 4 [(0, .ref (ad 0)), (1, .int x1), (2, .int x2)]) : W p l e R s m args below meth c H locs 0 0 Q (F0 m 2 ls []) := by
  unfold fX5_ready_2 at h
  have hx := C.1.1
  have hb := C.1.2.1
  refine lv_iload_n hx hb dX5_ready_2 rfl (lv_at hl 2 rfl) ?_
  refine lv_aload_n hx hb dX5_ready_3 rfl (lv_at hl 0 rfl) ?_
  refine b_geti C hP h iX5_ready_X5 0 (wM_0 cI cJ cZ ad z0) rfl 9 (by decide) fX5_ready_i116 rfl rfl dX5_ready_4 (fun v1 h => ?_)
  refine lv_icmp_ge (tgt := 99) hx hb dX5_ready_7 (by decide) (fun c1 => ?_) (fun c1 => ?_)
  · replace h := (ite_h h).1 c1
    refine lv_iconst (v := -1) hx hb dX5_ready_99 (by decide) ?_
    exact hR 100 _ _ _ _ _ (Option.some.inj h).symm dX5_ready_100 hP hS
  · replace h := (ite_h h).2 c1
    refine lv_aload_n hx hb dX5_ready_10 rfl (lv_at hl 0 rfl) ?_
    refine b_getr C hP iX5_ready_X5 0 (wM_0 cI cJ cZ ad z0) rfl 18 (by decide) fX5_ready_i57 rfl rfl dX5_ready_11 ?_
    refine lv_iload_n hx hb dX5_ready_14 rfl (lv_at hl 2 rfl) ?_
    refine b_iald C hP h 16 (wM_16 cI cJ cZ ad z0) 0 rfl dX5_ready_15 (fun v2 h => ?_)
    refine lv_iconst (v := 1) hx hb dX5_ready_16 (by decide) ?_
    refine lv_icmp_ne (tgt := 43) hx hb dX5_ready_17 (by decide) (fun c1 => ?_) (fun c1 => ?_)
    · replace h := (ite_h h).2 c1
      exact wX5_ready_43 C hR N k2 K2 x1 x2 z0 h hP hS (lv_sub hl [0, 1, 2] rfl)
    · replace h := (ite_h h).1 c1
      refine lv_aload_n hx hb dX5_ready_20 rfl (lv_at hl 0 rfl) ?_
      refine b_getr C hP iX5_ready_X5 0 (wM_0 cI cJ cZ ad z0) rfl 11 (by decide) fX5_ready_i36 rfl rfl dX5_ready_21 ?_
      refine lv_iload_n hx hb dX5_ready_24 rfl (lv_at hl 2 rfl) ?_
      refine b_iald C hP h 9 (wM_9 cI cJ cZ ad z0) 0 rfl dX5_ready_25 (fun v3 h => ?_)
      refine lv_iload_n hx hb dX5_ready_26 rfl (lv_at hl 1 rfl) ?_
      refine lv_icmp_ne (tgt := 43) hx hb dX5_ready_27 (by decide) (fun c1 => ?_) (fun c1 => ?_)
      · replace h := (ite_h h).2 c1
        exact wX5_ready_43 C hR N k2 K2 x1 x2 z0 h hP hS (lv_sub hl [0, 1, 2] rfl)
      · replace h := (ite_h h).1 c1
        refine lv_aload_n hx hb dX5_ready_30 rfl (lv_at hl 0 rfl) ?_
        refine b_getr C hP iX5_ready_X5 0 (wM_0 cI cJ cZ ad z0) rfl 28 (by decide) fX5_ready_i81 rfl rfl dX5_ready_31 ?_
        refine lv_iload_n hx hb dX5_ready_34 rfl (lv_at hl 1 rfl) ?_
        refine b_iald C hP h 24 (wM_24 cI cJ cZ ad z0) 0 rfl dX5_ready_35 (fun v4 h => ?_)
        refine lv_if_le (tgt := 43) hx hb dX5_ready_36 (by decide) (fun c1 => ?_) (fun c1 => ?_)
        · replace h := (ite_h h).1 c1
          exact wX5_ready_43 C hR N k2 K2 x1 x2 z0 h hP hS (lv_sub hl [0, 1, 2] rfl)
        · replace h := (ite_h h).2 c1
          refine lv_iconst (v := 1) hx hb dX5_ready_39 (by decide) ?_
          refine lv_goto (tgt := 44) hx hb dX5_ready_40 (by decide) ?_
          exact wX5_ready_44 C hR N k2 K2 x1 x2 1 z0 h hP hS (lv_sub hl [0, 1, 2] rfl)
theorem wX5_ready_2_L {p : Program} {l : Launch} {e : Env} {R : Room} {s : State} {m : MethodId} {args : Array Value} {below : List Frame} {meth : Method} {c : Code} {Q : State → Prop} {D : va_G} {cI cJ cZ : ClassId} {ad : Nat → Nat} {A : Nat → Prop} (C : Cx p s m args c cX5_ready 4 wsX5_ready RX5 D vwCl (tyl cI cJ cZ) (wM cI cJ cZ ad) A R 0 0) {r : (Int32 × SH)} (hR : Ri p l e R s m args below meth c cX5_ready D vwCl (wM cI cJ cZ ad) A Q r) (N : Nat) : ∀ (n : Nat), ∀ (x1 : Int32) (x2 : Int32) (z : SH) (H : Heap) (locs : List Loc) (ls : Array Slot), fX5_ready_2_L N n x1 x2 z = some r → va_P D vwCl (wM cI cJ cZ ad z) H → va_S A s.heap H locs → lv_has ls 4 [(0, .ref (ad 0)), (1, .int x1), (2, .int x2)] → W p l e R s m args below meth c H locs 0 0 Q (F0 m 2 ls []) := by
  intro n
  induction n with
  | zero => intro x1 x2 z H locs ls h; exact nomatch (show (none : Option (Int32 × SH)) = some r from h)
  | succ n ih => intro x1 x2 z H locs ls h hP hS hl; exact wX5_ready_2 C hR N (fX5_ready_2_L N n) ih x1 x2 z (show fX5_ready_2 N (fX5_ready_2_L N n) x1 x2 z = some r from h) hP hS hl
set_option maxRecDepth 100000 in
set_option maxHeartbeats 4000000 in
theorem wX5_ready {p : Program} {l : Launch} {e : Env} {R : Room} {s : State} {m : MethodId} {args : Array Value} {below : List Frame} {meth : Method} {c : Code} {Q : State → Prop} {D : va_G} {cI cJ cZ : ClassId} {ad : Nat → Nat} {A : Nat → Prop} (C : Cx p s m args c cX5_ready 4 wsX5_ready RX5 D vwCl (tyl cI cJ cZ) (wM cI cJ cZ ad) A R 0 0) {r : (Int32 × SH)} (hR : Ri p l e R s m args below meth c cX5_ready D vwCl (wM cI cJ cZ ad) A Q r) (N : Nat) (a1 : Int32) (z0 : SH) {H : Heap} {locs : List Loc} {ls : Array Slot} (h : fX5_ready N a1 z0 = some r) (hP : va_P D vwCl (wM cI cJ cZ ad z0) H) (hS : va_S A s.heap H locs) (hl : lv_has ls 4 [(0, .ref (ad 0)), (1, .int a1)]) : W p l e R s m args below meth c H locs 0 0 Q (F0 m 0 ls []) := by
  unfold fX5_ready at h
  have hx := C.1.1
  have hb := C.1.2.1
  refine lv_iconst (v := 0) hx hb dX5_ready_0 (by decide) ?_
  refine lv_istore_n (lv' := [(2, .int 0), (0, .ref (ad 0)), (1, .int a1)]) hx hb dX5_ready_1 rfl hl (by decide) rfl (fun ls hl => ?_)
  exact wX5_ready_2_L C hR N N a1 0 z0 _ _ _ h hP hS (lv_sub hl [1, 2, 0] rfl)
theorem mX5_ready (l : Launch) (D : va_G) (cI cJ cZ : ClassId) (ad : Nat → Nat) (N : Nat) (a1 : Int32) (z0 : SH) : ∀ (q : (Int32 × SH)) (sz : Nat), fX5_ready N a1 z0 = some q → Met l yX5_ready wsX5_ready rmX5_ready (cP D vwCl (tyl cI cJ cZ) (wM cI cJ cZ ad z0) sz [.ref (ad 0), .int a1]) (cQi D vwCl (wM cI cJ cZ ad) z0 sz q) 0 0 (va_A (wM cI cJ cZ ad z0) sz) := by
  intro q sz h
  refine ofW_i (cc := cX5_ready) (maxL := 4) (by decide) rfl (wM_same cI cJ cZ ad) (Nat.le_of_ble_eq_true rfl) (fun p e s m below meth c ls hsz C hR hP hl => ?_)
  exact wX5_ready C hR N a1 z0 h hP va_S.rf hl
