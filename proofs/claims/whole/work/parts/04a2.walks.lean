abbrev rmX5_order : Room := { frames := 5, cells := 0, slots := 0, locals := 119 }
theorem fX5_order_i116 : Cond.fieldLink RX5 116 (TX5 9).1 (TX5 9).2.1 (TX5 9).2.2.1 ∈ wsX5_order := by decide +kernel
theorem fX5_order_i13 : Cond.fieldLink RX5 13 (TX5 3).1 (TX5 3).2.1 (TX5 3).2.2.1 ∈ wsX5_order := by decide +kernel
theorem fX5_order_i16 : Cond.fieldLink RX5 16 (TX5 4).1 (TX5 4).2.1 (TX5 4).2.2.1 ∈ wsX5_order := by decide +kernel
theorem fX5_order_i20 : Cond.fieldLink RX5 20 (TX5 5).1 (TX5 5).2.1 (TX5 5).2.2.1 ∈ wsX5_order := by decide +kernel
theorem fX5_order_i33 : Cond.fieldLink RX5 33 (TX5 10).1 (TX5 10).2.1 (TX5 10).2.2.1 ∈ wsX5_order := by decide +kernel
theorem fX5_order_i36 : Cond.fieldLink RX5 36 (TX5 11).1 (TX5 11).2.1 (TX5 11).2.2.1 ∈ wsX5_order := by decide +kernel
theorem fX5_order_i39 : Cond.fieldLink RX5 39 (TX5 12).1 (TX5 12).2.1 (TX5 12).2.2.1 ∈ wsX5_order := by decide +kernel
theorem fX5_order_i42 : Cond.fieldLink RX5 42 (TX5 13).1 (TX5 13).2.1 (TX5 13).2.2.1 ∈ wsX5_order := by decide +kernel
theorem fX5_order_i45 : Cond.fieldLink RX5 45 (TX5 14).1 (TX5 14).2.1 (TX5 14).2.2.1 ∈ wsX5_order := by decide +kernel
theorem fX5_order_i48 : Cond.fieldLink RX5 48 (TX5 15).1 (TX5 15).2.1 (TX5 15).2.2.1 ∈ wsX5_order := by decide +kernel
theorem fX5_order_i54 : Cond.fieldLink RX5 54 (TX5 17).1 (TX5 17).2.1 (TX5 17).2.2.1 ∈ wsX5_order := by decide +kernel
theorem fX5_order_i57 : Cond.fieldLink RX5 57 (TX5 18).1 (TX5 18).2.1 (TX5 18).2.2.1 ∈ wsX5_order := by decide +kernel
theorem fX5_order_i7 : Cond.fieldLink RX5 7 (TX5 2).1 (TX5 2).2.1 (TX5 2).2.2.1 ∈ wsX5_order := by decide +kernel
theorem fX5_order_i93 : Cond.fieldLink RX5 93 (TX5 0).1 (TX5 0).2.1 (TX5 0).2.2.1 ∈ wsX5_order := by decide +kernel
theorem iX5_order_X5 : ∀ x ∈ wsX50, x ∈ wsX5_order := by decide +kernel
set_option maxRecDepth 100000 in
set_option maxHeartbeats 4000000 in
theorem wX5_order_319 {p : Program} {l : Launch} {e : Env} {R : Room} {s : State} {m : MethodId} {args : Array Value} {below : List Frame} {meth : Method} {c : Code} {Q : State → Prop} {D : va_G} {cI cJ cZ : ClassId} {ad : Nat → Nat} {A : Nat → Prop} (C : Cx p s m args c cX5_order 13 wsX5_order RX5 D vwCl (tyl cI cJ cZ) (wM cI cJ cZ ad) A R 5 119) {r : (Int32 × SH)} (hR : Ri p l e R s m args below meth c cX5_order D vwCl (wM cI cJ cZ ad) A Q r) (N : Nat) (k319 : Int32 → Int32 → Int32 → SH → Option (Int32 × SH)) (K319 : ∀ (x2 : Int32) (x11 : Int32) (x12 : Int32) (z : SH) (H : Heap) (locs : List Loc) (ls : Array Slot), k319 x2 x11 x12 z = some r → va_P D vwCl (wM cI cJ cZ ad z) H → va_S A s.heap H locs → lv_has ls 13 [(0, .ref (ad 0)), (2, .int x2), (11, .int x11), (12, .int x12)] → W p l e R s m args below meth c H locs 0 0 Q (F0 m 319 ls [])) (x2 : Int32) (x11 : Int32) (x12 : Int32) (z0 : SH) {H : Heap} {locs : List Loc} {ls : Array Slot} (h : fX5_order_319 N k319 x2 x11 x12 z0 = some r) (hP : va_P D vwCl (wM cI cJ cZ ad z0) H) (hS : va_S A s.heap H locs) (hl : lv_has ls 13 [(0, .ref (ad 0)), (2, .int x2), (11, .int x11), (12, .int x12)]) : W p l e R s m args below meth c H locs 0 0 Q (F0 m 319 ls []) := by
  unfold fX5_order_319 at h
  have hx := C.1.1
  have hb := C.1.2.1
  refine lv_iload hx hb dX5_order_319 (lv_at hl 3 rfl) ?_
  refine lv_iconst (v := -1) hx hb dX5_order_321 (by decide) ?_
  refine lv_icmp_eq (tgt := 357) hx hb dX5_order_322 (by decide) (fun c1 => ?_) (fun c1 => ?_)
  · replace h := (ite_h h).1 c1
    refine lv_iload hx hb dX5_order_357 (lv_at hl 2 rfl) ?_
    exact hR 359 _ _ _ _ _ (Option.some.inj h).symm dX5_order_359 hP hS
  · replace h := (ite_h h).2 c1
    refine lv_aload_n hx hb dX5_order_325 rfl (lv_at hl 0 rfl) ?_
    refine b_getr C hP iX5_order_X5 0 (wM_0 cI cJ cZ ad z0) rfl 13 (by decide) fX5_order_i42 rfl rfl dX5_order_326 ?_
    refine lv_iload hx hb dX5_order_329 (lv_at hl 3 rfl) ?_
    refine lv_iconst (v := 0) hx hb dX5_order_331 (by decide) ?_
    refine b_iast C hP hS h 11 (wM_11 cI cJ cZ ad z0) 0 rfl (wM_s11 cI cJ cZ ad z0 _ _) dX5_order_332 (fun z1 _ _ h hP hS => ?_)
    refine lv_aload_n hx hb dX5_order_333 rfl (lv_at hl 0 rfl) ?_
    refine b_getr C hP iX5_order_X5 0 (wM_0 cI cJ cZ ad z1) rfl 18 (by decide) fX5_order_i57 rfl rfl dX5_order_334 ?_
    refine lv_iload hx hb dX5_order_337 (lv_at hl 3 rfl) ?_
    refine lv_iconst (v := 3) hx hb dX5_order_339 (by decide) ?_
    refine b_iast C hP hS h 16 (wM_16 cI cJ cZ ad z1) 0 rfl (wM_s16 cI cJ cZ ad z1 _ _) dX5_order_340 (fun z2 _ _ h hP hS => ?_)
    refine lv_aload_n hx hb dX5_order_341 rfl (lv_at hl 0 rfl) ?_
    refine lv_iload hx hb dX5_order_342 (lv_at hl 3 rfl) ?_
    refine b_callVv (As := [.int x12]) (rest := []) C hP hS h (mX5_act l D cI cJ cZ ad N x12 z2) (cwV 1 C.1.2.2.2.2 gX5_order_X5_act rfl rfl rfl (by decide +kernel) ⟨Nat.le_trans (Nat.le_of_ble_eq_true rfl) C.2.2.2.2.1, Nat.le_trans (Nat.le_of_ble_eq_true rfl) C.2.2.2.2.2⟩) (va_recv C.2.1 hP (ci := 5) (q0 := 0) rfl (wM_0 cI cJ cZ ad z2)) rfl hl.1 rfl (Nat.le_of_ble_eq_true rfl) dX5_order_344 (fun _ z3 _ _ h hP hS => ?_)
    refine lv_aload_n hx hb dX5_order_347 rfl (lv_at hl 0 rfl) ?_
    refine lv_iload_n hx hb dX5_order_348 rfl (lv_at hl 1 rfl) ?_
    refine b_callVi (As := [.int x2]) (rest := []) C hP hS h (mX5_ready l D cI cJ cZ ad N x2 z3) (cwV 1 C.1.2.2.2.2 gX5_order_X5_ready rfl rfl rfl (by decide +kernel) ⟨Nat.le_trans (Nat.le_of_ble_eq_true rfl) C.2.2.2.2.1, Nat.le_trans (Nat.le_of_ble_eq_true rfl) C.2.2.2.2.2⟩) (va_recv C.2.1 hP (ci := 5) (q0 := 0) rfl (wM_0 cI cJ cZ ad z3)) rfl hl.1 rfl (Nat.le_of_ble_eq_true rfl) dX5_order_349 (fun v5 z4 _ _ h hP hS => ?_)
    refine lv_istore (lv' := [(12, .int v5), (0, .ref (ad 0)), (2, .int x2), (11, .int x11)]) hx hb dX5_order_352 hl (by decide) rfl (fun ls hl => ?_)
    refine lv_goto (tgt := 319) hx hb dX5_order_354 (by decide) ?_
    exact K319 x2 x11 v5 z4 _ _ _ h hP hS (lv_sub hl [1, 2, 3, 0] rfl)
theorem wX5_order_319_L {p : Program} {l : Launch} {e : Env} {R : Room} {s : State} {m : MethodId} {args : Array Value} {below : List Frame} {meth : Method} {c : Code} {Q : State → Prop} {D : va_G} {cI cJ cZ : ClassId} {ad : Nat → Nat} {A : Nat → Prop} (C : Cx p s m args c cX5_order 13 wsX5_order RX5 D vwCl (tyl cI cJ cZ) (wM cI cJ cZ ad) A R 5 119) {r : (Int32 × SH)} (hR : Ri p l e R s m args below meth c cX5_order D vwCl (wM cI cJ cZ ad) A Q r) (N : Nat) : ∀ (n : Nat), ∀ (x2 : Int32) (x11 : Int32) (x12 : Int32) (z : SH) (H : Heap) (locs : List Loc) (ls : Array Slot), fX5_order_319_L N n x2 x11 x12 z = some r → va_P D vwCl (wM cI cJ cZ ad z) H → va_S A s.heap H locs → lv_has ls 13 [(0, .ref (ad 0)), (2, .int x2), (11, .int x11), (12, .int x12)] → W p l e R s m args below meth c H locs 0 0 Q (F0 m 319 ls []) := by
  intro n
  induction n with
  | zero => intro x2 x11 x12 z H locs ls h; exact nomatch (show (none : Option (Int32 × SH)) = some r from h)
  | succ n ih => intro x2 x11 x12 z H locs ls h hP hS hl; exact wX5_order_319 C hR N (fX5_order_319_L N n) ih x2 x11 x12 z (show fX5_order_319 N (fX5_order_319_L N n) x2 x11 x12 z = some r from h) hP hS hl
set_option maxRecDepth 100000 in
set_option maxHeartbeats 4000000 in
theorem wX5_order_201 {p : Program} {l : Launch} {e : Env} {R : Room} {s : State} {m : MethodId} {args : Array Value} {below : List Frame} {meth : Method} {c : Code} {Q : State → Prop} {D : va_G} {cI cJ cZ : ClassId} {ad : Nat → Nat} {A : Nat → Prop} (C : Cx p s m args c cX5_order 13 wsX5_order RX5 D vwCl (tyl cI cJ cZ) (wM cI cJ cZ ad) A R 5 119) {r : (Int32 × SH)} (hR : Ri p l e R s m args below meth c cX5_order D vwCl (wM cI cJ cZ ad) A Q r) (N : Nat) (x1 : Int32) (x2 : Int32) (x3 : Int32) (x4 : Int32) (x5 : Int32) (x6 : Int32) (x7 : Int32) (t0 : Int32) (z0 : SH) {H : Heap} {locs : List Loc} {ls : Array Slot} (h : fX5_order_201 N x1 x2 x3 x4 x5 x6 x7 t0 z0 = some r) (hP : va_P D vwCl (wM cI cJ cZ ad z0) H) (hS : va_S A s.heap H locs) (hl : lv_has ls 13 [(0, .ref (ad 0)), (1, .int x1), (2, .int x2), (3, .int x3), (4, .int x4), (5, .int x5), (6, .int x6), (7, .int x7)]) : W p l e R s m args below meth c H locs 0 0 Q (F0 m 201 ls [.int t0, .ref (ad 0)]) := by
  unfold fX5_order_201 at h
  have hx := C.1.1
  have hb := C.1.2.1
  refine b_puti C hP hS h iX5_order_X5 tyX5 tyX5_ok nmX5 0 (wM_0 cI cJ cZ ad z0) rfl 0 (by decide) fX5_order_i93 rfl rfl rfl (Nat.le_of_ble_eq_true rfl) (wM_si0 cI cJ cZ ad z0 _) dX5_order_201 (fun z1 _ _ h hP hS => ?_)
  refine lv_aload_n hx hb dX5_order_204 rfl (lv_at hl 0 rfl) ?_
  refine b_geti C hP h iX5_order_X5 0 (wM_0 cI cJ cZ ad z1) rfl 0 (by decide) fX5_order_i93 rfl rfl dX5_order_205 (fun v2 h => ?_)
  refine lv_if_le (tgt := 213) hx hb dX5_order_208 (by decide) (fun c1 => ?_) (fun c1 => ?_)
  · replace h := (ite_h h).1 c1
    refine lv_aload_n hx hb dX5_order_213 rfl (lv_at hl 0 rfl) ?_
    refine b_geti C hP h iX5_order_X5 0 (wM_0 cI cJ cZ ad z1) rfl 9 (by decide) fX5_order_i116 rfl rfl dX5_order_214 (fun v3 h => ?_)
    refine lv_istore (lv' := [(11, .int v3), (0, .ref (ad 0)), (1, .int x1), (2, .int x2), (3, .int x3), (4, .int x4), (5, .int x5), (6, .int x6), (7, .int x7)]) hx hb dX5_order_217 hl (by decide) rfl (fun ls hl => ?_)
    refine lv_aload_n hx hb dX5_order_219 rfl (lv_at hl 1 rfl) ?_
    refine lv_dup hx hb dX5_order_220 rfl ?_
    refine b_geti C hP h iX5_order_X5 0 (wM_0 cI cJ cZ ad z1) rfl 9 (by decide) fX5_order_i116 rfl rfl dX5_order_221 (fun v4 h => ?_)
    refine lv_iconst (v := 1) hx hb dX5_order_224 (by decide) ?_
    refine lv_iadd hx hb dX5_order_225 ?_
    refine b_puti C hP hS h iX5_order_X5 tyX5 tyX5_ok nmX5 0 (wM_0 cI cJ cZ ad z1) rfl 9 (by decide) fX5_order_i116 rfl rfl rfl (Nat.le_of_ble_eq_true rfl) (wM_si2 cI cJ cZ ad z1 _) dX5_order_226 (fun z5 _ _ h hP hS => ?_)
    refine lv_aload_n hx hb dX5_order_229 rfl (lv_at hl 1 rfl) ?_
    refine b_getr C hP iX5_order_X5 0 (wM_0 cI cJ cZ ad z5) rfl 10 (by decide) fX5_order_i33 rfl rfl dX5_order_230 ?_
    refine lv_iload hx hb dX5_order_233 (lv_at hl 0 rfl) ?_
    refine lv_iload_n hx hb dX5_order_235 rfl (lv_at hl 2 rfl) ?_
    refine b_iast C hP hS h 8 (wM_8 cI cJ cZ ad z5) 0 rfl (wM_s8 cI cJ cZ ad z5 _ _) dX5_order_236 (fun z6 _ _ h hP hS => ?_)
    refine lv_aload_n hx hb dX5_order_237 rfl (lv_at hl 1 rfl) ?_
    refine b_getr C hP iX5_order_X5 0 (wM_0 cI cJ cZ ad z6) rfl 11 (by decide) fX5_order_i36 rfl rfl dX5_order_238 ?_
    refine lv_iload hx hb dX5_order_241 (lv_at hl 0 rfl) ?_
    refine lv_iload_n hx hb dX5_order_243 rfl (lv_at hl 3 rfl) ?_
    refine b_iast C hP hS h 9 (wM_9 cI cJ cZ ad z6) 0 rfl (wM_s9 cI cJ cZ ad z6 _ _) dX5_order_244 (fun z7 _ _ h hP hS => ?_)
    refine lv_aload_n hx hb dX5_order_245 rfl (lv_at hl 1 rfl) ?_
    refine b_getr C hP iX5_order_X5 0 (wM_0 cI cJ cZ ad z7) rfl 12 (by decide) fX5_order_i39 rfl rfl dX5_order_246 ?_
    refine lv_iload hx hb dX5_order_249 (lv_at hl 0 rfl) ?_
    refine lv_iload_n hx hb dX5_order_251 rfl (lv_at hl 4 rfl) ?_
    refine b_iast C hP hS h 10 (wM_10 cI cJ cZ ad z7) 0 rfl (wM_s10 cI cJ cZ ad z7 _ _) dX5_order_252 (fun z8 _ _ h hP hS => ?_)
    refine lv_aload_n hx hb dX5_order_253 rfl (lv_at hl 1 rfl) ?_
    refine b_getr C hP iX5_order_X5 0 (wM_0 cI cJ cZ ad z8) rfl 13 (by decide) fX5_order_i42 rfl rfl dX5_order_254 ?_
    refine lv_iload hx hb dX5_order_257 (lv_at hl 0 rfl) ?_
    refine lv_iload hx hb dX5_order_259 (lv_at hl 5 rfl) ?_
    refine b_iast C hP hS h 11 (wM_11 cI cJ cZ ad z8) 0 rfl (wM_s11 cI cJ cZ ad z8 _ _) dX5_order_261 (fun z9 _ _ h hP hS => ?_)
    refine lv_aload_n hx hb dX5_order_262 rfl (lv_at hl 1 rfl) ?_
    refine b_getr C hP iX5_order_X5 0 (wM_0 cI cJ cZ ad z9) rfl 14 (by decide) fX5_order_i45 rfl rfl dX5_order_263 ?_
    refine lv_iload hx hb dX5_order_266 (lv_at hl 0 rfl) ?_
    refine lv_iload hx hb dX5_order_268 (lv_at hl 6 rfl) ?_
    refine b_iast C hP hS h 12 (wM_12 cI cJ cZ ad z9) 0 rfl (wM_s12 cI cJ cZ ad z9 _ _) dX5_order_270 (fun z10 _ _ h hP hS => ?_)
    refine lv_aload_n hx hb dX5_order_271 rfl (lv_at hl 1 rfl) ?_
    refine b_getr C hP iX5_order_X5 0 (wM_0 cI cJ cZ ad z10) rfl 15 (by decide) fX5_order_i48 rfl rfl dX5_order_272 ?_
    refine lv_iload hx hb dX5_order_275 (lv_at hl 0 rfl) ?_
    refine lv_iload hx hb dX5_order_277 (lv_at hl 7 rfl) ?_
    refine b_iast C hP hS h 13 (wM_13 cI cJ cZ ad z10) 0 rfl (wM_s13 cI cJ cZ ad z10 _ _) dX5_order_279 (fun z11 _ _ h hP hS => ?_)
    refine lv_aload_n hx hb dX5_order_280 rfl (lv_at hl 1 rfl) ?_
    refine b_getr C hP iX5_order_X5 0 (wM_0 cI cJ cZ ad z11) rfl 17 (by decide) fX5_order_i54 rfl rfl dX5_order_281 ?_
    refine lv_iload hx hb dX5_order_284 (lv_at hl 0 rfl) ?_
    refine lv_iload hx hb dX5_order_286 (lv_at hl 8 rfl) ?_
    refine b_iast C hP hS h 15 (wM_15 cI cJ cZ ad z11) 0 rfl (wM_s15 cI cJ cZ ad z11 _ _) dX5_order_288 (fun z12 _ _ h hP hS => ?_)
    refine lv_aload_n hx hb dX5_order_289 rfl (lv_at hl 1 rfl) ?_
    refine b_getr C hP iX5_order_X5 0 (wM_0 cI cJ cZ ad z12) rfl 18 (by decide) fX5_order_i57 rfl rfl dX5_order_290 ?_
    refine lv_iload hx hb dX5_order_293 (lv_at hl 0 rfl) ?_
    refine lv_iconst (v := 3) hx hb dX5_order_295 (by decide) ?_
    refine b_iast C hP hS h 16 (wM_16 cI cJ cZ ad z12) 0 rfl (wM_s16 cI cJ cZ ad z12 _ _) dX5_order_296 (fun z13 _ _ h hP hS => ?_)
    refine lv_aload_n hx hb dX5_order_297 rfl (lv_at hl 1 rfl) ?_
    refine lv_iload hx hb dX5_order_298 (lv_at hl 0 rfl) ?_
    refine lv_iload hx hb dX5_order_300 (lv_at hl 7 rfl) ?_
    refine lv_ineg hx hb dX5_order_302 ?_
    refine b_callVv (As := [.int v3, .int (-x6)]) (rest := []) C hP hS h (mX5_free l D cI cJ cZ ad v3 (-x6) z13) (cwV 2 C.1.2.2.2.2 gX5_order_X5_free rfl rfl rfl (by decide +kernel) ⟨Nat.le_trans (Nat.le_of_ble_eq_true rfl) C.2.2.2.2.1, Nat.le_trans (Nat.le_of_ble_eq_true rfl) C.2.2.2.2.2⟩) (va_recv C.2.1 hP (ci := 5) (q0 := 0) rfl (wM_0 cI cJ cZ ad z13)) rfl hl.1 rfl (Nat.le_of_ble_eq_true rfl) dX5_order_303 (fun _ z14 _ _ h hP hS => ?_)
    refine lv_aload_n hx hb dX5_order_306 rfl (lv_at hl 1 rfl) ?_
    refine lv_iload hx hb dX5_order_307 (lv_at hl 0 rfl) ?_
    refine b_callVv (As := [.int v3]) (rest := []) C hP hS h (mX5_act l D cI cJ cZ ad N v3 z14) (cwV 1 C.1.2.2.2.2 gX5_order_X5_act rfl rfl rfl (by decide +kernel) ⟨Nat.le_trans (Nat.le_of_ble_eq_true rfl) C.2.2.2.2.1, Nat.le_trans (Nat.le_of_ble_eq_true rfl) C.2.2.2.2.2⟩) (va_recv C.2.1 hP (ci := 5) (q0 := 0) rfl (wM_0 cI cJ cZ ad z14)) rfl hl.1 rfl (Nat.le_of_ble_eq_true rfl) dX5_order_309 (fun _ z15 _ _ h hP hS => ?_)
    refine lv_aload_n hx hb dX5_order_312 rfl (lv_at hl 1 rfl) ?_
    refine lv_iload_n hx hb dX5_order_313 rfl (lv_at hl 3 rfl) ?_
    refine b_callVi (As := [.int x2]) (rest := []) C hP hS h (mX5_ready l D cI cJ cZ ad N x2 z15) (cwV 1 C.1.2.2.2.2 gX5_order_X5_ready rfl rfl rfl (by decide +kernel) ⟨Nat.le_trans (Nat.le_of_ble_eq_true rfl) C.2.2.2.2.1, Nat.le_trans (Nat.le_of_ble_eq_true rfl) C.2.2.2.2.2⟩) (va_recv C.2.1 hP (ci := 5) (q0 := 0) rfl (wM_0 cI cJ cZ ad z15)) rfl hl.1 rfl (Nat.le_of_ble_eq_true rfl) dX5_order_314 (fun v17 z16 _ _ h hP hS => ?_)
    refine lv_istore (lv' := [(12, .int v17), (11, .int v3), (0, .ref (ad 0)), (1, .int x1), (2, .int x2), (3, .int x3), (4, .int x4), (5, .int x5), (6, .int x6), (7, .int x7)]) hx hb dX5_order_317 hl (by decide) rfl (fun ls hl => ?_)
    exact wX5_order_319_L C hR N N x2 v3 v17 z16 _ _ _ h hP hS (lv_sub hl [2, 4, 1, 0] rfl)
  · replace h := (ite_h h).2 c1
    refine lv_iconst (v := 0) hx hb dX5_order_211 (by decide) ?_
    exact hR 212 _ _ _ _ _ (Option.some.inj h).symm dX5_order_212 hP hS
set_option maxRecDepth 100000 in
set_option maxHeartbeats 4000000 in
theorem wX5_order_170 {p : Program} {l : Launch} {e : Env} {R : Room} {s : State} {m : MethodId} {args : Array Value} {below : List Frame} {meth : Method} {c : Code} {Q : State → Prop} {D : va_G} {cI cJ cZ : ClassId} {ad : Nat → Nat} {A : Nat → Prop} (C : Cx p s m args c cX5_order 13 wsX5_order RX5 D vwCl (tyl cI cJ cZ) (wM cI cJ cZ ad) A R 5 119) {r : (Int32 × SH)} (hR : Ri p l e R s m args below meth c cX5_order D vwCl (wM cI cJ cZ ad) A Q r) (N : Nat) (x1 : Int32) (x2 : Int32) (x3 : Int32) (x4 : Int32) (x5 : Int32) (x6 : Int32) (x7 : Int32) (x8 : Int32) (x9 : Int32) (t0 : Int32) (z0 : SH) {H : Heap} {locs : List Loc} {ls : Array Slot} (h : fX5_order_170 N x1 x2 x3 x4 x5 x6 x7 x8 x9 t0 z0 = some r) (hP : va_P D vwCl (wM cI cJ cZ ad z0) H) (hS : va_S A s.heap H locs) (hl : lv_has ls 13 [(0, .ref (ad 0)), (1, .int x1), (2, .int x2), (3, .int x3), (4, .int x4), (5, .int x5), (6, .int x6), (7, .int x7), (8, .int x8), (9, .int x9)]) : W p l e R s m args below meth c H locs 0 0 Q (F0 m 170 ls [.int t0]) := by
  unfold fX5_order_170 at h
  have hx := C.1.1
  have hb := C.1.2.1
  refine lv_istore (lv' := [(10, .int t0), (0, .ref (ad 0)), (1, .int x1), (2, .int x2), (3, .int x3), (4, .int x4), (5, .int x5), (6, .int x6), (7, .int x7), (8, .int x8), (9, .int x9)]) hx hb dX5_order_170 hl (by decide) rfl (fun ls hl => ?_)
  refine lv_aload_n hx hb dX5_order_172 rfl (lv_at hl 1 rfl) ?_
  refine lv_iload hx hb dX5_order_173 (lv_at hl 9 rfl) ?_
  refine lv_if_ne (tgt := 182) hx hb dX5_order_175 (by decide) (fun c1 => ?_) (fun c1 => ?_)
  · replace h := (ite_h h).2 c1
    refine lv_iload hx hb dX5_order_182 (lv_at hl 10 rfl) ?_
    refine lv_if_ne (tgt := 191) hx hb dX5_order_184 (by decide) (fun c1 => ?_) (fun c1 => ?_)
    · replace h := (ite_h h).2 c1
      refine lv_iload hx hb dX5_order_191 (lv_at hl 0 rfl) ?_
      refine lv_if_ne (tgt := 200) hx hb dX5_order_193 (by decide) (fun c1 => ?_) (fun c1 => ?_)
      · replace h := (ite_h h).2 c1
        refine lv_iconst (v := 0) hx hb dX5_order_200 (by decide) ?_
        exact wX5_order_201 C hR N x1 x2 x3 x4 x5 x6 x7 0 z0 h hP hS (lv_sub hl [1, 2, 3, 4, 5, 6, 7, 8] rfl)
      · replace h := (ite_h h).1 c1
        refine lv_iconst (v := 3) hx hb dX5_order_196 (by decide) ?_
        refine lv_goto (tgt := 201) hx hb dX5_order_197 (by decide) ?_
        exact wX5_order_201 C hR N x1 x2 x3 x4 x5 x6 x7 3 z0 h hP hS (lv_sub hl [1, 2, 3, 4, 5, 6, 7, 8] rfl)
    · replace h := (ite_h h).1 c1
      refine lv_iconst (v := 2) hx hb dX5_order_187 (by decide) ?_
      refine lv_goto (tgt := 201) hx hb dX5_order_188 (by decide) ?_
      exact wX5_order_201 C hR N x1 x2 x3 x4 x5 x6 x7 2 z0 h hP hS (lv_sub hl [1, 2, 3, 4, 5, 6, 7, 8] rfl)
  · replace h := (ite_h h).1 c1
    refine lv_iconst (v := 1) hx hb dX5_order_178 (by decide) ?_
    refine lv_goto (tgt := 201) hx hb dX5_order_179 (by decide) ?_
    exact wX5_order_201 C hR N x1 x2 x3 x4 x5 x6 x7 1 z0 h hP hS (lv_sub hl [1, 2, 3, 4, 5, 6, 7, 8] rfl)
set_option maxRecDepth 100000 in
set_option maxHeartbeats 4000000 in
theorem wX5_order_169 {p : Program} {l : Launch} {e : Env} {R : Room} {s : State} {m : MethodId} {args : Array Value} {below : List Frame} {meth : Method} {c : Code} {Q : State → Prop} {D : va_G} {cI cJ cZ : ClassId} {ad : Nat → Nat} {A : Nat → Prop} (C : Cx p s m args c cX5_order 13 wsX5_order RX5 D vwCl (tyl cI cJ cZ) (wM cI cJ cZ ad) A R 5 119) {r : (Int32 × SH)} (hR : Ri p l e R s m args below meth c cX5_order D vwCl (wM cI cJ cZ ad) A Q r) (N : Nat) (x1 : Int32) (x2 : Int32) (x3 : Int32) (x4 : Int32) (x5 : Int32) (x6 : Int32) (x7 : Int32) (x8 : Int32) (x9 : Int32) (z0 : SH) {H : Heap} {locs : List Loc} {ls : Array Slot} (h : fX5_order_169 N x1 x2 x3 x4 x5 x6 x7 x8 x9 z0 = some r) (hP : va_P D vwCl (wM cI cJ cZ ad z0) H) (hS : va_S A s.heap H locs) (hl : lv_has ls 13 [(0, .ref (ad 0)), (1, .int x1), (2, .int x2), (3, .int x3), (4, .int x4), (5, .int x5), (6, .int x6), (7, .int x7), (8, .int x8), (9, .int x9)]) : W p l e R s m args below meth c H locs 0 0 Q (F0 m 169 ls []) := by
  unfold fX5_order_169 at h
  have hx := C.1.1
  have hb := C.1.2.1
  refine lv_iconst (v := 0) hx hb dX5_order_169 (by decide) ?_
  exact wX5_order_170 C hR N x1 x2 x3 x4 x5 x6 x7 x8 x9 0 z0 h hP hS (lv_sub hl [0, 1, 2, 3, 4, 5, 6, 7, 8, 9] rfl)
set_option maxRecDepth 100000 in
set_option maxHeartbeats 4000000 in
theorem wX5_order_165 {p : Program} {l : Launch} {e : Env} {R : Room} {s : State} {m : MethodId} {args : Array Value} {below : List Frame} {meth : Method} {c : Code} {Q : State → Prop} {D : va_G} {cI cJ cZ : ClassId} {ad : Nat → Nat} {A : Nat → Prop} (C : Cx p s m args c cX5_order 13 wsX5_order RX5 D vwCl (tyl cI cJ cZ) (wM cI cJ cZ ad) A R 5 119) {r : (Int32 × SH)} (hR : Ri p l e R s m args below meth c cX5_order D vwCl (wM cI cJ cZ ad) A Q r) (N : Nat) (x1 : Int32) (x2 : Int32) (x3 : Int32) (x4 : Int32) (x5 : Int32) (x6 : Int32) (x7 : Int32) (x8 : Int32) (x9 : Int32) (z0 : SH) {H : Heap} {locs : List Loc} {ls : Array Slot} (h : fX5_order_165 N x1 x2 x3 x4 x5 x6 x7 x8 x9 z0 = some r) (hP : va_P D vwCl (wM cI cJ cZ ad z0) H) (hS : va_S A s.heap H locs) (hl : lv_has ls 13 [(0, .ref (ad 0)), (1, .int x1), (2, .int x2), (3, .int x3), (4, .int x4), (5, .int x5), (6, .int x6), (7, .int x7), (8, .int x8), (9, .int x9)]) : W p l e R s m args below meth c H locs 0 0 Q (F0 m 165 ls []) := by
  unfold fX5_order_165 at h
  have hx := C.1.1
  have hb := C.1.2.1
  refine lv_iconst (v := 1) hx hb dX5_order_165 (by decide) ?_
  refine lv_goto (tgt := 170) hx hb dX5_order_166 (by decide) ?_
  exact wX5_order_170 C hR N x1 x2 x3 x4 x5 x6 x7 x8 x9 1 z0 h hP hS (lv_sub hl [0, 1, 2, 3, 4, 5, 6, 7, 8, 9] rfl)
set_option maxRecDepth 100000 in
set_option maxHeartbeats 4000000 in
theorem wX5_order_87 {p : Program} {l : Launch} {e : Env} {R : Room} {s : State} {m : MethodId} {args : Array Value} {below : List Frame} {meth : Method} {c : Code} {Q : State → Prop} {D : va_G} {cI cJ cZ : ClassId} {ad : Nat → Nat} {A : Nat → Prop} (C : Cx p s m args c cX5_order 13 wsX5_order RX5 D vwCl (tyl cI cJ cZ) (wM cI cJ cZ ad) A R 5 119) {r : (Int32 × SH)} (hR : Ri p l e R s m args below meth c cX5_order D vwCl (wM cI cJ cZ ad) A Q r) (N : Nat) (x1 : Int32) (x2 : Int32) (x3 : Int32) (x4 : Int32) (x5 : Int32) (x6 : Int32) (x7 : Int32) (x8 : Int32) (t0 : Int32) (z0 : SH) {H : Heap} {locs : List Loc} {ls : Array Slot} (h : fX5_order_87 N x1 x2 x3 x4 x5 x6 x7 x8 t0 z0 = some r) (hP : va_P D vwCl (wM cI cJ cZ ad z0) H) (hS : va_S A s.heap H locs) (hl : lv_has ls 13 [(0, .ref (ad 0)), (1, .int x1), (2, .int x2), (3, .int x3), (4, .int x4), (5, .int x5), (6, .int x6), (7, .int x7), (8, .int x8)]) : W p l e R s m args below meth c H locs 0 0 Q (F0 m 87 ls [.int t0]) := by
  unfold fX5_order_87 at h
  have hx := C.1.1
  have hb := C.1.2.1
  refine lv_istore (lv' := [(9, .int t0), (0, .ref (ad 0)), (1, .int x1), (2, .int x2), (3, .int x3), (4, .int x4), (5, .int x5), (6, .int x6), (7, .int x7), (8, .int x8)]) hx hb dX5_order_87 hl (by decide) rfl (fun ls hl => ?_)
  refine lv_iload hx hb dX5_order_89 (lv_at hl 9 rfl) ?_
  refine lv_if_eq (tgt := 169) hx hb dX5_order_91 (by decide) (fun c1 => ?_) (fun c1 => ?_)
  · replace h := (ite_h h).1 c1
    exact wX5_order_169 C hR N x1 x2 x3 x4 x5 x6 x7 x8 t0 z0 h hP hS (lv_sub hl [1, 2, 3, 4, 5, 6, 7, 8, 9, 0] rfl)
  · replace h := (ite_h h).2 c1
    refine lv_iload hx hb dX5_order_94 (lv_at hl 0 rfl) ?_
    refine lv_if_eq (tgt := 169) hx hb dX5_order_96 (by decide) (fun c1 => ?_) (fun c1 => ?_)
    · replace h := (ite_h h).1 c1
      exact wX5_order_169 C hR N x1 x2 x3 x4 x5 x6 x7 x8 t0 z0 h hP hS (lv_sub hl [1, 2, 3, 4, 5, 6, 7, 8, 9, 0] rfl)
    · replace h := (ite_h h).2 c1
      refine lv_aload_n hx hb dX5_order_99 rfl (lv_at hl 1 rfl) ?_
      refine b_callVi (As := []) (rest := []) C hP hS h (mX5_there l D cI cJ cZ ad N z0) (cwV 0 C.1.2.2.2.2 gX5_order_X5_there rfl rfl rfl (by decide +kernel) ⟨Nat.le_trans (Nat.le_of_ble_eq_true rfl) C.2.2.2.2.1, Nat.le_trans (Nat.le_of_ble_eq_true rfl) C.2.2.2.2.2⟩) (va_recv C.2.1 hP (ci := 5) (q0 := 0) rfl (wM_0 cI cJ cZ ad z0)) rfl hl.1 rfl (Nat.le_of_ble_eq_true rfl) dX5_order_100 (fun v2 z1 _ _ h hP hS => ?_)
      refine lv_bipush (v := 100) hx hb dX5_order_103 (by decide) ?_
      refine lv_icmp_ge (tgt := 169) hx hb dX5_order_105 (by decide) (fun c1 => ?_) (fun c1 => ?_)
      · replace h := (ite_h h).1 c1
        exact wX5_order_169 C hR N x1 x2 x3 x4 x5 x6 x7 x8 t0 z1 h hP hS (lv_sub hl [1, 2, 3, 4, 5, 6, 7, 8, 9, 0] rfl)
      · replace h := (ite_h h).2 c1
        refine lv_iload_n hx hb dX5_order_108 rfl (lv_at hl 4 rfl) ?_
        refine lv_if_ne (tgt := 139) hx hb dX5_order_109 (by decide) (fun c1 => ?_) (fun c1 => ?_)
        · replace h := (ite_h h).2 c1
          refine lv_aload_n hx hb dX5_order_139 rfl (lv_at hl 1 rfl) ?_
          refine b_getr C hP iX5_order_X5 0 (wM_0 cI cJ cZ ad z1) rfl 4 (by decide) fX5_order_i16 rfl rfl dX5_order_140 ?_
          refine lv_iload_n hx hb dX5_order_143 rfl (lv_at hl 2 rfl) ?_
          refine lv_iload_n hx hb dX5_order_144 rfl (lv_at hl 3 rfl) ?_
          refine b_callSi (As := [.int x1, .int x2]) (rest := [.ref (ad 3)]) C hP hS h (mX5_cell l D cI cJ cZ ad x1 x2 z1) (va_cwS 2 C.1.2.2.2.2 gX5_order_X5_cell rfl rfl rfl (by decide +kernel) ⟨Nat.le_trans (Nat.le_of_ble_eq_true rfl) C.2.2.2.2.1, Nat.le_trans (Nat.le_of_ble_eq_true rfl) C.2.2.2.2.2⟩) rfl hl.1 rfl (Nat.le_of_ble_eq_true rfl) dX5_order_145 (fun v4 z3 _ _ h hP hS => ?_)
          refine b_iald C hP h 3 (wM_3 cI cJ cZ ad z3) 0 rfl dX5_order_148 (fun v5 h => ?_)
          refine lv_aload_n hx hb dX5_order_149 rfl (lv_at hl 1 rfl) ?_
          refine b_getr C hP iX5_order_X5 0 (wM_0 cI cJ cZ ad z3) rfl 5 (by decide) fX5_order_i20 rfl rfl dX5_order_150 ?_
          refine lv_iload_n hx hb dX5_order_153 rfl (lv_at hl 2 rfl) ?_
          refine lv_iload_n hx hb dX5_order_154 rfl (lv_at hl 3 rfl) ?_
          refine b_callSi (As := [.int x1, .int x2]) (rest := [.ref (ad 4), .int v5]) C hP hS h (mX5_cell l D cI cJ cZ ad x1 x2 z3) (va_cwS 2 C.1.2.2.2.2 gX5_order_X5_cell rfl rfl rfl (by decide +kernel) ⟨Nat.le_trans (Nat.le_of_ble_eq_true rfl) C.2.2.2.2.1, Nat.le_trans (Nat.le_of_ble_eq_true rfl) C.2.2.2.2.2⟩) rfl hl.1 rfl (Nat.le_of_ble_eq_true rfl) dX5_order_155 (fun v7 z6 _ _ h hP hS => ?_)
          refine b_iald C hP h 4 (wM_4 cI cJ cZ ad z6) 0 rfl dX5_order_158 (fun v8 h => ?_)
          refine lv_isub hx hb dX5_order_159 ?_
          refine lv_iload hx hb dX5_order_160 (lv_at hl 7 rfl) ?_
          refine lv_icmp_lt (tgt := 169) hx hb dX5_order_162 (by decide) (fun c1 => ?_) (fun c1 => ?_)
          · replace h := (ite_h h).1 c1
            exact wX5_order_169 C hR N x1 x2 x3 x4 x5 x6 x7 x8 t0 z6 h hP hS (lv_sub hl [1, 2, 3, 4, 5, 6, 7, 8, 9, 0] rfl)
          · replace h := (ite_h h).2 c1
            exact wX5_order_165 C hR N x1 x2 x3 x4 x5 x6 x7 x8 t0 z6 h hP hS (lv_sub hl [1, 2, 3, 4, 5, 6, 7, 8, 9, 0] rfl)
        · replace h := (ite_h h).1 c1
          refine lv_aload_n hx hb dX5_order_112 rfl (lv_at hl 1 rfl) ?_
          refine b_getr C hP iX5_order_X5 0 (wM_0 cI cJ cZ ad z1) rfl 2 (by decide) fX5_order_i7 rfl rfl dX5_order_113 ?_
          refine lv_iload_n hx hb dX5_order_116 rfl (lv_at hl 2 rfl) ?_
          refine b_lald C hP h 1 (wM_1 cI cJ cZ ad z1) 1 rfl dX5_order_117 (fun v9 h => ?_)
          refine lv_aload_n hx hb dX5_order_118 rfl (lv_at hl 1 rfl) ?_
          refine b_getr C hP iX5_order_X5 0 (wM_0 cI cJ cZ ad z1) rfl 3 (by decide) fX5_order_i13 rfl rfl dX5_order_119 ?_
          refine lv_iload_n hx hb dX5_order_122 rfl (lv_at hl 2 rfl) ?_
          refine b_lald C hP h 2 (wM_2 cI cJ cZ ad z1) 1 rfl dX5_order_123 (fun v10 h => ?_)
          refine lv_lsub hx hb dX5_order_124 ?_
          refine lv_iload hx hb dX5_order_125 (lv_at hl 6 rfl) ?_
          refine lv_i2l hx hb dX5_order_127 rfl ?_
          refine lv_iload hx hb dX5_order_128 (lv_at hl 7 rfl) ?_
          refine lv_i2l hx hb dX5_order_130 rfl ?_
          refine lv_lmul hx hb dX5_order_131 ?_
          refine W.lcmp hx hb dX5_order_132 ?_
          refine lv_if_lt (tgt := 169) hx hb dX5_order_133 (by decide) (fun c1 => ?_) (fun c1 => ?_)
          · replace h := (ite_h h).1 c1
            exact wX5_order_169 C hR N x1 x2 x3 x4 x5 x6 x7 x8 t0 z1 h hP hS (lv_sub hl [1, 2, 3, 4, 5, 6, 7, 8, 9, 0] rfl)
          · replace h := (ite_h h).2 c1
            refine lv_goto (tgt := 165) hx hb dX5_order_136 (by decide) ?_
            exact wX5_order_165 C hR N x1 x2 x3 x4 x5 x6 x7 x8 t0 z1 h hP hS (lv_sub hl [1, 2, 3, 4, 5, 6, 7, 8, 9, 0] rfl)
set_option maxRecDepth 100000 in
set_option maxHeartbeats 4000000 in
theorem wX5_order_86 {p : Program} {l : Launch} {e : Env} {R : Room} {s : State} {m : MethodId} {args : Array Value} {below : List Frame} {meth : Method} {c : Code} {Q : State → Prop} {D : va_G} {cI cJ cZ : ClassId} {ad : Nat → Nat} {A : Nat → Prop} (C : Cx p s m args c cX5_order 13 wsX5_order RX5 D vwCl (tyl cI cJ cZ) (wM cI cJ cZ ad) A R 5 119) {r : (Int32 × SH)} (hR : Ri p l e R s m args below meth c cX5_order D vwCl (wM cI cJ cZ ad) A Q r) (N : Nat) (x1 : Int32) (x2 : Int32) (x3 : Int32) (x4 : Int32) (x5 : Int32) (x6 : Int32) (x7 : Int32) (x8 : Int32) (z0 : SH) {H : Heap} {locs : List Loc} {ls : Array Slot} (h : fX5_order_86 N x1 x2 x3 x4 x5 x6 x7 x8 z0 = some r) (hP : va_P D vwCl (wM cI cJ cZ ad z0) H) (hS : va_S A s.heap H locs) (hl : lv_has ls 13 [(0, .ref (ad 0)), (1, .int x1), (2, .int x2), (3, .int x3), (4, .int x4), (5, .int x5), (6, .int x6), (7, .int x7), (8, .int x8)]) : W p l e R s m args below meth c H locs 0 0 Q (F0 m 86 ls []) := by
  unfold fX5_order_86 at h
  have hx := C.1.1
  have hb := C.1.2.1
  refine lv_iconst (v := 0) hx hb dX5_order_86 (by decide) ?_
  exact wX5_order_87 C hR N x1 x2 x3 x4 x5 x6 x7 x8 0 z0 h hP hS (lv_sub hl [0, 1, 2, 3, 4, 5, 6, 7, 8] rfl)
set_option maxRecDepth 100000 in
set_option maxHeartbeats 4000000 in
theorem wX5_order_82 {p : Program} {l : Launch} {e : Env} {R : Room} {s : State} {m : MethodId} {args : Array Value} {below : List Frame} {meth : Method} {c : Code} {Q : State → Prop} {D : va_G} {cI cJ cZ : ClassId} {ad : Nat → Nat} {A : Nat → Prop} (C : Cx p s m args c cX5_order 13 wsX5_order RX5 D vwCl (tyl cI cJ cZ) (wM cI cJ cZ ad) A R 5 119) {r : (Int32 × SH)} (hR : Ri p l e R s m args below meth c cX5_order D vwCl (wM cI cJ cZ ad) A Q r) (N : Nat) (x1 : Int32) (x2 : Int32) (x3 : Int32) (x4 : Int32) (x5 : Int32) (x6 : Int32) (x7 : Int32) (x8 : Int32) (z0 : SH) {H : Heap} {locs : List Loc} {ls : Array Slot} (h : fX5_order_82 N x1 x2 x3 x4 x5 x6 x7 x8 z0 = some r) (hP : va_P D vwCl (wM cI cJ cZ ad z0) H) (hS : va_S A s.heap H locs) (hl : lv_has ls 13 [(0, .ref (ad 0)), (1, .int x1), (2, .int x2), (3, .int x3), (4, .int x4), (5, .int x5), (6, .int x6), (7, .int x7), (8, .int x8)]) : W p l e R s m args below meth c H locs 0 0 Q (F0 m 82 ls []) := by
  unfold fX5_order_82 at h
  have hx := C.1.1
  have hb := C.1.2.1
  refine lv_iconst (v := 1) hx hb dX5_order_82 (by decide) ?_
  refine lv_goto (tgt := 87) hx hb dX5_order_83 (by decide) ?_
  exact wX5_order_87 C hR N x1 x2 x3 x4 x5 x6 x7 x8 1 z0 h hP hS (lv_sub hl [0, 1, 2, 3, 4, 5, 6, 7, 8] rfl)
set_option maxRecDepth 100000 in
set_option maxHeartbeats 4000000 in
theorem wX5_order_19 {p : Program} {l : Launch} {e : Env} {R : Room} {s : State} {m : MethodId} {args : Array Value} {below : List Frame} {meth : Method} {c : Code} {Q : State → Prop} {D : va_G} {cI cJ cZ : ClassId} {ad : Nat → Nat} {A : Nat → Prop} (C : Cx p s m args c cX5_order 13 wsX5_order RX5 D vwCl (tyl cI cJ cZ) (wM cI cJ cZ ad) A R 5 119) {r : (Int32 × SH)} (hR : Ri p l e R s m args below meth c cX5_order D vwCl (wM cI cJ cZ ad) A Q r) (N : Nat) (x1 : Int32) (x2 : Int32) (x3 : Int32) (x4 : Int32) (x5 : Int32) (x6 : Int32) (x7 : Int32) (t0 : Int32) (z0 : SH) {H : Heap} {locs : List Loc} {ls : Array Slot} (h : fX5_order_19 N x1 x2 x3 x4 x5 x6 x7 t0 z0 = some r) (hP : va_P D vwCl (wM cI cJ cZ ad z0) H) (hS : va_S A s.heap H locs) (hl : lv_has ls 13 [(0, .ref (ad 0)), (1, .int x1), (2, .int x2), (3, .int x3), (4, .int x4), (5, .int x5), (6, .int x6), (7, .int x7)]) : W p l e R s m args below meth c H locs 0 0 Q (F0 m 19 ls [.int t0]) := by
  unfold fX5_order_19 at h
  have hx := C.1.1
  have hb := C.1.2.1
  refine lv_istore (lv' := [(8, .int t0), (0, .ref (ad 0)), (1, .int x1), (2, .int x2), (3, .int x3), (4, .int x4), (5, .int x5), (6, .int x6), (7, .int x7)]) hx hb dX5_order_19 hl (by decide) rfl (fun ls hl => ?_)
  refine lv_iload_n hx hb dX5_order_21 rfl (lv_at hl 4 rfl) ?_
  refine lv_iconst (v := 0) hx hb dX5_order_22 (by decide) ?_
  refine lv_iconst (v := 1) hx hb dX5_order_23 (by decide) ?_
  refine b_callSi (As := [.int x3, .int 0, .int 1]) (rest := []) C hP hS h (mX5_isIn l D cI cJ cZ ad x3 0 1 z0) (va_cwS 3 C.1.2.2.2.2 gX5_order_X5_isIn rfl rfl rfl (by decide +kernel) ⟨Nat.le_trans (Nat.le_of_ble_eq_true rfl) C.2.2.2.2.1, Nat.le_trans (Nat.le_of_ble_eq_true rfl) C.2.2.2.2.2⟩) rfl hl.1 rfl (Nat.le_of_ble_eq_true rfl) dX5_order_24 (fun v2 z1 _ _ h hP hS => ?_)
  refine lv_if_eq (tgt := 86) hx hb dX5_order_27 (by decide) (fun c1 => ?_) (fun c1 => ?_)
  · replace h := (ite_h h).1 c1
    exact wX5_order_86 C hR N x1 x2 x3 x4 x5 x6 x7 t0 z1 h hP hS (lv_sub hl [1, 2, 3, 4, 5, 6, 7, 8, 0] rfl)
  · replace h := (ite_h h).2 c1
    refine lv_iload hx hb dX5_order_30 (lv_at hl 5 rfl) ?_
    refine lv_iconst (v := 0) hx hb dX5_order_32 (by decide) ?_
    refine lv_iconst (v := 5) hx hb dX5_order_33 (by decide) ?_
    refine b_callSi (As := [.int x4, .int 0, .int 5]) (rest := []) C hP hS h (mX5_isIn l D cI cJ cZ ad x4 0 5 z1) (va_cwS 3 C.1.2.2.2.2 gX5_order_X5_isIn rfl rfl rfl (by decide +kernel) ⟨Nat.le_trans (Nat.le_of_ble_eq_true rfl) C.2.2.2.2.1, Nat.le_trans (Nat.le_of_ble_eq_true rfl) C.2.2.2.2.2⟩) rfl hl.1 rfl (Nat.le_of_ble_eq_true rfl) dX5_order_34 (fun v4 z3 _ _ h hP hS => ?_)
    refine lv_if_eq (tgt := 86) hx hb dX5_order_37 (by decide) (fun c1 => ?_) (fun c1 => ?_)
    · replace h := (ite_h h).1 c1
      exact wX5_order_86 C hR N x1 x2 x3 x4 x5 x6 x7 t0 z3 h hP hS (lv_sub hl [1, 2, 3, 4, 5, 6, 7, 8, 0] rfl)
    · replace h := (ite_h h).2 c1
      refine lv_iload hx hb dX5_order_40 (lv_at hl 6 rfl) ?_
      refine lv_iconst (v := 1) hx hb dX5_order_42 (by decide) ?_
      refine lv_sipush (v := 10000) hx hb dX5_order_43 (by decide) ?_
      refine b_callSi (As := [.int x5, .int 1, .int 10000]) (rest := []) C hP hS h (mX5_isIn l D cI cJ cZ ad x5 1 10000 z3) (va_cwS 3 C.1.2.2.2.2 gX5_order_X5_isIn rfl rfl rfl (by decide +kernel) ⟨Nat.le_trans (Nat.le_of_ble_eq_true rfl) C.2.2.2.2.1, Nat.le_trans (Nat.le_of_ble_eq_true rfl) C.2.2.2.2.2⟩) rfl hl.1 rfl (Nat.le_of_ble_eq_true rfl) dX5_order_46 (fun v6 z5 _ _ h hP hS => ?_)
      refine lv_if_eq (tgt := 86) hx hb dX5_order_49 (by decide) (fun c1 => ?_) (fun c1 => ?_)
      · replace h := (ite_h h).1 c1
        exact wX5_order_86 C hR N x1 x2 x3 x4 x5 x6 x7 t0 z5 h hP hS (lv_sub hl [1, 2, 3, 4, 5, 6, 7, 8, 0] rfl)
      · replace h := (ite_h h).2 c1
        refine lv_iload hx hb dX5_order_52 (lv_at hl 7 rfl) ?_
        refine lv_iconst (v := 1) hx hb dX5_order_54 (by decide) ?_
        refine lv_sipush (v := 10000) hx hb dX5_order_55 (by decide) ?_
        refine b_callSi (As := [.int x6, .int 1, .int 10000]) (rest := []) C hP hS h (mX5_isIn l D cI cJ cZ ad x6 1 10000 z5) (va_cwS 3 C.1.2.2.2.2 gX5_order_X5_isIn rfl rfl rfl (by decide +kernel) ⟨Nat.le_trans (Nat.le_of_ble_eq_true rfl) C.2.2.2.2.1, Nat.le_trans (Nat.le_of_ble_eq_true rfl) C.2.2.2.2.2⟩) rfl hl.1 rfl (Nat.le_of_ble_eq_true rfl) dX5_order_58 (fun v8 z7 _ _ h hP hS => ?_)
        refine lv_if_eq (tgt := 86) hx hb dX5_order_61 (by decide) (fun c1 => ?_) (fun c1 => ?_)
        · replace h := (ite_h h).1 c1
          exact wX5_order_86 C hR N x1 x2 x3 x4 x5 x6 x7 t0 z7 h hP hS (lv_sub hl [1, 2, 3, 4, 5, 6, 7, 8, 0] rfl)
        · replace h := (ite_h h).2 c1
          refine lv_iload hx hb dX5_order_64 (lv_at hl 5 rfl) ?_
          refine lv_iconst (v := 4) hx hb dX5_order_66 (by decide) ?_
          refine lv_icmp_lt (tgt := 82) hx hb dX5_order_67 (by decide) (fun c1 => ?_) (fun c1 => ?_)
          · replace h := (ite_h h).1 c1
            exact wX5_order_82 C hR N x1 x2 x3 x4 x5 x6 x7 t0 z7 h hP hS (lv_sub hl [1, 2, 3, 4, 5, 6, 7, 8, 0] rfl)
          · replace h := (ite_h h).2 c1
            refine lv_iload hx hb dX5_order_70 (lv_at hl 8 rfl) ?_
            refine lv_iconst (v := 1) hx hb dX5_order_72 (by decide) ?_
            refine lv_sipush (v := 10000) hx hb dX5_order_73 (by decide) ?_
            refine b_callSi (As := [.int x7, .int 1, .int 10000]) (rest := []) C hP hS h (mX5_isIn l D cI cJ cZ ad x7 1 10000 z7) (va_cwS 3 C.1.2.2.2.2 gX5_order_X5_isIn rfl rfl rfl (by decide +kernel) ⟨Nat.le_trans (Nat.le_of_ble_eq_true rfl) C.2.2.2.2.1, Nat.le_trans (Nat.le_of_ble_eq_true rfl) C.2.2.2.2.2⟩) rfl hl.1 rfl (Nat.le_of_ble_eq_true rfl) dX5_order_76 (fun v10 z9 _ _ h hP hS => ?_)
            refine lv_if_eq (tgt := 86) hx hb dX5_order_79 (by decide) (fun c1 => ?_) (fun c1 => ?_)
            · replace h := (ite_h h).1 c1
              exact wX5_order_86 C hR N x1 x2 x3 x4 x5 x6 x7 t0 z9 h hP hS (lv_sub hl [1, 2, 3, 4, 5, 6, 7, 8, 0] rfl)
            · replace h := (ite_h h).2 c1
              exact wX5_order_82 C hR N x1 x2 x3 x4 x5 x6 x7 t0 z9 h hP hS (lv_sub hl [1, 2, 3, 4, 5, 6, 7, 8, 0] rfl)
set_option maxRecDepth 100000 in
set_option maxHeartbeats 4000000 in
theorem wX5_order_18 {p : Program} {l : Launch} {e : Env} {R : Room} {s : State} {m : MethodId} {args : Array Value} {below : List Frame} {meth : Method} {c : Code} {Q : State → Prop} {D : va_G} {cI cJ cZ : ClassId} {ad : Nat → Nat} {A : Nat → Prop} (C : Cx p s m args c cX5_order 13 wsX5_order RX5 D vwCl (tyl cI cJ cZ) (wM cI cJ cZ ad) A R 5 119) {r : (Int32 × SH)} (hR : Ri p l e R s m args below meth c cX5_order D vwCl (wM cI cJ cZ ad) A Q r) (N : Nat) (x1 : Int32) (x2 : Int32) (x3 : Int32) (x4 : Int32) (x5 : Int32) (x6 : Int32) (x7 : Int32) (z0 : SH) {H : Heap} {locs : List Loc} {ls : Array Slot} (h : fX5_order_18 N x1 x2 x3 x4 x5 x6 x7 z0 = some r) (hP : va_P D vwCl (wM cI cJ cZ ad z0) H) (hS : va_S A s.heap H locs) (hl : lv_has ls 13 [(0, .ref (ad 0)), (1, .int x1), (2, .int x2), (3, .int x3), (4, .int x4), (5, .int x5), (6, .int x6), (7, .int x7)]) : W p l e R s m args below meth c H locs 0 0 Q (F0 m 18 ls []) := by
  unfold fX5_order_18 at h
  have hx := C.1.1
  have hb := C.1.2.1
  refine lv_iconst (v := 0) hx hb dX5_order_18 (by decide) ?_
  exact wX5_order_19 C hR N x1 x2 x3 x4 x5 x6 x7 0 z0 h hP hS (lv_sub hl [0, 1, 2, 3, 4, 5, 6, 7] rfl)
set_option maxRecDepth 100000 in
set_option maxHeartbeats 4000000 in
theorem wX5_order {p : Program} {l : Launch} {e : Env} {R : Room} {s : State} {m : MethodId} {args : Array Value} {below : List Frame} {meth : Method} {c : Code} {Q : State → Prop} {D : va_G} {cI cJ cZ : ClassId} {ad : Nat → Nat} {A : Nat → Prop} (C : Cx p s m args c cX5_order 13 wsX5_order RX5 D vwCl (tyl cI cJ cZ) (wM cI cJ cZ ad) A R 5 119) {r : (Int32 × SH)} (hR : Ri p l e R s m args below meth c cX5_order D vwCl (wM cI cJ cZ ad) A Q r) (N : Nat) (a1 : Int32) (a2 : Int32) (a3 : Int32) (a4 : Int32) (a5 : Int32) (a6 : Int32) (a7 : Int32) (z0 : SH) {H : Heap} {locs : List Loc} {ls : Array Slot} (h : fX5_order N a1 a2 a3 a4 a5 a6 a7 z0 = some r) (hP : va_P D vwCl (wM cI cJ cZ ad z0) H) (hS : va_S A s.heap H locs) (hl : lv_has ls 13 [(0, .ref (ad 0)), (1, .int a1), (2, .int a2), (3, .int a3), (4, .int a4), (5, .int a5), (6, .int a6), (7, .int a7)]) : W p l e R s m args below meth c H locs 0 0 Q (F0 m 0 ls []) := by
  unfold fX5_order at h
  have hx := C.1.1
  have hb := C.1.2.1
  refine lv_iload_n hx hb dX5_order_0 rfl (lv_at hl 1 rfl) ?_
  refine b_callSi (As := [.int a1]) (rest := []) C hP hS h (mX5_isAccount l D cI cJ cZ ad a1 z0) (va_cwS 1 C.1.2.2.2.2 gX5_order_X5_isAccount rfl rfl rfl (by decide +kernel) ⟨Nat.le_trans (Nat.le_of_ble_eq_true rfl) C.2.2.2.2.1, Nat.le_trans (Nat.le_of_ble_eq_true rfl) C.2.2.2.2.2⟩) rfl hl.1 rfl (Nat.le_of_ble_eq_true rfl) dX5_order_1 (fun v2 z1 _ _ h hP hS => ?_)
  refine lv_if_eq (tgt := 18) hx hb dX5_order_4 (by decide) (fun c1 => ?_) (fun c1 => ?_)
  · replace h := (ite_h h).1 c1
    exact wX5_order_18 C hR N a1 a2 a3 a4 a5 a6 a7 z1 h hP hS (lv_sub hl [0, 1, 2, 3, 4, 5, 6, 7] rfl)
  · replace h := (ite_h h).2 c1
    refine lv_iload_n hx hb dX5_order_7 rfl (lv_at hl 2 rfl) ?_
    refine b_callSi (As := [.int a2]) (rest := []) C hP hS h (mX5_isSymbol l D cI cJ cZ ad a2 z1) (va_cwS 1 C.1.2.2.2.2 gX5_order_X5_isSymbol rfl rfl rfl (by decide +kernel) ⟨Nat.le_trans (Nat.le_of_ble_eq_true rfl) C.2.2.2.2.1, Nat.le_trans (Nat.le_of_ble_eq_true rfl) C.2.2.2.2.2⟩) rfl hl.1 rfl (Nat.le_of_ble_eq_true rfl) dX5_order_8 (fun v4 z3 _ _ h hP hS => ?_)
    refine lv_if_eq (tgt := 18) hx hb dX5_order_11 (by decide) (fun c1 => ?_) (fun c1 => ?_)
    · replace h := (ite_h h).1 c1
      exact wX5_order_18 C hR N a1 a2 a3 a4 a5 a6 a7 z3 h hP hS (lv_sub hl [0, 1, 2, 3, 4, 5, 6, 7] rfl)
    · replace h := (ite_h h).2 c1
      refine lv_iconst (v := 1) hx hb dX5_order_14 (by decide) ?_
      refine lv_goto (tgt := 19) hx hb dX5_order_15 (by decide) ?_
      exact wX5_order_19 C hR N a1 a2 a3 a4 a5 a6 a7 1 z3 h hP hS (lv_sub hl [0, 1, 2, 3, 4, 5, 6, 7] rfl)
theorem mX5_order (l : Launch) (D : va_G) (cI cJ cZ : ClassId) (ad : Nat → Nat) (N : Nat) (a1 : Int32) (a2 : Int32) (a3 : Int32) (a4 : Int32) (a5 : Int32) (a6 : Int32) (a7 : Int32) (z0 : SH) : ∀ (q : (Int32 × SH)) (sz : Nat), fX5_order N a1 a2 a3 a4 a5 a6 a7 z0 = some q → Met l yX5_order wsX5_order rmX5_order (cP D vwCl (tyl cI cJ cZ) (wM cI cJ cZ ad z0) sz [.ref (ad 0), .int a1, .int a2, .int a3, .int a4, .int a5, .int a6, .int a7]) (cQi D vwCl (wM cI cJ cZ ad) z0 sz q) 0 0 (va_A (wM cI cJ cZ ad z0) sz) := by
  intro q sz h
  refine ofW_i (cc := cX5_order) (maxL := 13) (by decide) rfl (wM_same cI cJ cZ ad) (Nat.le_of_ble_eq_true rfl) (fun p e s m below meth c ls hsz C hR hP hl => ?_)
  exact wX5_order C hR N a1 a2 a3 a4 a5 a6 a7 z0 h hP va_S.rf hl
abbrev rmX5_refusal : Room := { frames := 2, cells := 0, slots := 0, locals := 42 }
theorem fX5_refusal_i116 : Cond.fieldLink RX5 116 (TX5 9).1 (TX5 9).2.1 (TX5 9).2.2.1 ∈ wsX5_refusal := by decide +kernel
theorem fX5_refusal_i33 : Cond.fieldLink RX5 33 (TX5 10).1 (TX5 10).2.1 (TX5 10).2.2.1 ∈ wsX5_refusal := by decide +kernel
theorem iX5_refusal_X5 : ∀ x ∈ wsX50, x ∈ wsX5_refusal := by decide +kernel
set_option maxRecDepth 100000 in
set_option maxHeartbeats 4000000 in
theorem wX5_refusal_21 {p : Program} {l : Launch} {e : Env} {R : Room} {s : State} {m : MethodId} {args : Array Value} {below : List Frame} {meth : Method} {c : Code} {Q : State → Prop} {D : va_G} {cI cJ cZ : ClassId} {ad : Nat → Nat} {A : Nat → Prop} (C : Cx p s m args c cX5_refusal 4 wsX5_refusal RX5 D vwCl (tyl cI cJ cZ) (wM cI cJ cZ ad) A R 2 42) {r : (Int32 × SH)} (hR : Ri p l e R s m args below meth c cX5_refusal D vwCl (wM cI cJ cZ ad) A Q r) (z0 : SH) {H : Heap} {locs : List Loc} {ls : Array Slot} (h : fX5_refusal_21 z0 = some r) (hP : va_P D vwCl (wM cI cJ cZ ad z0) H) (hS : va_S A s.heap H locs) (hl : lv_has ls 4 []) : W p l e R s m args below meth c H locs 0 0 Q (F0 m 21 ls []) := by
  unfold fX5_refusal_21 at h
  have hx := C.1.1
  have hb := C.1.2.1
  refine lv_iconst (v := 1) hx hb dX5_refusal_21 (by decide) ?_
  exact hR 22 _ _ _ _ _ (Option.some.inj h).symm dX5_refusal_22 hP hS
set_option maxRecDepth 100000 in
set_option maxHeartbeats 4000000 in
theorem wX5_refusal_54 {p : Program} {l : Launch} {e : Env} {R : Room} {s : State} {m : MethodId} {args : Array Value} {below : List Frame} {meth : Method} {c : Code} {Q : State → Prop} {D : va_G} {cI cJ cZ : ClassId} {ad : Nat → Nat} {A : Nat → Prop} (C : Cx p s m args c cX5_refusal 4 wsX5_refusal RX5 D vwCl (tyl cI cJ cZ) (wM cI cJ cZ ad) A R 2 42) {r : (Int32 × SH)} (hR : Ri p l e R s m args below meth c cX5_refusal D vwCl (wM cI cJ cZ ad) A Q r) (t0 : Int32) (z0 : SH) {H : Heap} {locs : List Loc} {ls : Array Slot} (h : fX5_refusal_54 t0 z0 = some r) (hP : va_P D vwCl (wM cI cJ cZ ad z0) H) (hS : va_S A s.heap H locs) (hl : lv_has ls 4 []) : W p l e R s m args below meth c H locs 0 0 Q (F0 m 54 ls [.int t0]) := by
  unfold fX5_refusal_54 at h
  have hx := C.1.1
  have hb := C.1.2.1
  exact hR 54 _ _ _ _ _ (Option.some.inj h).symm dX5_refusal_54 hP hS
set_option maxRecDepth 100000 in
set_option maxHeartbeats 4000000 in
theorem wX5_refusal_37 {p : Program} {l : Launch} {e : Env} {R : Room} {s : State} {m : MethodId} {args : Array Value} {below : List Frame} {meth : Method} {c : Code} {Q : State → Prop} {D : va_G} {cI cJ cZ : ClassId} {ad : Nat → Nat} {A : Nat → Prop} (C : Cx p s m args c cX5_refusal 4 wsX5_refusal RX5 D vwCl (tyl cI cJ cZ) (wM cI cJ cZ ad) A R 2 42) {r : (Int32 × SH)} (hR : Ri p l e R s m args below meth c cX5_refusal D vwCl (wM cI cJ cZ ad) A Q r) (z0 : SH) {H : Heap} {locs : List Loc} {ls : Array Slot} (h : fX5_refusal_37 z0 = some r) (hP : va_P D vwCl (wM cI cJ cZ ad z0) H) (hS : va_S A s.heap H locs) (hl : lv_has ls 4 []) : W p l e R s m args below meth c H locs 0 0 Q (F0 m 37 ls []) := by
  unfold fX5_refusal_37 at h
  have hx := C.1.1
  have hb := C.1.2.1
  refine lv_iconst (v := 2) hx hb dX5_refusal_37 (by decide) ?_
  refine lv_goto (tgt := 54) hx hb dX5_refusal_38 (by decide) ?_
  exact wX5_refusal_54 C hR 2 z0 h hP hS (lv_sub hl [] rfl)
set_option maxRecDepth 100000 in
set_option maxHeartbeats 4000000 in
theorem wX5_refusal {p : Program} {l : Launch} {e : Env} {R : Room} {s : State} {m : MethodId} {args : Array Value} {below : List Frame} {meth : Method} {c : Code} {Q : State → Prop} {D : va_G} {cI cJ cZ : ClassId} {ad : Nat → Nat} {A : Nat → Prop} (C : Cx p s m args c cX5_refusal 4 wsX5_refusal RX5 D vwCl (tyl cI cJ cZ) (wM cI cJ cZ ad) A R 2 42) {r : (Int32 × SH)} (hR : Ri p l e R s m args below meth c cX5_refusal D vwCl (wM cI cJ cZ ad) A Q r) (a1 : Int32) (a2 : Int32) (a3 : Int32) (z0 : SH) {H : Heap} {locs : List Loc} {ls : Array Slot} (h : fX5_refusal a1 a2 a3 z0 = some r) (hP : va_P D vwCl (wM cI cJ cZ ad z0) H) (hS : va_S A s.heap H locs) (hl : lv_has ls 4 [(0, .ref (ad 0)), (1, .int a1), (2, .int a2), (3, .int a3)]) : W p l e R s m args below meth c H locs 0 0 Q (F0 m 0 ls []) := by
  unfold fX5_refusal at h
  have hx := C.1.1
  have hb := C.1.2.1
  refine lv_iload_n hx hb dX5_refusal_0 rfl (lv_at hl 1 rfl) ?_
  refine b_callSi (As := [.int a1]) (rest := []) C hP hS h (mX5_isAccount l D cI cJ cZ ad a1 z0) (va_cwS 1 C.1.2.2.2.2 gX5_refusal_X5_isAccount rfl rfl rfl (by decide +kernel) ⟨Nat.le_trans (Nat.le_of_ble_eq_true rfl) C.2.2.2.2.1, Nat.le_trans (Nat.le_of_ble_eq_true rfl) C.2.2.2.2.2⟩) rfl hl.1 rfl (Nat.le_of_ble_eq_true rfl) dX5_refusal_1 (fun v2 z1 _ _ h hP hS => ?_)
  refine lv_if_eq (tgt := 21) hx hb dX5_refusal_4 (by decide) (fun c1 => ?_) (fun c1 => ?_)
  · replace h := (ite_h h).1 c1
    exact wX5_refusal_21 C hR z1 h hP hS (lv_sub hl [] rfl)
  · replace h := (ite_h h).2 c1
    refine lv_iload_n hx hb dX5_refusal_7 rfl (lv_at hl 2 rfl) ?_
    refine lv_iconst (v := 0) hx hb dX5_refusal_8 (by decide) ?_
    refine lv_aload_n hx hb dX5_refusal_9 rfl (lv_at hl 0 rfl) ?_
    refine b_geti C hP h iX5_refusal_X5 0 (wM_0 cI cJ cZ ad z1) rfl 9 (by decide) fX5_refusal_i116 rfl rfl dX5_refusal_10 (fun v3 h => ?_)
    refine lv_iconst (v := 1) hx hb dX5_refusal_13 (by decide) ?_
    refine lv_isub hx hb dX5_refusal_14 ?_
    refine b_callSi (As := [.int a2, .int 0, .int (v3 - 1)]) (rest := []) C hP hS h (mX5_isIn l D cI cJ cZ ad a2 0 (v3 - 1) z1) (va_cwS 3 C.1.2.2.2.2 gX5_refusal_X5_isIn rfl rfl rfl (by decide +kernel) ⟨Nat.le_trans (Nat.le_of_ble_eq_true rfl) C.2.2.2.2.1, Nat.le_trans (Nat.le_of_ble_eq_true rfl) C.2.2.2.2.2⟩) rfl hl.1 rfl (Nat.le_of_ble_eq_true rfl) dX5_refusal_15 (fun v5 z4 _ _ h hP hS => ?_)
    refine lv_if_ne (tgt := 23) hx hb dX5_refusal_18 (by decide) (fun c1 => ?_) (fun c1 => ?_)
    · replace h := (ite_h h).2 c1
      refine lv_aload_n hx hb dX5_refusal_23 rfl (lv_at hl 0 rfl) ?_
      refine b_getr C hP iX5_refusal_X5 0 (wM_0 cI cJ cZ ad z4) rfl 10 (by decide) fX5_refusal_i33 rfl rfl dX5_refusal_24 ?_
      refine lv_iload_n hx hb dX5_refusal_27 rfl (lv_at hl 2 rfl) ?_
      refine b_iald C hP h 8 (wM_8 cI cJ cZ ad z4) 0 rfl dX5_refusal_28 (fun v6 h => ?_)
      refine lv_iload_n hx hb dX5_refusal_29 rfl (lv_at hl 1 rfl) ?_
      refine lv_icmp_ne (tgt := 37) hx hb dX5_refusal_30 (by decide) (fun c1 => ?_) (fun c1 => ?_)
      · replace h := (ite_h h).2 c1
        exact wX5_refusal_37 C hR z4 h hP hS (lv_sub hl [] rfl)
      · replace h := (ite_h h).1 c1
        refine lv_iload_n hx hb dX5_refusal_33 rfl (lv_at hl 3 rfl) ?_
        refine lv_if_ne (tgt := 41) hx hb dX5_refusal_34 (by decide) (fun c1 => ?_) (fun c1 => ?_)
        · replace h := (ite_h h).2 c1
          refine lv_aload_n hx hb dX5_refusal_41 rfl (lv_at hl 0 rfl) ?_
          refine lv_iload_n hx hb dX5_refusal_42 rfl (lv_at hl 2 rfl) ?_
          refine b_callVi (As := [.int a2]) (rest := []) C hP hS h (mX5_isThere l D cI cJ cZ ad a2 z4) (cwV 1 C.1.2.2.2.2 gX5_refusal_X5_isThere rfl rfl rfl (by decide +kernel) ⟨Nat.le_trans (Nat.le_of_ble_eq_true rfl) C.2.2.2.2.1, Nat.le_trans (Nat.le_of_ble_eq_true rfl) C.2.2.2.2.2⟩) (va_recv C.2.1 hP (ci := 5) (q0 := 0) rfl (wM_0 cI cJ cZ ad z4)) rfl hl.1 rfl (Nat.le_of_ble_eq_true rfl) dX5_refusal_43 (fun v8 z7 _ _ h hP hS => ?_)
          refine lv_if_ne (tgt := 53) hx hb dX5_refusal_46 (by decide) (fun c1 => ?_) (fun c1 => ?_)
          · replace h := (ite_h h).2 c1
            refine lv_iconst (v := 0) hx hb dX5_refusal_53 (by decide) ?_
            exact wX5_refusal_54 C hR 0 z7 h hP hS (lv_sub hl [] rfl)
          · replace h := (ite_h h).1 c1
            refine lv_iconst (v := 3) hx hb dX5_refusal_49 (by decide) ?_
            refine lv_goto (tgt := 54) hx hb dX5_refusal_50 (by decide) ?_
            exact wX5_refusal_54 C hR 3 z7 h hP hS (lv_sub hl [] rfl)
        · replace h := (ite_h h).1 c1
          exact wX5_refusal_37 C hR z4 h hP hS (lv_sub hl [] rfl)
    · replace h := (ite_h h).1 c1
      exact wX5_refusal_21 C hR z4 h hP hS (lv_sub hl [] rfl)
theorem mX5_refusal (l : Launch) (D : va_G) (cI cJ cZ : ClassId) (ad : Nat → Nat) (a1 : Int32) (a2 : Int32) (a3 : Int32) (z0 : SH) : ∀ (q : (Int32 × SH)) (sz : Nat), fX5_refusal a1 a2 a3 z0 = some q → Met l yX5_refusal wsX5_refusal rmX5_refusal (cP D vwCl (tyl cI cJ cZ) (wM cI cJ cZ ad z0) sz [.ref (ad 0), .int a1, .int a2, .int a3]) (cQi D vwCl (wM cI cJ cZ ad) z0 sz q) 0 0 (va_A (wM cI cJ cZ ad z0) sz) := by
  intro q sz h
  refine ofW_i (cc := cX5_refusal) (maxL := 4) (by decide) rfl (wM_same cI cJ cZ ad) (Nat.le_of_ble_eq_true rfl) (fun p e s m below meth c ls hsz C hR hP hl => ?_)
  exact wX5_refusal C hR a1 a2 a3 z0 h hP va_S.rf hl
abbrev rmX5_cancel : Room := { frames := 3, cells := 0, slots := 0, locals := 65 }
theorem fX5_cancel_i48 : Cond.fieldLink RX5 48 (TX5 15).1 (TX5 15).2.1 (TX5 15).2.2.1 ∈ wsX5_cancel := by decide +kernel
theorem fX5_cancel_i93 : Cond.fieldLink RX5 93 (TX5 0).1 (TX5 0).2.1 (TX5 0).2.2.1 ∈ wsX5_cancel := by decide +kernel
theorem iX5_cancel_X5 : ∀ x ∈ wsX50, x ∈ wsX5_cancel := by decide +kernel
set_option maxRecDepth 100000 in
set_option maxHeartbeats 4000000 in
theorem wX5_cancel {p : Program} {l : Launch} {e : Env} {R : Room} {s : State} {m : MethodId} {args : Array Value} {below : List Frame} {meth : Method} {c : Code} {Q : State → Prop} {D : va_G} {cI cJ cZ : ClassId} {ad : Nat → Nat} {A : Nat → Prop} (C : Cx p s m args c cX5_cancel 4 wsX5_cancel RX5 D vwCl (tyl cI cJ cZ) (wM cI cJ cZ ad) A R 3 65) {r : (Int32 × SH)} (hR : Ri p l e R s m args below meth c cX5_cancel D vwCl (wM cI cJ cZ ad) A Q r) (a1 : Int32) (a2 : Int32) (z0 : SH) {H : Heap} {locs : List Loc} {ls : Array Slot} (h : fX5_cancel a1 a2 z0 = some r) (hP : va_P D vwCl (wM cI cJ cZ ad z0) H) (hS : va_S A s.heap H locs) (hl : lv_has ls 4 [(0, .ref (ad 0)), (1, .int a1), (2, .int a2)]) : W p l e R s m args below meth c H locs 0 0 Q (F0 m 0 ls []) := by
  unfold fX5_cancel at h
  have hx := C.1.1
  have hb := C.1.2.1
  refine lv_aload_n hx hb dX5_cancel_0 rfl (lv_at hl 0 rfl) ?_
  refine lv_aload_n hx hb dX5_cancel_1 rfl (lv_at hl 0 rfl) ?_
  refine lv_iload_n hx hb dX5_cancel_2 rfl (lv_at hl 1 rfl) ?_
  refine lv_iload_n hx hb dX5_cancel_3 rfl (lv_at hl 2 rfl) ?_
  refine lv_iconst (v := 1) hx hb dX5_cancel_4 (by decide) ?_
  refine b_callVi (As := [.int a1, .int a2, .int 1]) (rest := [.ref (ad 0)]) C hP hS h (mX5_refusal l D cI cJ cZ ad a1 a2 1 z0) (cwV 3 C.1.2.2.2.2 gX5_cancel_X5_refusal rfl rfl rfl (by decide +kernel) ⟨Nat.le_trans (Nat.le_of_ble_eq_true rfl) C.2.2.2.2.1, Nat.le_trans (Nat.le_of_ble_eq_true rfl) C.2.2.2.2.2⟩) (va_recv C.2.1 hP (ci := 5) (q0 := 0) rfl (wM_0 cI cJ cZ ad z0)) rfl hl.1 rfl (Nat.le_of_ble_eq_true rfl) dX5_cancel_5 (fun v2 z1 _ _ h hP hS => ?_)
  refine b_puti C hP hS h iX5_cancel_X5 tyX5 tyX5_ok nmX5 0 (wM_0 cI cJ cZ ad z1) rfl 0 (by decide) fX5_cancel_i93 rfl rfl rfl (Nat.le_of_ble_eq_true rfl) (wM_si0 cI cJ cZ ad z1 _) dX5_cancel_8 (fun z3 _ _ h hP hS => ?_)
  refine lv_aload_n hx hb dX5_cancel_11 rfl (lv_at hl 0 rfl) ?_
  refine b_geti C hP h iX5_cancel_X5 0 (wM_0 cI cJ cZ ad z3) rfl 0 (by decide) fX5_cancel_i93 rfl rfl dX5_cancel_12 (fun v4 h => ?_)
  refine lv_if_le (tgt := 20) hx hb dX5_cancel_15 (by decide) (fun c1 => ?_) (fun c1 => ?_)
  · replace h := (ite_h h).1 c1
    refine lv_aload_n hx hb dX5_cancel_20 rfl (lv_at hl 0 rfl) ?_
    refine b_getr C hP iX5_cancel_X5 0 (wM_0 cI cJ cZ ad z3) rfl 15 (by decide) fX5_cancel_i48 rfl rfl dX5_cancel_21 ?_
    refine lv_iload_n hx hb dX5_cancel_24 rfl (lv_at hl 2 rfl) ?_
    refine b_iald C hP h 13 (wM_13 cI cJ cZ ad z3) 0 rfl dX5_cancel_25 (fun v5 h => ?_)
    refine lv_istore_n (lv' := [(3, .int v5), (0, .ref (ad 0)), (1, .int a1), (2, .int a2)]) hx hb dX5_cancel_26 rfl hl (by decide) rfl (fun ls hl => ?_)
    refine lv_aload_n hx hb dX5_cancel_27 rfl (lv_at hl 1 rfl) ?_
    refine lv_iload_n hx hb dX5_cancel_28 rfl (lv_at hl 3 rfl) ?_
    refine b_callVv (As := [.int a2]) (rest := []) C hP hS h (mX5_cancelled l D cI cJ cZ ad a2 z3) (cwV 1 C.1.2.2.2.2 gX5_cancel_X5_cancelled rfl rfl rfl (by decide +kernel) ⟨Nat.le_trans (Nat.le_of_ble_eq_true rfl) C.2.2.2.2.1, Nat.le_trans (Nat.le_of_ble_eq_true rfl) C.2.2.2.2.2⟩) (va_recv C.2.1 hP (ci := 5) (q0 := 0) rfl (wM_0 cI cJ cZ ad z3)) rfl hl.1 rfl (Nat.le_of_ble_eq_true rfl) dX5_cancel_29 (fun _ z6 _ _ h hP hS => ?_)
    refine lv_iload_n hx hb dX5_cancel_32 rfl (lv_at hl 0 rfl) ?_
    exact hR 33 _ _ _ _ _ (Option.some.inj h).symm dX5_cancel_33 hP hS
  · replace h := (ite_h h).2 c1
    refine lv_iconst (v := 0) hx hb dX5_cancel_18 (by decide) ?_
    exact hR 19 _ _ _ _ _ (Option.some.inj h).symm dX5_cancel_19 hP hS
theorem mX5_cancel (l : Launch) (D : va_G) (cI cJ cZ : ClassId) (ad : Nat → Nat) (a1 : Int32) (a2 : Int32) (z0 : SH) : ∀ (q : (Int32 × SH)) (sz : Nat), fX5_cancel a1 a2 z0 = some q → Met l yX5_cancel wsX5_cancel rmX5_cancel (cP D vwCl (tyl cI cJ cZ) (wM cI cJ cZ ad z0) sz [.ref (ad 0), .int a1, .int a2]) (cQi D vwCl (wM cI cJ cZ ad) z0 sz q) 0 0 (va_A (wM cI cJ cZ ad z0) sz) := by
  intro q sz h
  refine ofW_i (cc := cX5_cancel) (maxL := 4) (by decide) rfl (wM_same cI cJ cZ ad) (Nat.le_of_ble_eq_true rfl) (fun p e s m below meth c ls hsz C hR hP hl => ?_)
  exact wX5_cancel C hR a1 a2 z0 h hP va_S.rf hl
abbrev rmX5_reduce : Room := { frames := 3, cells := 0, slots := 0, locals := 65 }
theorem fX5_reduce_i48 : Cond.fieldLink RX5 48 (TX5 15).1 (TX5 15).2.1 (TX5 15).2.2.1 ∈ wsX5_reduce := by decide +kernel
theorem fX5_reduce_i51 : Cond.fieldLink RX5 51 (TX5 16).1 (TX5 16).2.1 (TX5 16).2.2.1 ∈ wsX5_reduce := by decide +kernel
theorem fX5_reduce_i93 : Cond.fieldLink RX5 93 (TX5 0).1 (TX5 0).2.1 (TX5 0).2.2.1 ∈ wsX5_reduce := by decide +kernel
theorem iX5_reduce_X5 : ∀ x ∈ wsX50, x ∈ wsX5_reduce := by decide +kernel
set_option maxRecDepth 100000 in
set_option maxHeartbeats 4000000 in
theorem wX5_reduce_109 {p : Program} {l : Launch} {e : Env} {R : Room} {s : State} {m : MethodId} {args : Array Value} {below : List Frame} {meth : Method} {c : Code} {Q : State → Prop} {D : va_G} {cI cJ cZ : ClassId} {ad : Nat → Nat} {A : Nat → Prop} (C : Cx p s m args c cX5_reduce 4 wsX5_reduce RX5 D vwCl (tyl cI cJ cZ) (wM cI cJ cZ ad) A R 3 65) {r : (Int32 × SH)} (hR : Ri p l e R s m args below meth c cX5_reduce D vwCl (wM cI cJ cZ ad) A Q r) (x2 : Int32) (t0 : Int32) (t1 : Int32) (z0 : SH) {H : Heap} {locs : List Loc} {ls : Array Slot} (h : fX5_reduce_109 x2 t0 t1 z0 = some r) (hP : va_P D vwCl (wM cI cJ cZ ad z0) H) (hS : va_S A s.heap H locs) (hl : lv_has ls 4 [(0, .ref (ad 0)), (2, .int x2)]) : W p l e R s m args below meth c H locs 0 0 Q (F0 m 109 ls [.int t0, .int t1, .ref (ad 14)]) := by
  unfold fX5_reduce_109 at h
  have hx := C.1.1
  have hb := C.1.2.1
  refine b_iast C hP hS h 14 (wM_14 cI cJ cZ ad z0) 0 rfl (wM_s14 cI cJ cZ ad z0 _ _) dX5_reduce_109 (fun z1 _ _ h hP hS => ?_)
  refine lv_aload_n hx hb dX5_reduce_110 rfl (lv_at hl 0 rfl) ?_
  refine b_getr C hP iX5_reduce_X5 0 (wM_0 cI cJ cZ ad z1) rfl 15 (by decide) fX5_reduce_i48 rfl rfl dX5_reduce_111 ?_
  refine lv_iload_n hx hb dX5_reduce_114 rfl (lv_at hl 1 rfl) ?_
  refine b_iald C hP h 13 (wM_13 cI cJ cZ ad z1) 0 rfl dX5_reduce_115 (fun v2 h => ?_)
  exact hR 116 _ _ _ _ _ (Option.some.inj h).symm dX5_reduce_116 hP hS
set_option maxRecDepth 100000 in
set_option maxHeartbeats 4000000 in
theorem wX5_reduce_46 {p : Program} {l : Launch} {e : Env} {R : Room} {s : State} {m : MethodId} {args : Array Value} {below : List Frame} {meth : Method} {c : Code} {Q : State → Prop} {D : va_G} {cI cJ cZ : ClassId} {ad : Nat → Nat} {A : Nat → Prop} (C : Cx p s m args c cX5_reduce 4 wsX5_reduce RX5 D vwCl (tyl cI cJ cZ) (wM cI cJ cZ ad) A R 3 65) {r : (Int32 × SH)} (hR : Ri p l e R s m args below meth c cX5_reduce D vwCl (wM cI cJ cZ ad) A Q r) (x2 : Int32) (x3 : Int32) (t0 : Int32) (z0 : SH) {H : Heap} {locs : List Loc} {ls : Array Slot} (h : fX5_reduce_46 x2 x3 t0 z0 = some r) (hP : va_P D vwCl (wM cI cJ cZ ad z0) H) (hS : va_S A s.heap H locs) (hl : lv_has ls 4 [(0, .ref (ad 0)), (2, .int x2), (3, .int x3)]) : W p l e R s m args below meth c H locs 0 0 Q (F0 m 46 ls [.int t0, .ref (ad 0)]) := by
  unfold fX5_reduce_46 at h
  have hx := C.1.1
  have hb := C.1.2.1
  refine b_puti C hP hS h iX5_reduce_X5 tyX5 tyX5_ok nmX5 0 (wM_0 cI cJ cZ ad z0) rfl 0 (by decide) fX5_reduce_i93 rfl rfl rfl (Nat.le_of_ble_eq_true rfl) (wM_si0 cI cJ cZ ad z0 _) dX5_reduce_46 (fun z1 _ _ h hP hS => ?_)
  refine lv_aload_n hx hb dX5_reduce_49 rfl (lv_at hl 0 rfl) ?_
  refine b_geti C hP h iX5_reduce_X5 0 (wM_0 cI cJ cZ ad z1) rfl 0 (by decide) fX5_reduce_i93 rfl rfl dX5_reduce_50 (fun v2 h => ?_)
  refine lv_if_le (tgt := 58) hx hb dX5_reduce_53 (by decide) (fun c1 => ?_) (fun c1 => ?_)
  · replace h := (ite_h h).1 c1
    refine lv_aload_n hx hb dX5_reduce_58 rfl (lv_at hl 0 rfl) ?_
    refine lv_iload_n hx hb dX5_reduce_59 rfl (lv_at hl 1 rfl) ?_
    refine lv_iload_n hx hb dX5_reduce_60 rfl (lv_at hl 2 rfl) ?_
    refine b_callVv (As := [.int x2, .int x3]) (rest := []) C hP hS h (mX5_free l D cI cJ cZ ad x2 x3 z1) (cwV 2 C.1.2.2.2.2 gX5_reduce_X5_free rfl rfl rfl (by decide +kernel) ⟨Nat.le_trans (Nat.le_of_ble_eq_true rfl) C.2.2.2.2.1, Nat.le_trans (Nat.le_of_ble_eq_true rfl) C.2.2.2.2.2⟩) (va_recv C.2.1 hP (ci := 5) (q0 := 0) rfl (wM_0 cI cJ cZ ad z1)) rfl hl.1 rfl (Nat.le_of_ble_eq_true rfl) dX5_reduce_61 (fun _ z3 _ _ h hP hS => ?_)
    refine lv_aload_n hx hb dX5_reduce_64 rfl (lv_at hl 0 rfl) ?_
    refine b_getr C hP iX5_reduce_X5 0 (wM_0 cI cJ cZ ad z3) rfl 15 (by decide) fX5_reduce_i48 rfl rfl dX5_reduce_65 ?_
    refine lv_iload_n hx hb dX5_reduce_68 rfl (lv_at hl 1 rfl) ?_
    refine lv_dup2_11 hx hb dX5_reduce_69 rfl rfl ?_
    refine b_iald C hP h 13 (wM_13 cI cJ cZ ad z3) 0 rfl dX5_reduce_70 (fun v4 h => ?_)
    refine lv_iload_n hx hb dX5_reduce_71 rfl (lv_at hl 2 rfl) ?_
    refine lv_isub hx hb dX5_reduce_72 ?_
    refine b_iast C hP hS h 13 (wM_13 cI cJ cZ ad z3) 0 rfl (wM_s13 cI cJ cZ ad z3 _ _) dX5_reduce_73 (fun z5 _ _ h hP hS => ?_)
    refine lv_aload_n hx hb dX5_reduce_74 rfl (lv_at hl 0 rfl) ?_
    refine b_getr C hP iX5_reduce_X5 0 (wM_0 cI cJ cZ ad z5) rfl 16 (by decide) fX5_reduce_i51 rfl rfl dX5_reduce_75 ?_
    refine lv_iload_n hx hb dX5_reduce_78 rfl (lv_at hl 1 rfl) ?_
    refine lv_aload_n hx hb dX5_reduce_79 rfl (lv_at hl 0 rfl) ?_
    refine b_getr C hP iX5_reduce_X5 0 (wM_0 cI cJ cZ ad z5) rfl 16 (by decide) fX5_reduce_i51 rfl rfl dX5_reduce_80 ?_
    refine lv_iload_n hx hb dX5_reduce_83 rfl (lv_at hl 1 rfl) ?_
    refine b_iald C hP h 14 (wM_14 cI cJ cZ ad z5) 0 rfl dX5_reduce_84 (fun v6 h => ?_)
    refine lv_aload_n hx hb dX5_reduce_85 rfl (lv_at hl 0 rfl) ?_
    refine b_getr C hP iX5_reduce_X5 0 (wM_0 cI cJ cZ ad z5) rfl 15 (by decide) fX5_reduce_i48 rfl rfl dX5_reduce_86 ?_
    refine lv_iload_n hx hb dX5_reduce_89 rfl (lv_at hl 1 rfl) ?_
    refine b_iald C hP h 13 (wM_13 cI cJ cZ ad z5) 0 rfl dX5_reduce_90 (fun v7 h => ?_)
    refine lv_icmp_le (tgt := 103) hx hb dX5_reduce_91 (by decide) (fun c1 => ?_) (fun c1 => ?_)
    · replace h := (ite_h h).1 c1
      refine lv_aload_n hx hb dX5_reduce_103 rfl (lv_at hl 0 rfl) ?_
      refine b_getr C hP iX5_reduce_X5 0 (wM_0 cI cJ cZ ad z5) rfl 16 (by decide) fX5_reduce_i51 rfl rfl dX5_reduce_104 ?_
      refine lv_iload_n hx hb dX5_reduce_107 rfl (lv_at hl 1 rfl) ?_
      refine b_iald C hP h 14 (wM_14 cI cJ cZ ad z5) 0 rfl dX5_reduce_108 (fun v8 h => ?_)
      exact wX5_reduce_109 C hR x2 v8 x2 z5 h hP hS (lv_sub hl [0, 1] rfl)
    · replace h := (ite_h h).2 c1
      refine lv_aload_n hx hb dX5_reduce_94 rfl (lv_at hl 0 rfl) ?_
      refine b_getr C hP iX5_reduce_X5 0 (wM_0 cI cJ cZ ad z5) rfl 15 (by decide) fX5_reduce_i48 rfl rfl dX5_reduce_95 ?_
      refine lv_iload_n hx hb dX5_reduce_98 rfl (lv_at hl 1 rfl) ?_
      refine b_iald C hP h 13 (wM_13 cI cJ cZ ad z5) 0 rfl dX5_reduce_99 (fun v9 h => ?_)
      refine lv_goto (tgt := 109) hx hb dX5_reduce_100 (by decide) ?_
      exact wX5_reduce_109 C hR x2 v9 x2 z5 h hP hS (lv_sub hl [0, 1] rfl)
  · replace h := (ite_h h).2 c1
    refine lv_iconst (v := 0) hx hb dX5_reduce_56 (by decide) ?_
    exact hR 57 _ _ _ _ _ (Option.some.inj h).symm dX5_reduce_57 hP hS
set_option maxRecDepth 100000 in
set_option maxHeartbeats 4000000 in
theorem wX5_reduce_42 {p : Program} {l : Launch} {e : Env} {R : Room} {s : State} {m : MethodId} {args : Array Value} {below : List Frame} {meth : Method} {c : Code} {Q : State → Prop} {D : va_G} {cI cJ cZ : ClassId} {ad : Nat → Nat} {A : Nat → Prop} (C : Cx p s m args c cX5_reduce 4 wsX5_reduce RX5 D vwCl (tyl cI cJ cZ) (wM cI cJ cZ ad) A R 3 65) {r : (Int32 × SH)} (hR : Ri p l e R s m args below meth c cX5_reduce D vwCl (wM cI cJ cZ ad) A Q r) (x2 : Int32) (x3 : Int32) (z0 : SH) {H : Heap} {locs : List Loc} {ls : Array Slot} (h : fX5_reduce_42 x2 x3 z0 = some r) (hP : va_P D vwCl (wM cI cJ cZ ad z0) H) (hS : va_S A s.heap H locs) (hl : lv_has ls 4 [(0, .ref (ad 0)), (2, .int x2), (3, .int x3)]) : W p l e R s m args below meth c H locs 0 0 Q (F0 m 42 ls [.ref (ad 0)]) := by
  unfold fX5_reduce_42 at h
  have hx := C.1.1
  have hb := C.1.2.1
  refine lv_aload_n hx hb dX5_reduce_42 rfl (lv_at hl 0 rfl) ?_
  refine b_geti C hP h iX5_reduce_X5 0 (wM_0 cI cJ cZ ad z0) rfl 0 (by decide) fX5_reduce_i93 rfl rfl dX5_reduce_43 (fun v1 h => ?_)
  exact wX5_reduce_46 C hR x2 x3 v1 z0 h hP hS (lv_sub hl [0, 1, 2] rfl)
set_option maxRecDepth 100000 in
set_option maxHeartbeats 4000000 in
theorem wX5_reduce_14 {p : Program} {l : Launch} {e : Env} {R : Room} {s : State} {m : MethodId} {args : Array Value} {below : List Frame} {meth : Method} {c : Code} {Q : State → Prop} {D : va_G} {cI cJ cZ : ClassId} {ad : Nat → Nat} {A : Nat → Prop} (C : Cx p s m args c cX5_reduce 4 wsX5_reduce RX5 D vwCl (tyl cI cJ cZ) (wM cI cJ cZ ad) A R 3 65) {r : (Int32 × SH)} (hR : Ri p l e R s m args below meth c cX5_reduce D vwCl (wM cI cJ cZ ad) A Q r) (x2 : Int32) (x3 : Int32) (t0 : Int32) (t1 : Int32) (t2 : Int32) (z0 : SH) {H : Heap} {locs : List Loc} {ls : Array Slot} (h : fX5_reduce_14 x2 x3 t0 t1 t2 z0 = some r) (hP : va_P D vwCl (wM cI cJ cZ ad z0) H) (hS : va_S A s.heap H locs) (hl : lv_has ls 4 [(0, .ref (ad 0)), (2, .int x2), (3, .int x3)]) : W p l e R s m args below meth c H locs 0 0 Q (F0 m 14 ls [.int t0, .int t1, .int t2, .ref (ad 0), .ref (ad 0)]) := by
  unfold fX5_reduce_14 at h
  have hx := C.1.1
  have hb := C.1.2.1
  refine b_callVi (As := [.int t2, .int t1, .int t0]) (rest := [.ref (ad 0)]) C hP hS h (mX5_refusal l D cI cJ cZ ad t2 t1 t0 z0) (cwV 3 C.1.2.2.2.2 gX5_reduce_X5_refusal rfl rfl rfl (by decide +kernel) ⟨Nat.le_trans (Nat.le_of_ble_eq_true rfl) C.2.2.2.2.1, Nat.le_trans (Nat.le_of_ble_eq_true rfl) C.2.2.2.2.2⟩) (va_recv C.2.1 hP (ci := 5) (q0 := 0) rfl (wM_0 cI cJ cZ ad z0)) rfl hl.1 rfl (Nat.le_of_ble_eq_true rfl) dX5_reduce_14 (fun v2 z1 _ _ h hP hS => ?_)
  refine b_puti C hP hS h iX5_reduce_X5 tyX5 tyX5_ok nmX5 0 (wM_0 cI cJ cZ ad z1) rfl 0 (by decide) fX5_reduce_i93 rfl rfl rfl (Nat.le_of_ble_eq_true rfl) (wM_si0 cI cJ cZ ad z1 _) dX5_reduce_17 (fun z3 _ _ h hP hS => ?_)
  refine lv_aload_n hx hb dX5_reduce_20 rfl (lv_at hl 0 rfl) ?_
  refine lv_aload_n hx hb dX5_reduce_21 rfl (lv_at hl 0 rfl) ?_
  refine b_geti C hP h iX5_reduce_X5 0 (wM_0 cI cJ cZ ad z3) rfl 0 (by decide) fX5_reduce_i93 rfl rfl dX5_reduce_22 (fun v4 h => ?_)
  refine lv_if_ne (tgt := 42) hx hb dX5_reduce_25 (by decide) (fun c1 => ?_) (fun c1 => ?_)
  · replace h := (ite_h h).2 c1
    exact wX5_reduce_42 C hR x2 x3 z3 h hP hS (lv_sub hl [0, 1, 2] rfl)
  · replace h := (ite_h h).1 c1
    refine lv_aload_n hx hb dX5_reduce_28 rfl (lv_at hl 0 rfl) ?_
    refine b_getr C hP iX5_reduce_X5 0 (wM_0 cI cJ cZ ad z3) rfl 15 (by decide) fX5_reduce_i48 rfl rfl dX5_reduce_29 ?_
    refine lv_iload_n hx hb dX5_reduce_32 rfl (lv_at hl 1 rfl) ?_
    refine b_iald C hP h 13 (wM_13 cI cJ cZ ad z3) 0 rfl dX5_reduce_33 (fun v5 h => ?_)
    refine lv_iload_n hx hb dX5_reduce_34 rfl (lv_at hl 2 rfl) ?_
    refine lv_icmp_gt (tgt := 42) hx hb dX5_reduce_35 (by decide) (fun c1 => ?_) (fun c1 => ?_)
    · replace h := (ite_h h).1 c1
      exact wX5_reduce_42 C hR x2 x3 z3 h hP hS (lv_sub hl [0, 1, 2] rfl)
    · replace h := (ite_h h).2 c1
      refine lv_iconst (v := 3) hx hb dX5_reduce_38 (by decide) ?_
      refine lv_goto (tgt := 46) hx hb dX5_reduce_39 (by decide) ?_
      exact wX5_reduce_46 C hR x2 x3 3 z3 h hP hS (lv_sub hl [0, 1, 2] rfl)
set_option maxRecDepth 100000 in
set_option maxHeartbeats 4000000 in
theorem wX5_reduce {p : Program} {l : Launch} {e : Env} {R : Room} {s : State} {m : MethodId} {args : Array Value} {below : List Frame} {meth : Method} {c : Code} {Q : State → Prop} {D : va_G} {cI cJ cZ : ClassId} {ad : Nat → Nat} {A : Nat → Prop} (C : Cx p s m args c cX5_reduce 4 wsX5_reduce RX5 D vwCl (tyl cI cJ cZ) (wM cI cJ cZ ad) A R 3 65) {r : (Int32 × SH)} (hR : Ri p l e R s m args below meth c cX5_reduce D vwCl (wM cI cJ cZ ad) A Q r) (a1 : Int32) (a2 : Int32) (a3 : Int32) (z0 : SH) {H : Heap} {locs : List Loc} {ls : Array Slot} (h : fX5_reduce a1 a2 a3 z0 = some r) (hP : va_P D vwCl (wM cI cJ cZ ad z0) H) (hS : va_S A s.heap H locs) (hl : lv_has ls 4 [(0, .ref (ad 0)), (1, .int a1), (2, .int a2), (3, .int a3)]) : W p l e R s m args below meth c H locs 0 0 Q (F0 m 0 ls []) := by
  unfold fX5_reduce at h
  have hx := C.1.1
  have hb := C.1.2.1
  refine lv_aload_n hx hb dX5_reduce_0 rfl (lv_at hl 0 rfl) ?_
  refine lv_aload_n hx hb dX5_reduce_1 rfl (lv_at hl 0 rfl) ?_
  refine lv_iload_n hx hb dX5_reduce_2 rfl (lv_at hl 1 rfl) ?_
  refine lv_iload_n hx hb dX5_reduce_3 rfl (lv_at hl 2 rfl) ?_
  refine lv_iload_n hx hb dX5_reduce_4 rfl (lv_at hl 3 rfl) ?_
  refine lv_iconst (v := 1) hx hb dX5_reduce_5 (by decide) ?_
  refine lv_icmp_lt (tgt := 13) hx hb dX5_reduce_6 (by decide) (fun c1 => ?_) (fun c1 => ?_)
  · replace h := (ite_h h).1 c1
    refine lv_iconst (v := 0) hx hb dX5_reduce_13 (by decide) ?_
    exact wX5_reduce_14 C hR a2 a3 0 a2 a1 z0 h hP hS (lv_sub hl [0, 2, 3] rfl)
  · replace h := (ite_h h).2 c1
    refine lv_iconst (v := 1) hx hb dX5_reduce_9 (by decide) ?_
    refine lv_goto (tgt := 14) hx hb dX5_reduce_10 (by decide) ?_
    exact wX5_reduce_14 C hR a2 a3 1 a2 a1 z0 h hP hS (lv_sub hl [0, 2, 3] rfl)
theorem mX5_reduce (l : Launch) (D : va_G) (cI cJ cZ : ClassId) (ad : Nat → Nat) (a1 : Int32) (a2 : Int32) (a3 : Int32) (z0 : SH) : ∀ (q : (Int32 × SH)) (sz : Nat), fX5_reduce a1 a2 a3 z0 = some q → Met l yX5_reduce wsX5_reduce rmX5_reduce (cP D vwCl (tyl cI cJ cZ) (wM cI cJ cZ ad z0) sz [.ref (ad 0), .int a1, .int a2, .int a3]) (cQi D vwCl (wM cI cJ cZ ad) z0 sz q) 0 0 (va_A (wM cI cJ cZ ad z0) sz) := by
  intro q sz h
  refine ofW_i (cc := cX5_reduce) (maxL := 4) (by decide) rfl (wM_same cI cJ cZ ad) (Nat.le_of_ble_eq_true rfl) (fun p e s m below meth c ls hsz C hR hP hl => ?_)
  exact wX5_reduce C hR a1 a2 a3 z0 h hP va_S.rf hl
abbrev rmX5_until : Room := { frames := 3, cells := 0, slots := 0, locals := 65 }
theorem fX5_until_i181 : Cond.fieldLink RX5 181 (TX5 1).1 (TX5 1).2.1 (TX5 1).2.2.1 ∈ wsX5_until := by decide +kernel
theorem fX5_until_i60 : Cond.fieldLink RX5 60 (TX5 19).1 (TX5 19).2.1 (TX5 19).2.2.1 ∈ wsX5_until := by decide +kernel
theorem fX5_until_i93 : Cond.fieldLink RX5 93 (TX5 0).1 (TX5 0).2.1 (TX5 0).2.2.1 ∈ wsX5_until := by decide +kernel
theorem iX5_until_X5 : ∀ x ∈ wsX50, x ∈ wsX5_until := by decide +kernel
set_option maxRecDepth 100000 in
set_option maxHeartbeats 4000000 in
theorem wX5_until_64 {p : Program} {l : Launch} {e : Env} {R : Room} {s : State} {m : MethodId} {args : Array Value} {below : List Frame} {meth : Method} {c : Code} {Q : State → Prop} {D : va_G} {cI cJ cZ : ClassId} {ad : Nat → Nat} {A : Nat → Prop} (C : Cx p s m args c cX5_until 4 wsX5_until RX5 D vwCl (tyl cI cJ cZ) (wM cI cJ cZ ad) A R 3 65) {r : (Unit × SH)} (hR : Rv p l e R s m args below meth c cX5_until D vwCl (wM cI cJ cZ ad) A Q r) (z0 : SH) {H : Heap} {locs : List Loc} {ls : Array Slot} (h : fX5_until_64 z0 = some r) (hP : va_P D vwCl (wM cI cJ cZ ad z0) H) (hS : va_S A s.heap H locs) (hl : lv_has ls 4 []) : W p l e R s m args below meth c H locs 0 0 Q (F0 m 64 ls []) := by
  unfold fX5_until_64 at h
  have hx := C.1.1
  have hb := C.1.2.1
  exact hR 64 _ _ _ _ (Option.some.inj h).symm dX5_until_64 hP hS
set_option maxRecDepth 100000 in
set_option maxHeartbeats 4000000 in
theorem wX5_until_47 {p : Program} {l : Launch} {e : Env} {R : Room} {s : State} {m : MethodId} {args : Array Value} {below : List Frame} {meth : Method} {c : Code} {Q : State → Prop} {D : va_G} {cI cJ cZ : ClassId} {ad : Nat → Nat} {A : Nat → Prop} (C : Cx p s m args c cX5_until 4 wsX5_until RX5 D vwCl (tyl cI cJ cZ) (wM cI cJ cZ ad) A R 3 65) {r : (Unit × SH)} (hR : Rv p l e R s m args below meth c cX5_until D vwCl (wM cI cJ cZ ad) A Q r) (x2 : Int32) (x3 : Int32) (t0 : Int32) (z0 : SH) {H : Heap} {locs : List Loc} {ls : Array Slot} (h : fX5_until_47 x2 x3 t0 z0 = some r) (hP : va_P D vwCl (wM cI cJ cZ ad z0) H) (hS : va_S A s.heap H locs) (hl : lv_has ls 4 [(0, .ref (ad 0)), (2, .int x2), (3, .int x3)]) : W p l e R s m args below meth c H locs 0 0 Q (F0 m 47 ls [.int t0, .ref (ad 0)]) := by
  unfold fX5_until_47 at h
  have hx := C.1.1
  have hb := C.1.2.1
  refine b_puti C hP hS h iX5_until_X5 tyX5 tyX5_ok nmX5 0 (wM_0 cI cJ cZ ad z0) rfl 0 (by decide) fX5_until_i93 rfl rfl rfl (Nat.le_of_ble_eq_true rfl) (wM_si0 cI cJ cZ ad z0 _) dX5_until_47 (fun z1 _ _ h hP hS => ?_)
  refine lv_aload_n hx hb dX5_until_50 rfl (lv_at hl 0 rfl) ?_
  refine b_geti C hP h iX5_until_X5 0 (wM_0 cI cJ cZ ad z1) rfl 0 (by decide) fX5_until_i93 rfl rfl dX5_until_51 (fun v2 h => ?_)
  refine lv_if_ne (tgt := 64) hx hb dX5_until_54 (by decide) (fun c1 => ?_) (fun c1 => ?_)
  · replace h := (ite_h h).2 c1
    exact wX5_until_64 C hR z1 h hP hS (lv_sub hl [] rfl)
  · replace h := (ite_h h).1 c1
    refine lv_aload_n hx hb dX5_until_57 rfl (lv_at hl 0 rfl) ?_
    refine b_getr C hP iX5_until_X5 0 (wM_0 cI cJ cZ ad z1) rfl 19 (by decide) fX5_until_i60 rfl rfl dX5_until_58 ?_
    refine lv_iload_n hx hb dX5_until_61 rfl (lv_at hl 1 rfl) ?_
    refine lv_iload_n hx hb dX5_until_62 rfl (lv_at hl 2 rfl) ?_
    refine b_iast C hP hS h 17 (wM_17 cI cJ cZ ad z1) 0 rfl (wM_s17 cI cJ cZ ad z1 _ _) dX5_until_63 (fun z3 _ _ h hP hS => ?_)
    exact wX5_until_64 C hR z3 h hP hS (lv_sub hl [] rfl)
set_option maxRecDepth 100000 in
set_option maxHeartbeats 4000000 in
theorem wX5_until_43 {p : Program} {l : Launch} {e : Env} {R : Room} {s : State} {m : MethodId} {args : Array Value} {below : List Frame} {meth : Method} {c : Code} {Q : State → Prop} {D : va_G} {cI cJ cZ : ClassId} {ad : Nat → Nat} {A : Nat → Prop} (C : Cx p s m args c cX5_until 4 wsX5_until RX5 D vwCl (tyl cI cJ cZ) (wM cI cJ cZ ad) A R 3 65) {r : (Unit × SH)} (hR : Rv p l e R s m args below meth c cX5_until D vwCl (wM cI cJ cZ ad) A Q r) (x2 : Int32) (x3 : Int32) (z0 : SH) {H : Heap} {locs : List Loc} {ls : Array Slot} (h : fX5_until_43 x2 x3 z0 = some r) (hP : va_P D vwCl (wM cI cJ cZ ad z0) H) (hS : va_S A s.heap H locs) (hl : lv_has ls 4 [(0, .ref (ad 0)), (2, .int x2), (3, .int x3)]) : W p l e R s m args below meth c H locs 0 0 Q (F0 m 43 ls [.ref (ad 0)]) := by
  unfold fX5_until_43 at h
  have hx := C.1.1
  have hb := C.1.2.1
  refine lv_aload_n hx hb dX5_until_43 rfl (lv_at hl 0 rfl) ?_
  refine b_geti C hP h iX5_until_X5 0 (wM_0 cI cJ cZ ad z0) rfl 0 (by decide) fX5_until_i93 rfl rfl dX5_until_44 (fun v1 h => ?_)
  exact wX5_until_47 C hR x2 x3 v1 z0 h hP hS (lv_sub hl [0, 1, 2] rfl)
set_option maxRecDepth 100000 in
set_option maxHeartbeats 4000000 in
theorem wX5_until_13 {p : Program} {l : Launch} {e : Env} {R : Room} {s : State} {m : MethodId} {args : Array Value} {below : List Frame} {meth : Method} {c : Code} {Q : State → Prop} {D : va_G} {cI cJ cZ : ClassId} {ad : Nat → Nat} {A : Nat → Prop} (C : Cx p s m args c cX5_until 4 wsX5_until RX5 D vwCl (tyl cI cJ cZ) (wM cI cJ cZ ad) A R 3 65) {r : (Unit × SH)} (hR : Rv p l e R s m args below meth c cX5_until D vwCl (wM cI cJ cZ ad) A Q r) (x2 : Int32) (x3 : Int32) (t0 : Int32) (t1 : Int32) (t2 : Int32) (z0 : SH) {H : Heap} {locs : List Loc} {ls : Array Slot} (h : fX5_until_13 x2 x3 t0 t1 t2 z0 = some r) (hP : va_P D vwCl (wM cI cJ cZ ad z0) H) (hS : va_S A s.heap H locs) (hl : lv_has ls 4 [(0, .ref (ad 0)), (2, .int x2), (3, .int x3)]) : W p l e R s m args below meth c H locs 0 0 Q (F0 m 13 ls [.int t0, .int t1, .int t2, .ref (ad 0), .ref (ad 0)]) := by
  unfold fX5_until_13 at h
  have hx := C.1.1
  have hb := C.1.2.1
  refine b_callVi (As := [.int t2, .int t1, .int t0]) (rest := [.ref (ad 0)]) C hP hS h (mX5_refusal l D cI cJ cZ ad t2 t1 t0 z0) (cwV 3 C.1.2.2.2.2 gX5_until_X5_refusal rfl rfl rfl (by decide +kernel) ⟨Nat.le_trans (Nat.le_of_ble_eq_true rfl) C.2.2.2.2.1, Nat.le_trans (Nat.le_of_ble_eq_true rfl) C.2.2.2.2.2⟩) (va_recv C.2.1 hP (ci := 5) (q0 := 0) rfl (wM_0 cI cJ cZ ad z0)) rfl hl.1 rfl (Nat.le_of_ble_eq_true rfl) dX5_until_13 (fun v2 z1 _ _ h hP hS => ?_)
  refine b_puti C hP hS h iX5_until_X5 tyX5 tyX5_ok nmX5 0 (wM_0 cI cJ cZ ad z1) rfl 0 (by decide) fX5_until_i93 rfl rfl rfl (Nat.le_of_ble_eq_true rfl) (wM_si0 cI cJ cZ ad z1 _) dX5_until_16 (fun z3 _ _ h hP hS => ?_)
  refine lv_aload_n hx hb dX5_until_19 rfl (lv_at hl 0 rfl) ?_
  refine lv_aload_n hx hb dX5_until_20 rfl (lv_at hl 0 rfl) ?_
  refine b_geti C hP h iX5_until_X5 0 (wM_0 cI cJ cZ ad z3) rfl 0 (by decide) fX5_until_i93 rfl rfl dX5_until_21 (fun v4 h => ?_)
  refine lv_if_ne (tgt := 43) hx hb dX5_until_24 (by decide) (fun c1 => ?_) (fun c1 => ?_)
  · replace h := (ite_h h).2 c1
    exact wX5_until_43 C hR x2 x3 z3 h hP hS (lv_sub hl [0, 1, 2] rfl)
  · replace h := (ite_h h).1 c1
    refine lv_iload_n hx hb dX5_until_27 rfl (lv_at hl 2 rfl) ?_
    refine lv_if_eq (tgt := 43) hx hb dX5_until_28 (by decide) (fun c1 => ?_) (fun c1 => ?_)
    · replace h := (ite_h h).1 c1
      exact wX5_until_43 C hR x2 x3 z3 h hP hS (lv_sub hl [0, 1, 2] rfl)
    · replace h := (ite_h h).2 c1
      refine lv_iload_n hx hb dX5_until_31 rfl (lv_at hl 2 rfl) ?_
      refine lv_aload_n hx hb dX5_until_32 rfl (lv_at hl 0 rfl) ?_
      refine b_geti C hP h iX5_until_X5 0 (wM_0 cI cJ cZ ad z3) rfl 1 (by decide) fX5_until_i181 rfl rfl dX5_until_33 (fun v5 h => ?_)
      refine lv_icmp_gt (tgt := 43) hx hb dX5_until_36 (by decide) (fun c1 => ?_) (fun c1 => ?_)
      · replace h := (ite_h h).1 c1
        exact wX5_until_43 C hR x2 x3 z3 h hP hS (lv_sub hl [0, 1, 2] rfl)
      · replace h := (ite_h h).2 c1
        refine lv_iconst (v := 3) hx hb dX5_until_39 (by decide) ?_
        refine lv_goto (tgt := 47) hx hb dX5_until_40 (by decide) ?_
        exact wX5_until_47 C hR x2 x3 3 z3 h hP hS (lv_sub hl [0, 1, 2] rfl)
set_option maxRecDepth 100000 in
set_option maxHeartbeats 4000000 in
theorem wX5_until {p : Program} {l : Launch} {e : Env} {R : Room} {s : State} {m : MethodId} {args : Array Value} {below : List Frame} {meth : Method} {c : Code} {Q : State → Prop} {D : va_G} {cI cJ cZ : ClassId} {ad : Nat → Nat} {A : Nat → Prop} (C : Cx p s m args c cX5_until 4 wsX5_until RX5 D vwCl (tyl cI cJ cZ) (wM cI cJ cZ ad) A R 3 65) {r : (Unit × SH)} (hR : Rv p l e R s m args below meth c cX5_until D vwCl (wM cI cJ cZ ad) A Q r) (a1 : Int32) (a2 : Int32) (a3 : Int32) (z0 : SH) {H : Heap} {locs : List Loc} {ls : Array Slot} (h : fX5_until a1 a2 a3 z0 = some r) (hP : va_P D vwCl (wM cI cJ cZ ad z0) H) (hS : va_S A s.heap H locs) (hl : lv_has ls 4 [(0, .ref (ad 0)), (1, .int a1), (2, .int a2), (3, .int a3)]) : W p l e R s m args below meth c H locs 0 0 Q (F0 m 0 ls []) := by
  unfold fX5_until at h
  have hx := C.1.1
  have hb := C.1.2.1
  refine lv_aload_n hx hb dX5_until_0 rfl (lv_at hl 0 rfl) ?_
  refine lv_aload_n hx hb dX5_until_1 rfl (lv_at hl 0 rfl) ?_
  refine lv_iload_n hx hb dX5_until_2 rfl (lv_at hl 1 rfl) ?_
  refine lv_iload_n hx hb dX5_until_3 rfl (lv_at hl 2 rfl) ?_
  refine lv_iload_n hx hb dX5_until_4 rfl (lv_at hl 3 rfl) ?_
  refine lv_if_lt (tgt := 12) hx hb dX5_until_5 (by decide) (fun c1 => ?_) (fun c1 => ?_)
  · replace h := (ite_h h).1 c1
    refine lv_iconst (v := 0) hx hb dX5_until_12 (by decide) ?_
    exact wX5_until_13 C hR a2 a3 0 a2 a1 z0 h hP hS (lv_sub hl [0, 2, 3] rfl)
  · replace h := (ite_h h).2 c1
    refine lv_iconst (v := 1) hx hb dX5_until_8 (by decide) ?_
    refine lv_goto (tgt := 13) hx hb dX5_until_9 (by decide) ?_
    exact wX5_until_13 C hR a2 a3 1 a2 a1 z0 h hP hS (lv_sub hl [0, 2, 3] rfl)
theorem mX5_until (l : Launch) (D : va_G) (cI cJ cZ : ClassId) (ad : Nat → Nat) (a1 : Int32) (a2 : Int32) (a3 : Int32) (z0 : SH) : ∀ (q : (Unit × SH)) (sz : Nat), fX5_until a1 a2 a3 z0 = some q → Met l yX5_until wsX5_until rmX5_until (cP D vwCl (tyl cI cJ cZ) (wM cI cJ cZ ad z0) sz [.ref (ad 0), .int a1, .int a2, .int a3]) (cQv D vwCl (wM cI cJ cZ ad) z0 sz q) 0 0 (va_A (wM cI cJ cZ ad z0) sz) := by
  intro q sz h
  refine ofW_v (cc := cX5_until) (maxL := 4) (by decide) rfl (wM_same cI cJ cZ ad) (Nat.le_of_ble_eq_true rfl) (fun p e s m below meth c ls hsz C hR hP hl => ?_)
  exact wX5_until C hR a1 a2 a3 z0 h hP va_S.rf hl
abbrev rmX5_pass : Room := { frames := 3, cells := 0, slots := 0, locals := 65 }
theorem fX5_pass_i116 : Cond.fieldLink RX5 116 (TX5 9).1 (TX5 9).2.1 (TX5 9).2.2.1 ∈ wsX5_pass := by decide +kernel
theorem fX5_pass_i181 : Cond.fieldLink RX5 181 (TX5 1).1 (TX5 1).2.1 (TX5 1).2.2.1 ∈ wsX5_pass := by decide +kernel
theorem fX5_pass_i60 : Cond.fieldLink RX5 60 (TX5 19).1 (TX5 19).2.1 (TX5 19).2.2.1 ∈ wsX5_pass := by decide +kernel
theorem fX5_pass_i93 : Cond.fieldLink RX5 93 (TX5 0).1 (TX5 0).2.1 (TX5 0).2.2.1 ∈ wsX5_pass := by decide +kernel
theorem iX5_pass_X5 : ∀ x ∈ wsX50, x ∈ wsX5_pass := by decide +kernel
theorem kX5_pass_111 : Cond.constant RX5 111 (1000000) ∈ wsX5_pass := by decide +kernel
set_option maxRecDepth 100000 in
set_option maxHeartbeats 4000000 in
theorem wX5_pass_88 {p : Program} {l : Launch} {e : Env} {R : Room} {s : State} {m : MethodId} {args : Array Value} {below : List Frame} {meth : Method} {c : Code} {Q : State → Prop} {D : va_G} {cI cJ cZ : ClassId} {ad : Nat → Nat} {A : Nat → Prop} (C : Cx p s m args c cX5_pass 4 wsX5_pass RX5 D vwCl (tyl cI cJ cZ) (wM cI cJ cZ ad) A R 3 65) {r : (Int32 × SH)} (hR : Ri p l e R s m args below meth c cX5_pass D vwCl (wM cI cJ cZ ad) A Q r) (N : Nat) (k42 : Int32 → Int32 → SH → Option (Int32 × SH)) (K42 : ∀ (x2 : Int32) (x3 : Int32) (z : SH) (H : Heap) (locs : List Loc) (ls : Array Slot), k42 x2 x3 z = some r → va_P D vwCl (wM cI cJ cZ ad z) H → va_S A s.heap H locs → lv_has ls 4 [(0, .ref (ad 0)), (2, .int x2), (3, .int x3)] → W p l e R s m args below meth c H locs 0 0 Q (F0 m 42 ls [])) (x2 : Int32) (x3 : Int32) (z0 : SH) {H : Heap} {locs : List Loc} {ls : Array Slot} (h : fX5_pass_88 N k42 x2 x3 z0 = some r) (hP : va_P D vwCl (wM cI cJ cZ ad z0) H) (hS : va_S A s.heap H locs) (hl : lv_has ls 4 [(0, .ref (ad 0)), (2, .int x2), (3, .int x3)]) : W p l e R s m args below meth c H locs 0 0 Q (F0 m 88 ls []) := by
  unfold fX5_pass_88 at h
  have hx := C.1.1
  have hb := C.1.2.1
  refine lv_iinc (v := x3 + 1) (lv' := [(3, .int (x3 + 1)), (0, .ref (ad 0)), (2, .int x2)]) hx hb dX5_pass_88 hl (k := 2) rfl rfl (by decide) rfl (fun ls hl => ?_)
  refine lv_goto (tgt := 42) hx hb dX5_pass_91 (by decide) ?_
  exact K42 x2 (x3 + 1) z0 _ _ _ h hP hS (lv_sub hl [1, 2, 0] rfl)
set_option maxRecDepth 100000 in
set_option maxHeartbeats 4000000 in
theorem wX5_pass_42 {p : Program} {l : Launch} {e : Env} {R : Room} {s : State} {m : MethodId} {args : Array Value} {below : List Frame} {meth : Method} {c : Code} {Q : State → Prop} {D : va_G} {cI cJ cZ : ClassId} {ad : Nat → Nat} {A : Nat → Prop} (C : Cx p s m args c cX5_pass 4 wsX5_pass RX5 D vwCl (tyl cI cJ cZ) (wM cI cJ cZ ad) A R 3 65) {r : (Int32 × SH)} (hR : Ri p l e R s m args below meth c cX5_pass D vwCl (wM cI cJ cZ ad) A Q r) (N : Nat) (k42 : Int32 → Int32 → SH → Option (Int32 × SH)) (K42 : ∀ (x2 : Int32) (x3 : Int32) (z : SH) (H : Heap) (locs : List Loc) (ls : Array Slot), k42 x2 x3 z = some r → va_P D vwCl (wM cI cJ cZ ad z) H → va_S A s.heap H locs → lv_has ls 4 [(0, .ref (ad 0)), (2, .int x2), (3, .int x3)] → W p l e R s m args below meth c H locs 0 0 Q (F0 m 42 ls [])) (x2 : Int32) (x3 : Int32) (z0 : SH) {H : Heap} {locs : List Loc} {ls : Array Slot} (h : fX5_pass_42 N k42 x2 x3 z0 = some r) (hP : va_P D vwCl (wM cI cJ cZ ad z0) H) (hS : va_S A s.heap H locs) (hl : lv_has ls 4 [(0, .ref (ad 0)), (2, .int x2), (3, .int x3)]) : W p l e R s m args below meth c H locs 0 0 Q (F0 m 42 ls []) := by
  unfold fX5_pass_42 at h
  have hx := C.1.1
  have hb := C.1.2.1
  refine lv_iload_n hx hb dX5_pass_42 rfl (lv_at hl 2 rfl) ?_
  refine lv_aload_n hx hb dX5_pass_43 rfl (lv_at hl 0 rfl) ?_
  refine b_geti C hP h iX5_pass_X5 0 (wM_0 cI cJ cZ ad z0) rfl 9 (by decide) fX5_pass_i116 rfl rfl dX5_pass_44 (fun v1 h => ?_)
  refine lv_icmp_ge (tgt := 94) hx hb dX5_pass_47 (by decide) (fun c1 => ?_) (fun c1 => ?_)
  · replace h := (ite_h h).1 c1
    refine lv_iload_n hx hb dX5_pass_94 rfl (lv_at hl 1 rfl) ?_
    exact hR 95 _ _ _ _ _ (Option.some.inj h).symm dX5_pass_95 hP hS
  · replace h := (ite_h h).2 c1
    refine lv_aload_n hx hb dX5_pass_50 rfl (lv_at hl 0 rfl) ?_
    refine lv_iload_n hx hb dX5_pass_51 rfl (lv_at hl 2 rfl) ?_
    refine b_callVi (As := [.int x3]) (rest := []) C hP hS h (mX5_isThere l D cI cJ cZ ad x3 z0) (cwV 1 C.1.2.2.2.2 gX5_pass_X5_isThere rfl rfl rfl (by decide +kernel) ⟨Nat.le_trans (Nat.le_of_ble_eq_true rfl) C.2.2.2.2.1, Nat.le_trans (Nat.le_of_ble_eq_true rfl) C.2.2.2.2.2⟩) (va_recv C.2.1 hP (ci := 5) (q0 := 0) rfl (wM_0 cI cJ cZ ad z0)) rfl hl.1 rfl (Nat.le_of_ble_eq_true rfl) dX5_pass_52 (fun v3 z2 _ _ h hP hS => ?_)
    refine lv_if_eq (tgt := 88) hx hb dX5_pass_55 (by decide) (fun c1 => ?_) (fun c1 => ?_)
    · replace h := (ite_h h).1 c1
      exact wX5_pass_88 C hR N k42 K42 x2 x3 z2 h hP hS (lv_sub hl [0, 1, 2] rfl)
    · replace h := (ite_h h).2 c1
      refine lv_aload_n hx hb dX5_pass_58 rfl (lv_at hl 0 rfl) ?_
      refine b_getr C hP iX5_pass_X5 0 (wM_0 cI cJ cZ ad z2) rfl 19 (by decide) fX5_pass_i60 rfl rfl dX5_pass_59 ?_
      refine lv_iload_n hx hb dX5_pass_62 rfl (lv_at hl 2 rfl) ?_
      refine b_iald C hP h 17 (wM_17 cI cJ cZ ad z2) 0 rfl dX5_pass_63 (fun v4 h => ?_)
      refine lv_if_le (tgt := 88) hx hb dX5_pass_64 (by decide) (fun c1 => ?_) (fun c1 => ?_)
      · replace h := (ite_h h).1 c1
        exact wX5_pass_88 C hR N k42 K42 x2 x3 z2 h hP hS (lv_sub hl [0, 1, 2] rfl)
      · replace h := (ite_h h).2 c1
        refine lv_aload_n hx hb dX5_pass_67 rfl (lv_at hl 0 rfl) ?_
        refine b_getr C hP iX5_pass_X5 0 (wM_0 cI cJ cZ ad z2) rfl 19 (by decide) fX5_pass_i60 rfl rfl dX5_pass_68 ?_
        refine lv_iload_n hx hb dX5_pass_71 rfl (lv_at hl 2 rfl) ?_
        refine b_iald C hP h 17 (wM_17 cI cJ cZ ad z2) 0 rfl dX5_pass_72 (fun v5 h => ?_)
        refine lv_aload_n hx hb dX5_pass_73 rfl (lv_at hl 0 rfl) ?_
        refine b_geti C hP h iX5_pass_X5 0 (wM_0 cI cJ cZ ad z2) rfl 1 (by decide) fX5_pass_i181 rfl rfl dX5_pass_74 (fun v6 h => ?_)
        refine lv_icmp_gt (tgt := 88) hx hb dX5_pass_77 (by decide) (fun c1 => ?_) (fun c1 => ?_)
        · replace h := (ite_h h).1 c1
          exact wX5_pass_88 C hR N k42 K42 x2 x3 z2 h hP hS (lv_sub hl [0, 1, 2] rfl)
        · replace h := (ite_h h).2 c1
          refine lv_aload_n hx hb dX5_pass_80 rfl (lv_at hl 0 rfl) ?_
          refine lv_iload_n hx hb dX5_pass_81 rfl (lv_at hl 2 rfl) ?_
          refine b_callVv (As := [.int x3]) (rest := []) C hP hS h (mX5_cancelled l D cI cJ cZ ad x3 z2) (cwV 1 C.1.2.2.2.2 gX5_pass_X5_cancelled rfl rfl rfl (by decide +kernel) ⟨Nat.le_trans (Nat.le_of_ble_eq_true rfl) C.2.2.2.2.1, Nat.le_trans (Nat.le_of_ble_eq_true rfl) C.2.2.2.2.2⟩) (va_recv C.2.1 hP (ci := 5) (q0 := 0) rfl (wM_0 cI cJ cZ ad z2)) rfl hl.1 rfl (Nat.le_of_ble_eq_true rfl) dX5_pass_82 (fun _ z7 _ _ h hP hS => ?_)
          refine lv_iinc (v := x2 + 1) (lv' := [(2, .int (x2 + 1)), (0, .ref (ad 0)), (3, .int x3)]) hx hb dX5_pass_85 hl (k := 1) rfl rfl (by decide) rfl (fun ls hl => ?_)
          exact wX5_pass_88 C hR N k42 K42 (x2 + 1) x3 z7 h hP hS (lv_sub hl [1, 0, 2] rfl)
theorem wX5_pass_42_L {p : Program} {l : Launch} {e : Env} {R : Room} {s : State} {m : MethodId} {args : Array Value} {below : List Frame} {meth : Method} {c : Code} {Q : State → Prop} {D : va_G} {cI cJ cZ : ClassId} {ad : Nat → Nat} {A : Nat → Prop} (C : Cx p s m args c cX5_pass 4 wsX5_pass RX5 D vwCl (tyl cI cJ cZ) (wM cI cJ cZ ad) A R 3 65) {r : (Int32 × SH)} (hR : Ri p l e R s m args below meth c cX5_pass D vwCl (wM cI cJ cZ ad) A Q r) (N : Nat) : ∀ (n : Nat), ∀ (x2 : Int32) (x3 : Int32) (z : SH) (H : Heap) (locs : List Loc) (ls : Array Slot), fX5_pass_42_L N n x2 x3 z = some r → va_P D vwCl (wM cI cJ cZ ad z) H → va_S A s.heap H locs → lv_has ls 4 [(0, .ref (ad 0)), (2, .int x2), (3, .int x3)] → W p l e R s m args below meth c H locs 0 0 Q (F0 m 42 ls []) := by
  intro n
  induction n with
  | zero => intro x2 x3 z H locs ls h; exact nomatch (show (none : Option (Int32 × SH)) = some r from h)
  | succ n ih => intro x2 x3 z H locs ls h hP hS hl; exact wX5_pass_42 C hR N (fX5_pass_42_L N n) ih x2 x3 z (show fX5_pass_42 N (fX5_pass_42_L N n) x2 x3 z = some r from h) hP hS hl
set_option maxRecDepth 100000 in
set_option maxHeartbeats 4000000 in
theorem wX5_pass_16 {p : Program} {l : Launch} {e : Env} {R : Room} {s : State} {m : MethodId} {args : Array Value} {below : List Frame} {meth : Method} {c : Code} {Q : State → Prop} {D : va_G} {cI cJ cZ : ClassId} {ad : Nat → Nat} {A : Nat → Prop} (C : Cx p s m args c cX5_pass 4 wsX5_pass RX5 D vwCl (tyl cI cJ cZ) (wM cI cJ cZ ad) A R 3 65) {r : (Int32 × SH)} (hR : Ri p l e R s m args below meth c cX5_pass D vwCl (wM cI cJ cZ ad) A Q r) (N : Nat) (x1 : Int32) (t0 : Int32) (z0 : SH) {H : Heap} {locs : List Loc} {ls : Array Slot} (h : fX5_pass_16 N x1 t0 z0 = some r) (hP : va_P D vwCl (wM cI cJ cZ ad z0) H) (hS : va_S A s.heap H locs) (hl : lv_has ls 4 [(0, .ref (ad 0)), (1, .int x1)]) : W p l e R s m args below meth c H locs 0 0 Q (F0 m 16 ls [.int t0, .ref (ad 0)]) := by
  unfold fX5_pass_16 at h
  have hx := C.1.1
  have hb := C.1.2.1
  refine b_puti C hP hS h iX5_pass_X5 tyX5 tyX5_ok nmX5 0 (wM_0 cI cJ cZ ad z0) rfl 0 (by decide) fX5_pass_i93 rfl rfl rfl (Nat.le_of_ble_eq_true rfl) (wM_si0 cI cJ cZ ad z0 _) dX5_pass_16 (fun z1 _ _ h hP hS => ?_)
  refine lv_aload_n hx hb dX5_pass_19 rfl (lv_at hl 0 rfl) ?_
  refine b_geti C hP h iX5_pass_X5 0 (wM_0 cI cJ cZ ad z1) rfl 0 (by decide) fX5_pass_i93 rfl rfl dX5_pass_20 (fun v2 h => ?_)
  refine lv_if_le (tgt := 28) hx hb dX5_pass_23 (by decide) (fun c1 => ?_) (fun c1 => ?_)
  · replace h := (ite_h h).1 c1
    refine lv_aload_n hx hb dX5_pass_28 rfl (lv_at hl 0 rfl) ?_
    refine lv_dup hx hb dX5_pass_29 rfl ?_
    refine b_geti C hP h iX5_pass_X5 0 (wM_0 cI cJ cZ ad z1) rfl 1 (by decide) fX5_pass_i181 rfl rfl dX5_pass_30 (fun v3 h => ?_)
    refine lv_iload_n hx hb dX5_pass_33 rfl (lv_at hl 1 rfl) ?_
    refine lv_iadd hx hb dX5_pass_34 ?_
    refine b_puti C hP hS h iX5_pass_X5 tyX5 tyX5_ok nmX5 0 (wM_0 cI cJ cZ ad z1) rfl 1 (by decide) fX5_pass_i181 rfl rfl rfl (Nat.le_of_ble_eq_true rfl) (wM_si1 cI cJ cZ ad z1 _) dX5_pass_35 (fun z4 _ _ h hP hS => ?_)
    refine lv_iconst (v := 0) hx hb dX5_pass_38 (by decide) ?_
    refine lv_istore_n (lv' := [(2, .int 0), (0, .ref (ad 0)), (1, .int x1)]) hx hb dX5_pass_39 rfl hl (by decide) rfl (fun ls hl => ?_)
    refine lv_iconst (v := 0) hx hb dX5_pass_40 (by decide) ?_
    refine lv_istore_n (lv' := [(3, .int 0), (2, .int 0), (0, .ref (ad 0)), (1, .int x1)]) hx hb dX5_pass_41 rfl hl (by decide) rfl (fun ls hl => ?_)
    exact wX5_pass_42_L C hR N N 0 0 z4 _ _ _ h hP hS (lv_sub hl [2, 1, 0] rfl)
  · replace h := (ite_h h).2 c1
    refine lv_iconst (v := 0) hx hb dX5_pass_26 (by decide) ?_
    exact hR 27 _ _ _ _ _ (Option.some.inj h).symm dX5_pass_27 hP hS
set_option maxRecDepth 100000 in
set_option maxHeartbeats 4000000 in
theorem wX5_pass {p : Program} {l : Launch} {e : Env} {R : Room} {s : State} {m : MethodId} {args : Array Value} {below : List Frame} {meth : Method} {c : Code} {Q : State → Prop} {D : va_G} {cI cJ cZ : ClassId} {ad : Nat → Nat} {A : Nat → Prop} (C : Cx p s m args c cX5_pass 4 wsX5_pass RX5 D vwCl (tyl cI cJ cZ) (wM cI cJ cZ ad) A R 3 65) {r : (Int32 × SH)} (hR : Ri p l e R s m args below meth c cX5_pass D vwCl (wM cI cJ cZ ad) A Q r) (N : Nat) (a1 : Int32) (z0 : SH) {H : Heap} {locs : List Loc} {ls : Array Slot} (h : fX5_pass N a1 z0 = some r) (hP : va_P D vwCl (wM cI cJ cZ ad z0) H) (hS : va_S A s.heap H locs) (hl : lv_has ls 4 [(0, .ref (ad 0)), (1, .int a1)]) : W p l e R s m args below meth c H locs 0 0 Q (F0 m 0 ls []) := by
  unfold fX5_pass at h
  have hx := C.1.1
  have hb := C.1.2.1
  refine lv_aload_n hx hb dX5_pass_0 rfl (lv_at hl 0 rfl) ?_
  refine lv_iload_n hx hb dX5_pass_1 rfl (lv_at hl 1 rfl) ?_
  refine lv_iconst (v := 0) hx hb dX5_pass_2 (by decide) ?_
  refine lv_ldc hx hb C.1.2.2.2.1 (C.1.2.2.2.2 _ kX5_pass_111) dX5_pass_3 ?_
  refine b_callSi (As := [.int a1, .int 0, .int 1000000]) (rest := [.ref (ad 0)]) C hP hS h (mX5_isIn l D cI cJ cZ ad a1 0 1000000 z0) (va_cwS 3 C.1.2.2.2.2 gX5_pass_X5_isIn rfl rfl rfl (by decide +kernel) ⟨Nat.le_trans (Nat.le_of_ble_eq_true rfl) C.2.2.2.2.1, Nat.le_trans (Nat.le_of_ble_eq_true rfl) C.2.2.2.2.2⟩) rfl hl.1 rfl (Nat.le_of_ble_eq_true rfl) dX5_pass_5 (fun v2 z1 _ _ h hP hS => ?_)
  refine lv_if_eq (tgt := 15) hx hb dX5_pass_8 (by decide) (fun c1 => ?_) (fun c1 => ?_)
  · replace h := (ite_h h).1 c1
    refine lv_iconst (v := 1) hx hb dX5_pass_15 (by decide) ?_
    exact wX5_pass_16 C hR N a1 1 z1 h hP hS (lv_sub hl [0, 1] rfl)
  · replace h := (ite_h h).2 c1
    refine lv_iconst (v := 0) hx hb dX5_pass_11 (by decide) ?_
    refine lv_goto (tgt := 16) hx hb dX5_pass_12 (by decide) ?_
    exact wX5_pass_16 C hR N a1 0 z1 h hP hS (lv_sub hl [0, 1] rfl)
theorem mX5_pass (l : Launch) (D : va_G) (cI cJ cZ : ClassId) (ad : Nat → Nat) (N : Nat) (a1 : Int32) (z0 : SH) : ∀ (q : (Int32 × SH)) (sz : Nat), fX5_pass N a1 z0 = some q → Met l yX5_pass wsX5_pass rmX5_pass (cP D vwCl (tyl cI cJ cZ) (wM cI cJ cZ ad z0) sz [.ref (ad 0), .int a1]) (cQi D vwCl (wM cI cJ cZ ad) z0 sz q) 0 0 (va_A (wM cI cJ cZ ad z0) sz) := by
  intro q sz h
  refine ofW_i (cc := cX5_pass) (maxL := 4) (by decide) rfl (wM_same cI cJ cZ ad) (Nat.le_of_ble_eq_true rfl) (fun p e s m below meth c ls hsz C hR hP hl => ?_)
  exact wX5_pass C hR N a1 z0 h hP va_S.rf hl
abbrev rmX5_best : Room := { frames := 2, cells := 0, slots := 0, locals := 47 }
theorem fX5_best_i45 : Cond.fieldLink RX5 45 (TX5 14).1 (TX5 14).2.1 (TX5 14).2.2.1 ∈ wsX5_best := by decide +kernel
theorem fX5_best_i93 : Cond.fieldLink RX5 93 (TX5 0).1 (TX5 0).2.1 (TX5 0).2.2.1 ∈ wsX5_best := by decide +kernel
theorem iX5_best_X5 : ∀ x ∈ wsX50, x ∈ wsX5_best := by decide +kernel
set_option maxRecDepth 100000 in
set_option maxHeartbeats 4000000 in
theorem wX5_best_82 {p : Program} {l : Launch} {e : Env} {R : Room} {s : State} {m : MethodId} {args : Array Value} {below : List Frame} {meth : Method} {c : Code} {Q : State → Prop} {D : va_G} {cI cJ cZ : ClassId} {ad : Nat → Nat} {A : Nat → Prop} (C : Cx p s m args c cX5_best 4 wsX5_best RX5 D vwCl (tyl cI cJ cZ) (wM cI cJ cZ ad) A R 2 47) {r : (Int32 × SH)} (hR : Ri p l e R s m args below meth c cX5_best D vwCl (wM cI cJ cZ ad) A Q r) (N : Nat) (t0 : Int32) (z0 : SH) {H : Heap} {locs : List Loc} {ls : Array Slot} (h : fX5_best_82 N t0 z0 = some r) (hP : va_P D vwCl (wM cI cJ cZ ad z0) H) (hS : va_S A s.heap H locs) (hl : lv_has ls 4 []) : W p l e R s m args below meth c H locs 0 0 Q (F0 m 82 ls [.int t0]) := by
  unfold fX5_best_82 at h
  have hx := C.1.1
  have hb := C.1.2.1
  exact hR 82 _ _ _ _ _ (Option.some.inj h).symm dX5_best_82 hP hS
set_option maxRecDepth 100000 in
set_option maxHeartbeats 4000000 in
theorem wX5_best_62 {p : Program} {l : Launch} {e : Env} {R : Room} {s : State} {m : MethodId} {args : Array Value} {below : List Frame} {meth : Method} {c : Code} {Q : State → Prop} {D : va_G} {cI cJ cZ : ClassId} {ad : Nat → Nat} {A : Nat → Prop} (C : Cx p s m args c cX5_best 4 wsX5_best RX5 D vwCl (tyl cI cJ cZ) (wM cI cJ cZ ad) A R 2 47) {r : (Int32 × SH)} (hR : Ri p l e R s m args below meth c cX5_best D vwCl (wM cI cJ cZ ad) A Q r) (N : Nat) (x3 : Int32) (t0 : Int32) (z0 : SH) {H : Heap} {locs : List Loc} {ls : Array Slot} (h : fX5_best_62 N x3 t0 z0 = some r) (hP : va_P D vwCl (wM cI cJ cZ ad z0) H) (hS : va_S A s.heap H locs) (hl : lv_has ls 4 [(0, .ref (ad 0)), (3, .int x3)]) : W p l e R s m args below meth c H locs 0 0 Q (F0 m 62 ls [.int t0, .ref (ad 0)]) := by
  unfold fX5_best_62 at h
  have hx := C.1.1
  have hb := C.1.2.1
  refine b_puti C hP hS h iX5_best_X5 tyX5 tyX5_ok nmX5 0 (wM_0 cI cJ cZ ad z0) rfl 0 (by decide) fX5_best_i93 rfl rfl rfl (Nat.le_of_ble_eq_true rfl) (wM_si0 cI cJ cZ ad z0 _) dX5_best_62 (fun z1 _ _ h hP hS => ?_)
  refine lv_aload_n hx hb dX5_best_65 rfl (lv_at hl 0 rfl) ?_
  refine b_geti C hP h iX5_best_X5 0 (wM_0 cI cJ cZ ad z1) rfl 0 (by decide) fX5_best_i93 rfl rfl dX5_best_66 (fun v2 h => ?_)
  refine lv_if_le (tgt := 76) hx hb dX5_best_69 (by decide) (fun c1 => ?_) (fun c1 => ?_)
  · replace h := (ite_h h).1 c1
    refine lv_aload_n hx hb dX5_best_76 rfl (lv_at hl 0 rfl) ?_
    refine b_getr C hP iX5_best_X5 0 (wM_0 cI cJ cZ ad z1) rfl 14 (by decide) fX5_best_i45 rfl rfl dX5_best_77 ?_
    refine lv_iload_n hx hb dX5_best_80 rfl (lv_at hl 1 rfl) ?_
    refine b_iald C hP h 12 (wM_12 cI cJ cZ ad z1) 0 rfl dX5_best_81 (fun v3 h => ?_)
    exact wX5_best_82 C hR N v3 z1 h hP hS (lv_sub hl [] rfl)
  · replace h := (ite_h h).2 c1
    refine lv_iconst (v := 0) hx hb dX5_best_72 (by decide) ?_
    refine lv_goto (tgt := 82) hx hb dX5_best_73 (by decide) ?_
    exact wX5_best_82 C hR N 0 z1 h hP hS (lv_sub hl [] rfl)
set_option maxRecDepth 100000 in
set_option maxHeartbeats 4000000 in
theorem wX5_best_26 {p : Program} {l : Launch} {e : Env} {R : Room} {s : State} {m : MethodId} {args : Array Value} {below : List Frame} {meth : Method} {c : Code} {Q : State → Prop} {D : va_G} {cI cJ cZ : ClassId} {ad : Nat → Nat} {A : Nat → Prop} (C : Cx p s m args c cX5_best 4 wsX5_best RX5 D vwCl (tyl cI cJ cZ) (wM cI cJ cZ ad) A R 2 47) {r : (Int32 × SH)} (hR : Ri p l e R s m args below meth c cX5_best D vwCl (wM cI cJ cZ ad) A Q r) (N : Nat) (x1 : Int32) (x2 : Int32) (t0 : Int32) (z0 : SH) {H : Heap} {locs : List Loc} {ls : Array Slot} (h : fX5_best_26 N x1 x2 t0 z0 = some r) (hP : va_P D vwCl (wM cI cJ cZ ad z0) H) (hS : va_S A s.heap H locs) (hl : lv_has ls 4 [(0, .ref (ad 0)), (1, .int x1), (2, .int x2)]) : W p l e R s m args below meth c H locs 0 0 Q (F0 m 26 ls [.int t0]) := by
  unfold fX5_best_26 at h
  have hx := C.1.1
  have hb := C.1.2.1
  refine lv_istore_n (lv' := [(3, .int t0), (0, .ref (ad 0)), (1, .int x1), (2, .int x2)]) hx hb dX5_best_26 rfl hl (by decide) rfl (fun ls hl => ?_)
  refine lv_aload_n hx hb dX5_best_27 rfl (lv_at hl 1 rfl) ?_
  refine lv_iload_n hx hb dX5_best_28 rfl (lv_at hl 2 rfl) ?_
  refine b_callSi (As := [.int x1]) (rest := [.ref (ad 0)]) C hP hS h (mX5_isSymbol l D cI cJ cZ ad x1 z0) (va_cwS 1 C.1.2.2.2.2 gX5_best_X5_isSymbol rfl rfl rfl (by decide +kernel) ⟨Nat.le_trans (Nat.le_of_ble_eq_true rfl) C.2.2.2.2.1, Nat.le_trans (Nat.le_of_ble_eq_true rfl) C.2.2.2.2.2⟩) rfl hl.1 rfl (Nat.le_of_ble_eq_true rfl) dX5_best_29 (fun v2 z1 _ _ h hP hS => ?_)
  refine lv_if_ne (tgt := 39) hx hb dX5_best_32 (by decide) (fun c1 => ?_) (fun c1 => ?_)
  · replace h := (ite_h h).2 c1
    refine lv_iload_n hx hb dX5_best_39 rfl (lv_at hl 3 rfl) ?_
    refine lv_iconst (v := 0) hx hb dX5_best_40 (by decide) ?_
    refine lv_iconst (v := 1) hx hb dX5_best_41 (by decide) ?_
    refine b_callSi (As := [.int x2, .int 0, .int 1]) (rest := [.ref (ad 0)]) C hP hS h (mX5_isIn l D cI cJ cZ ad x2 0 1 z1) (va_cwS 3 C.1.2.2.2.2 gX5_best_X5_isIn rfl rfl rfl (by decide +kernel) ⟨Nat.le_trans (Nat.le_of_ble_eq_true rfl) C.2.2.2.2.1, Nat.le_trans (Nat.le_of_ble_eq_true rfl) C.2.2.2.2.2⟩) rfl hl.1 rfl (Nat.le_of_ble_eq_true rfl) dX5_best_42 (fun v4 z3 _ _ h hP hS => ?_)
    refine lv_if_ne (tgt := 52) hx hb dX5_best_45 (by decide) (fun c1 => ?_) (fun c1 => ?_)
    · replace h := (ite_h h).2 c1
      refine lv_iload_n hx hb dX5_best_52 rfl (lv_at hl 0 rfl) ?_
      refine lv_iconst (v := -1) hx hb dX5_best_53 (by decide) ?_
      refine lv_icmp_ne (tgt := 61) hx hb dX5_best_54 (by decide) (fun c1 => ?_) (fun c1 => ?_)
      · replace h := (ite_h h).2 c1
        refine lv_iconst (v := 0) hx hb dX5_best_61 (by decide) ?_
        exact wX5_best_62 C hR N t0 0 z3 h hP hS (lv_sub hl [1, 0] rfl)
      · replace h := (ite_h h).1 c1
        refine lv_iconst (v := 3) hx hb dX5_best_57 (by decide) ?_
        refine lv_goto (tgt := 62) hx hb dX5_best_58 (by decide) ?_
        exact wX5_best_62 C hR N t0 3 z3 h hP hS (lv_sub hl [1, 0] rfl)
    · replace h := (ite_h h).1 c1
      refine lv_iconst (v := 2) hx hb dX5_best_48 (by decide) ?_
      refine lv_goto (tgt := 62) hx hb dX5_best_49 (by decide) ?_
      exact wX5_best_62 C hR N t0 2 z3 h hP hS (lv_sub hl [1, 0] rfl)
  · replace h := (ite_h h).1 c1
    refine lv_iconst (v := 1) hx hb dX5_best_35 (by decide) ?_
    refine lv_goto (tgt := 62) hx hb dX5_best_36 (by decide) ?_
    exact wX5_best_62 C hR N t0 1 z1 h hP hS (lv_sub hl [1, 0] rfl)
set_option maxRecDepth 100000 in
set_option maxHeartbeats 4000000 in
theorem wX5_best_25 {p : Program} {l : Launch} {e : Env} {R : Room} {s : State} {m : MethodId} {args : Array Value} {below : List Frame} {meth : Method} {c : Code} {Q : State → Prop} {D : va_G} {cI cJ cZ : ClassId} {ad : Nat → Nat} {A : Nat → Prop} (C : Cx p s m args c cX5_best 4 wsX5_best RX5 D vwCl (tyl cI cJ cZ) (wM cI cJ cZ ad) A R 2 47) {r : (Int32 × SH)} (hR : Ri p l e R s m args below meth c cX5_best D vwCl (wM cI cJ cZ ad) A Q r) (N : Nat) (x1 : Int32) (x2 : Int32) (z0 : SH) {H : Heap} {locs : List Loc} {ls : Array Slot} (h : fX5_best_25 N x1 x2 z0 = some r) (hP : va_P D vwCl (wM cI cJ cZ ad z0) H) (hS : va_S A s.heap H locs) (hl : lv_has ls 4 [(0, .ref (ad 0)), (1, .int x1), (2, .int x2)]) : W p l e R s m args below meth c H locs 0 0 Q (F0 m 25 ls []) := by
  unfold fX5_best_25 at h
  have hx := C.1.1
  have hb := C.1.2.1
  refine lv_iconst (v := -1) hx hb dX5_best_25 (by decide) ?_
  exact wX5_best_26 C hR N x1 x2 ((-1)) z0 h hP hS (lv_sub hl [0, 1, 2] rfl)
set_option maxRecDepth 100000 in
set_option maxHeartbeats 4000000 in
theorem wX5_best {p : Program} {l : Launch} {e : Env} {R : Room} {s : State} {m : MethodId} {args : Array Value} {below : List Frame} {meth : Method} {c : Code} {Q : State → Prop} {D : va_G} {cI cJ cZ : ClassId} {ad : Nat → Nat} {A : Nat → Prop} (C : Cx p s m args c cX5_best 4 wsX5_best RX5 D vwCl (tyl cI cJ cZ) (wM cI cJ cZ ad) A R 2 47) {r : (Int32 × SH)} (hR : Ri p l e R s m args below meth c cX5_best D vwCl (wM cI cJ cZ ad) A Q r) (N : Nat) (a1 : Int32) (a2 : Int32) (z0 : SH) {H : Heap} {locs : List Loc} {ls : Array Slot} (h : fX5_best N a1 a2 z0 = some r) (hP : va_P D vwCl (wM cI cJ cZ ad z0) H) (hS : va_S A s.heap H locs) (hl : lv_has ls 4 [(0, .ref (ad 0)), (1, .int a1), (2, .int a2)]) : W p l e R s m args below meth c H locs 0 0 Q (F0 m 0 ls []) := by
  unfold fX5_best at h
  have hx := C.1.1
  have hb := C.1.2.1
  refine lv_iload_n hx hb dX5_best_0 rfl (lv_at hl 1 rfl) ?_
  refine b_callSi (As := [.int a1]) (rest := []) C hP hS h (mX5_isSymbol l D cI cJ cZ ad a1 z0) (va_cwS 1 C.1.2.2.2.2 gX5_best_X5_isSymbol rfl rfl rfl (by decide +kernel) ⟨Nat.le_trans (Nat.le_of_ble_eq_true rfl) C.2.2.2.2.1, Nat.le_trans (Nat.le_of_ble_eq_true rfl) C.2.2.2.2.2⟩) rfl hl.1 rfl (Nat.le_of_ble_eq_true rfl) dX5_best_1 (fun v2 z1 _ _ h hP hS => ?_)
  refine lv_if_eq (tgt := 25) hx hb dX5_best_4 (by decide) (fun c1 => ?_) (fun c1 => ?_)
  · replace h := (ite_h h).1 c1
    exact wX5_best_25 C hR N a1 a2 z1 h hP hS (lv_sub hl [0, 1, 2] rfl)
  · replace h := (ite_h h).2 c1
    refine lv_iload_n hx hb dX5_best_7 rfl (lv_at hl 2 rfl) ?_
    refine lv_iconst (v := 0) hx hb dX5_best_8 (by decide) ?_
    refine lv_iconst (v := 1) hx hb dX5_best_9 (by decide) ?_
    refine b_callSi (As := [.int a2, .int 0, .int 1]) (rest := []) C hP hS h (mX5_isIn l D cI cJ cZ ad a2 0 1 z1) (va_cwS 3 C.1.2.2.2.2 gX5_best_X5_isIn rfl rfl rfl (by decide +kernel) ⟨Nat.le_trans (Nat.le_of_ble_eq_true rfl) C.2.2.2.2.1, Nat.le_trans (Nat.le_of_ble_eq_true rfl) C.2.2.2.2.2⟩) rfl hl.1 rfl (Nat.le_of_ble_eq_true rfl) dX5_best_10 (fun v4 z3 _ _ h hP hS => ?_)
    refine lv_if_eq (tgt := 25) hx hb dX5_best_13 (by decide) (fun c1 => ?_) (fun c1 => ?_)
    · replace h := (ite_h h).1 c1
      exact wX5_best_25 C hR N a1 a2 z3 h hP hS (lv_sub hl [0, 1, 2] rfl)
    · replace h := (ite_h h).2 c1
      refine lv_aload_n hx hb dX5_best_16 rfl (lv_at hl 0 rfl) ?_
      refine lv_iload_n hx hb dX5_best_17 rfl (lv_at hl 1 rfl) ?_
      refine lv_iload_n hx hb dX5_best_18 rfl (lv_at hl 2 rfl) ?_
      refine b_callVi (As := [.int a1, .int a2]) (rest := []) C hP hS h (mX5_first l D cI cJ cZ ad N a1 a2 z3) (cwV 2 C.1.2.2.2.2 gX5_best_X5_first rfl rfl rfl (by decide +kernel) ⟨Nat.le_trans (Nat.le_of_ble_eq_true rfl) C.2.2.2.2.1, Nat.le_trans (Nat.le_of_ble_eq_true rfl) C.2.2.2.2.2⟩) (va_recv C.2.1 hP (ci := 5) (q0 := 0) rfl (wM_0 cI cJ cZ ad z3)) rfl hl.1 rfl (Nat.le_of_ble_eq_true rfl) dX5_best_19 (fun v6 z5 _ _ h hP hS => ?_)
      refine lv_goto (tgt := 26) hx hb dX5_best_22 (by decide) ?_
      exact wX5_best_26 C hR N a1 a2 v6 z5 h hP hS (lv_sub hl [0, 1, 2] rfl)
theorem mX5_best (l : Launch) (D : va_G) (cI cJ cZ : ClassId) (ad : Nat → Nat) (N : Nat) (a1 : Int32) (a2 : Int32) (z0 : SH) : ∀ (q : (Int32 × SH)) (sz : Nat), fX5_best N a1 a2 z0 = some q → Met l yX5_best wsX5_best rmX5_best (cP D vwCl (tyl cI cJ cZ) (wM cI cJ cZ ad z0) sz [.ref (ad 0), .int a1, .int a2]) (cQi D vwCl (wM cI cJ cZ ad) z0 sz q) 0 0 (va_A (wM cI cJ cZ ad z0) sz) := by
  intro q sz h
  refine ofW_i (cc := cX5_best) (maxL := 4) (by decide) rfl (wM_same cI cJ cZ ad) (Nat.le_of_ble_eq_true rfl) (fun p e s m below meth c ls hsz C hR hP hl => ?_)
  exact wX5_best C hR N a1 a2 z0 h hP va_S.rf hl
