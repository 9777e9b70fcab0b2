set_option maxRecDepth 100000 in
set_option maxHeartbeats 4000000 in
theorem case_deposit {p : Program} {l : Launch} {e : Env} {s : State} {m : MethodId} {below : List Frame} {meth : Method} {c : Code} {H : Heap} {locs : List Loc} {cells slots : Nat} {Q9 : State → Prop} {b L : Nat} {xs : Nat → Int32} {D : va_G} {cI cJ cZ : ClassId} {ad am sx : Nat → Nat} {ao : Nat} {z t : SH} {f : Nat → Int64} {ls : Array Slot} {k : Nat} {q : Nat → Nat → Nat} {Q : Nat → List Nat} {n nt B o : Nat} (hl0 : l.stackTraces = false) (F : LF p s m c b L xs D cI cJ cZ ad am sx ao) (w : LW s D cI cJ cZ ad am ao z t f H locs) (R : Rel z t q Q n nt B o) (ho : n ≤ o) (hn : n ≤ k) (hB : B ≤ 1000000 * k) (hk : 8 * k + 8 ≤ L) (hl : lv_has ls 8 (lvL b (ad 0) (am 0) ao (nI (8 * k)))) (hc : cells + 1 ≤ 219 ∧ slots + 6 ≤ 37397)
    (kk : ∀ (z1 t1 : SH) (f1 : Nat → Int64) (H1 : Heap) (locs1 : List Loc) (ls1 : Array Slot) (q1 : Nat → Nat → Nat) (Q1 : Nat → List Nat) (n1 nt1 B1 o1 : Nat), LW s D cI cJ cZ ad am ao z1 t1 f1 H1 locs1 → Rel z1 t1 q1 Q1 n1 nt1 B1 o1 → n1 ≤ o1 → n1 ≤ k + 1 → B1 ≤ 1000000 * (k + 1) → lv_has ls1 8 (lvL b (ad 0) (am 0) ao (nI (8 * k))) → W p l e room_1 s m #[Value.ref b] below meth c H1 locs1 (cells + 1) (slots + 6) Q9 (F0 m 1513 ls1 [])) : W p l e room_1 s m #[Value.ref b] below meth c H locs cells slots Q9 (F0 m 132 ls []) := by
  have hL := F.2.2.2.2.2.2
  obtain ⟨r, z1, bb, t1, e1, e2, e3, e4⟩ := op_deposit R (xs (8 * k + 1)) (xs (8 * k + 2))
  have hx := F.1.1
  have hb := F.1.2.1
  refine lv_aload_n hx hb dL_law_132 rfl (lv_at hl 2 rfl) ?_
  refine ld_c (j := 1) (k := k) F w.2.2.2 (lv_at hl 1 rfl) (lv_at hl 0 rfl) (by omega) (by decide) dL_law_133 dL_law_134 dL_law_136 dL_law_137 dL_law_138 ?_
  refine ld_c (j := 2) (k := k) F w.2.2.2 (lv_at hl 1 rfl) (lv_at hl 0 rfl) (by omega) (by decide) dL_law_139 dL_law_140 dL_law_142 dL_law_143 dL_law_144 ?_
  refine lv_aload_n hx hb dL_law_145 rfl (lv_at hl 4 rfl) ?_
  refine L1_w (As := [.ref (ad 0), .int (xs (8 * k + 1)), .int (xs (8 * k + 2)), .ref ao]) (hh := [(0, 9, 12, 13), (0, 9, 16, 15), (0, 9, 20, 17)]) (r := wrL c3 f (r, z1)) F w (fun sz => mL_deposit l hl0 D cI cJ cZ ad sx ao f (xs (8 * k + 1)) (xs (8 * k + 2)) z (r, z1) sz e1 (agr_ne e3)) (vx_cwSW 4 F.1.2.2.2.2 gT_L_deposit rfl rfl rfl (by decide +kernel) ⟨Nat.le_of_ble_eq_true rfl, Nat.le_of_ble_eq_true rfl⟩) rfl hl hc rfl dL_law_146 dL_law_149 (fun H1 locs1 ls1 w hl => ?_)
  rw [wrL_z] at w
  refine lv_aload_n hx hb dL_law_151 rfl (lv_at hl 4 rfl) ?_
  refine ld_c (j := 1) (k := k) F w.2.2.2 (lv_at hl 2 rfl) (lv_at hl 1 rfl) (by omega) (by decide) dL_law_152 dL_law_153 dL_law_155 dL_law_156 dL_law_157 ?_
  refine ld_c (j := 2) (k := k) F w.2.2.2 (lv_at hl 2 rfl) (lv_at hl 1 rfl) (by omega) (by decide) dL_law_158 dL_law_159 dL_law_161 dL_law_162 dL_law_163 ?_
  refine L2_l (As := [.int (xs (8 * k + 1)), .int (xs (8 * k + 2))]) (rest := []) (callee := fX5_deposit (xs (8 * k + 1)) (xs (8 * k + 2)) t) (q := (bb, t1)) F w e2 (mX5_deposit l D cI cJ cZ am (xs (8 * k + 1)) (xs (8 * k + 2)) t) (cwV 2 F.1.2.2.2.2 gT_X5_deposit rfl rfl rfl (by decide +kernel) ⟨Nat.le_of_ble_eq_true rfl, Nat.le_of_ble_eq_true rfl⟩) rfl hl.1 hc rfl (Nat.le_of_ble_eq_true rfl) dL_law_164 (fun H1 locs1 w => ?_)
  exact L3_l F w hl (agrL_thr e3) (agrL_val e3) hc dL_law_167 dL_law_169 dL_law_170 dL_law_173 dL_law_175 (by decide) dL_law_180 dL_law_182 (by decide) dL_law_185 dL_law_186 dL_law_187 dL_law_188 dL_law_190 dL_law_191 (by decide) dL_law_196 (by decide) (fun H1 locs1 ls1 w hl => kk z1 t1 _ H1 locs1 ls1 q Q n nt B o w e4 ho (by omega) (by omega) hl)
set_option maxRecDepth 100000 in
set_option maxHeartbeats 4000000 in
theorem case_withdraw {p : Program} {l : Launch} {e : Env} {s : State} {m : MethodId} {below : List Frame} {meth : Method} {c : Code} {H : Heap} {locs : List Loc} {cells slots : Nat} {Q9 : State → Prop} {b L : Nat} {xs : Nat → Int32} {D : va_G} {cI cJ cZ : ClassId} {ad am sx : Nat → Nat} {ao : Nat} {z t : SH} {f : Nat → Int64} {ls : Array Slot} {k : Nat} {q : Nat → Nat → Nat} {Q : Nat → List Nat} {n nt B o : Nat} (hl0 : l.stackTraces = false) (F : LF p s m c b L xs D cI cJ cZ ad am sx ao) (w : LW s D cI cJ cZ ad am ao z t f H locs) (R : Rel z t q Q n nt B o) (ho : n ≤ o) (hn : n ≤ k) (hB : B ≤ 1000000 * k) (hk : 8 * k + 8 ≤ L) (hl : lv_has ls 8 (lvL b (ad 0) (am 0) ao (nI (8 * k)))) (hc : cells + 1 ≤ 219 ∧ slots + 6 ≤ 37397)
    (kk : ∀ (z1 t1 : SH) (f1 : Nat → Int64) (H1 : Heap) (locs1 : List Loc) (ls1 : Array Slot) (q1 : Nat → Nat → Nat) (Q1 : Nat → List Nat) (n1 nt1 B1 o1 : Nat), LW s D cI cJ cZ ad am ao z1 t1 f1 H1 locs1 → Rel z1 t1 q1 Q1 n1 nt1 B1 o1 → n1 ≤ o1 → n1 ≤ k + 1 → B1 ≤ 1000000 * (k + 1) → lv_has ls1 8 (lvL b (ad 0) (am 0) ao (nI (8 * k))) → W p l e room_1 s m #[Value.ref b] below meth c H1 locs1 (cells + 1) (slots + 6) Q9 (F0 m 1513 ls1 [])) : W p l e room_1 s m #[Value.ref b] below meth c H locs cells slots Q9 (F0 m 199 ls []) := by
  have hL := F.2.2.2.2.2.2
  obtain ⟨r, z1, bb, t1, e1, e2, e3, e4⟩ := op_withdraw R (xs (8 * k + 1)) (xs (8 * k + 2))
  have hx := F.1.1
  have hb := F.1.2.1
  refine lv_aload_n hx hb dL_law_199 rfl (lv_at hl 2 rfl) ?_
  refine ld_c (j := 1) (k := k) F w.2.2.2 (lv_at hl 1 rfl) (lv_at hl 0 rfl) (by omega) (by decide) dL_law_200 dL_law_201 dL_law_203 dL_law_204 dL_law_205 ?_
  refine ld_c (j := 2) (k := k) F w.2.2.2 (lv_at hl 1 rfl) (lv_at hl 0 rfl) (by omega) (by decide) dL_law_206 dL_law_207 dL_law_209 dL_law_210 dL_law_211 ?_
  refine lv_aload_n hx hb dL_law_212 rfl (lv_at hl 4 rfl) ?_
  refine L1_w (As := [.ref (ad 0), .int (xs (8 * k + 1)), .int (xs (8 * k + 2)), .ref ao]) (hh := [(0, 9, 12, 13), (0, 9, 16, 15), (0, 9, 20, 17)]) (r := wrL c3 f (r, z1)) F w (fun sz => mL_withdraw l hl0 D cI cJ cZ ad sx ao f (xs (8 * k + 1)) (xs (8 * k + 2)) z (r, z1) sz e1 (agr_ne e3)) (vx_cwSW 4 F.1.2.2.2.2 gT_L_withdraw rfl rfl rfl (by decide +kernel) ⟨Nat.le_of_ble_eq_true rfl, Nat.le_of_ble_eq_true rfl⟩) rfl hl hc rfl dL_law_213 dL_law_216 (fun H1 locs1 ls1 w hl => ?_)
  rw [wrL_z] at w
  refine lv_aload_n hx hb dL_law_218 rfl (lv_at hl 4 rfl) ?_
  refine ld_c (j := 1) (k := k) F w.2.2.2 (lv_at hl 2 rfl) (lv_at hl 1 rfl) (by omega) (by decide) dL_law_219 dL_law_220 dL_law_222 dL_law_223 dL_law_224 ?_
  refine ld_c (j := 2) (k := k) F w.2.2.2 (lv_at hl 2 rfl) (lv_at hl 1 rfl) (by omega) (by decide) dL_law_225 dL_law_226 dL_law_228 dL_law_229 dL_law_230 ?_
  refine L2_l (As := [.int (xs (8 * k + 1)), .int (xs (8 * k + 2))]) (rest := []) (callee := fX5_withdraw (xs (8 * k + 1)) (xs (8 * k + 2)) t) (q := (bb, t1)) F w e2 (mX5_withdraw l D cI cJ cZ am (xs (8 * k + 1)) (xs (8 * k + 2)) t) (cwV 2 F.1.2.2.2.2 gT_X5_withdraw rfl rfl rfl (by decide +kernel) ⟨Nat.le_of_ble_eq_true rfl, Nat.le_of_ble_eq_true rfl⟩) rfl hl.1 hc rfl (Nat.le_of_ble_eq_true rfl) dL_law_231 (fun H1 locs1 w => ?_)
  exact L3_l F w hl (agrL_thr e3) (agrL_val e3) hc dL_law_234 dL_law_236 dL_law_237 dL_law_240 dL_law_242 (by decide) dL_law_247 dL_law_249 (by decide) dL_law_252 dL_law_253 dL_law_254 dL_law_255 dL_law_257 dL_law_258 (by decide) dL_law_263 (by decide) (fun H1 locs1 ls1 w hl => kk z1 t1 _ H1 locs1 ls1 q Q n nt B o w e4 ho (by omega) (by omega) hl)
set_option maxRecDepth 100000 in
set_option maxHeartbeats 4000000 in
theorem case_grant {p : Program} {l : Launch} {e : Env} {s : State} {m : MethodId} {below : List Frame} {meth : Method} {c : Code} {H : Heap} {locs : List Loc} {cells slots : Nat} {Q9 : State → Prop} {b L : Nat} {xs : Nat → Int32} {D : va_G} {cI cJ cZ : ClassId} {ad am sx : Nat → Nat} {ao : Nat} {z t : SH} {f : Nat → Int64} {ls : Array Slot} {k : Nat} {q : Nat → Nat → Nat} {Q : Nat → List Nat} {n nt B o : Nat} (hl0 : l.stackTraces = false) (F : LF p s m c b L xs D cI cJ cZ ad am sx ao) (w : LW s D cI cJ cZ ad am ao z t f H locs) (R : Rel z t q Q n nt B o) (ho : n ≤ o) (hn : n ≤ k) (hB : B ≤ 1000000 * k) (hk : 8 * k + 8 ≤ L) (hl : lv_has ls 8 (lvL b (ad 0) (am 0) ao (nI (8 * k)))) (hc : cells + 1 ≤ 219 ∧ slots + 6 ≤ 37397)
    (kk : ∀ (z1 t1 : SH) (f1 : Nat → Int64) (H1 : Heap) (locs1 : List Loc) (ls1 : Array Slot) (q1 : Nat → Nat → Nat) (Q1 : Nat → List Nat) (n1 nt1 B1 o1 : Nat), LW s D cI cJ cZ ad am ao z1 t1 f1 H1 locs1 → Rel z1 t1 q1 Q1 n1 nt1 B1 o1 → n1 ≤ o1 → n1 ≤ k + 1 → B1 ≤ 1000000 * (k + 1) → lv_has ls1 8 (lvL b (ad 0) (am 0) ao (nI (8 * k))) → W p l e room_1 s m #[Value.ref b] below meth c H1 locs1 (cells + 1) (slots + 6) Q9 (F0 m 1513 ls1 [])) : W p l e room_1 s m #[Value.ref b] below meth c H locs cells slots Q9 (F0 m 266 ls []) := by
  have hL := F.2.2.2.2.2.2
  obtain ⟨r, z1, bb, t1, e1, e2, e3, e4⟩ := op_grant (B' := B + 1000000) R (Nat.le_refl _) (by omega) (xs (8 * k + 1)) (xs (8 * k + 2)) (xs (8 * k + 3))
  have hx := F.1.1
  have hb := F.1.2.1
  refine lv_aload_n hx hb dL_law_266 rfl (lv_at hl 2 rfl) ?_
  refine ld_c (j := 1) (k := k) F w.2.2.2 (lv_at hl 1 rfl) (lv_at hl 0 rfl) (by omega) (by decide) dL_law_267 dL_law_268 dL_law_270 dL_law_271 dL_law_272 ?_
  refine ld_c (j := 2) (k := k) F w.2.2.2 (lv_at hl 1 rfl) (lv_at hl 0 rfl) (by omega) (by decide) dL_law_273 dL_law_274 dL_law_276 dL_law_277 dL_law_278 ?_
  refine ld_c (j := 3) (k := k) F w.2.2.2 (lv_at hl 1 rfl) (lv_at hl 0 rfl) (by omega) (by decide) dL_law_279 dL_law_280 dL_law_282 dL_law_283 dL_law_284 ?_
  refine lv_aload_n hx hb dL_law_285 rfl (lv_at hl 4 rfl) ?_
  refine L1_w (As := [.ref (ad 0), .int (xs (8 * k + 1)), .int (xs (8 * k + 2)), .int (xs (8 * k + 3)), .ref ao]) (hh := [(0, 12, 15, 13), (0, 12, 19, 15), (0, 12, 23, 17)]) (r := wrI c3 f (r, z1)) F w (fun sz => mL_grant l hl0 D cI cJ cZ ad sx ao f (xs (8 * k + 1)) (xs (8 * k + 2)) (xs (8 * k + 3)) z (r, z1) sz e1 (agr_ne e3)) (vx_cwSW 5 F.1.2.2.2.2 gT_L_grant rfl rfl rfl (by decide +kernel) ⟨Nat.le_of_ble_eq_true rfl, Nat.le_of_ble_eq_true rfl⟩) rfl hl hc rfl dL_law_286 dL_law_289 (fun H1 locs1 ls1 w hl => ?_)
  rw [wrI_z] at w
  refine lv_aload_n hx hb dL_law_291 rfl (lv_at hl 4 rfl) ?_
  refine ld_c (j := 1) (k := k) F w.2.2.2 (lv_at hl 2 rfl) (lv_at hl 1 rfl) (by omega) (by decide) dL_law_292 dL_law_293 dL_law_295 dL_law_296 dL_law_297 ?_
  refine ld_c (j := 2) (k := k) F w.2.2.2 (lv_at hl 2 rfl) (lv_at hl 1 rfl) (by omega) (by decide) dL_law_298 dL_law_299 dL_law_301 dL_law_302 dL_law_303 ?_
  refine ld_c (j := 3) (k := k) F w.2.2.2 (lv_at hl 2 rfl) (lv_at hl 1 rfl) (by omega) (by decide) dL_law_304 dL_law_305 dL_law_307 dL_law_308 dL_law_309 ?_
  refine L2_i (As := [.int (xs (8 * k + 1)), .int (xs (8 * k + 2)), .int (xs (8 * k + 3))]) (rest := []) (callee := fX5_grant (xs (8 * k + 1)) (xs (8 * k + 2)) (xs (8 * k + 3)) t) (q := (bb, t1)) F w e2 (mX5_grant l D cI cJ cZ am (xs (8 * k + 1)) (xs (8 * k + 2)) (xs (8 * k + 3)) t) (cwV 3 F.1.2.2.2.2 gT_X5_grant rfl rfl rfl (by decide +kernel) ⟨Nat.le_of_ble_eq_true rfl, Nat.le_of_ble_eq_true rfl⟩) rfl hl.1 hc rfl (Nat.le_of_ble_eq_true rfl) dL_law_310 (fun H1 locs1 w => ?_)
  exact L3_i F w hl (agrI_thr e3) (agrI_val e3) hc dL_law_313 dL_law_315 dL_law_316 dL_law_319 dL_law_321 (by decide) dL_law_326 dL_law_328 (by decide) dL_law_331 dL_law_332 dL_law_333 dL_law_334 dL_law_336 dL_law_337 dL_law_338 (by decide) dL_law_343 (by decide) (fun H1 locs1 ls1 w hl => kk z1 t1 _ H1 locs1 ls1 q Q n nt (B + 1000000) o w e4 ho (by omega) (by omega) hl)
set_option maxRecDepth 100000 in
set_option maxHeartbeats 4000000 in
theorem case_order {p : Program} {l : Launch} {e : Env} {s : State} {m : MethodId} {below : List Frame} {meth : Method} {c : Code} {H : Heap} {locs : List Loc} {cells slots : Nat} {Q9 : State → Prop} {b L : Nat} {xs : Nat → Int32} {D : va_G} {cI cJ cZ : ClassId} {ad am sx : Nat → Nat} {ao : Nat} {z t : SH} {f : Nat → Int64} {ls : Array Slot} {k : Nat} {q : Nat → Nat → Nat} {Q : Nat → List Nat} {n nt B o : Nat} (hl0 : l.stackTraces = false) (F : LF p s m c b L xs D cI cJ cZ ad am sx ao) (w : LW s D cI cJ cZ ad am ao z t f H locs) (R : Rel z t q Q n nt B o) (ho : n ≤ o) (hn : n ≤ k) (hB : B ≤ 1000000 * k) (hk : 8 * k + 8 ≤ L) (hl : lv_has ls 8 (lvL b (ad 0) (am 0) ao (nI (8 * k)))) (hc : cells + 1 ≤ 219 ∧ slots + 6 ≤ 37397)
    (kk : ∀ (z1 t1 : SH) (f1 : Nat → Int64) (H1 : Heap) (locs1 : List Loc) (ls1 : Array Slot) (q1 : Nat → Nat → Nat) (Q1 : Nat → List Nat) (n1 nt1 B1 o1 : Nat), LW s D cI cJ cZ ad am ao z1 t1 f1 H1 locs1 → Rel z1 t1 q1 Q1 n1 nt1 B1 o1 → n1 ≤ o1 → n1 ≤ k + 1 → B1 ≤ 1000000 * (k + 1) → lv_has ls1 8 (lvL b (ad 0) (am 0) ao (nI (8 * k))) → W p l e room_1 s m #[Value.ref b] below meth c H1 locs1 (cells + 1) (slots + 6) Q9 (F0 m 1513 ls1 [])) : W p l e room_1 s m #[Value.ref b] below meth c H locs cells slots Q9 (F0 m 346 ls []) := by
  have hL := F.2.2.2.2.2.2
  obtain ⟨r, z1, bb, t1, q1, Q1, n1, nt1, B1, o1, e1, e2, e3, e4, e5, e6, e7⟩ := op_order 20000 (Nat.le_refl _) R ho (by omega) (by omega) (xs (8 * k + 1)) (xs (8 * k + 2)) (xs (8 * k + 3)) (xs (8 * k + 4)) (xs (8 * k + 5)) (xs (8 * k + 6)) (xs (8 * k + 7))
  have hx := F.1.1
  have hb := F.1.2.1
  refine lv_aload_n hx hb dL_law_346 rfl (lv_at hl 2 rfl) ?_
  refine ld_c (j := 1) (k := k) F w.2.2.2 (lv_at hl 1 rfl) (lv_at hl 0 rfl) (by omega) (by decide) dL_law_347 dL_law_348 dL_law_350 dL_law_351 dL_law_352 ?_
  refine ld_c (j := 2) (k := k) F w.2.2.2 (lv_at hl 1 rfl) (lv_at hl 0 rfl) (by omega) (by decide) dL_law_353 dL_law_354 dL_law_356 dL_law_357 dL_law_358 ?_
  refine ld_c (j := 3) (k := k) F w.2.2.2 (lv_at hl 1 rfl) (lv_at hl 0 rfl) (by omega) (by decide) dL_law_359 dL_law_360 dL_law_362 dL_law_363 dL_law_364 ?_
  refine ld_c (j := 4) (k := k) F w.2.2.2 (lv_at hl 1 rfl) (lv_at hl 0 rfl) (by omega) (by decide) dL_law_365 dL_law_366 dL_law_368 dL_law_369 dL_law_370 ?_
  refine ld_c (j := 5) (k := k) F w.2.2.2 (lv_at hl 1 rfl) (lv_at hl 0 rfl) (by omega) (by decide) dL_law_371 dL_law_372 dL_law_374 dL_law_375 dL_law_376 ?_
  refine ld_b (j := 6) (k := k) F w.2.2.2 (lv_at hl 1 rfl) (lv_at hl 0 rfl) (by omega) (by decide) dL_law_377 dL_law_378 dL_law_380 dL_law_382 dL_law_383 ?_
  refine ld_b (j := 7) (k := k) F w.2.2.2 (lv_at hl 1 rfl) (lv_at hl 0 rfl) (by omega) (by decide) dL_law_384 dL_law_385 dL_law_387 dL_law_389 dL_law_390 ?_
  refine lv_aload_n hx hb dL_law_391 rfl (lv_at hl 4 rfl) ?_
  refine L1_w (As := [.ref (ad 0), .int (xs (8 * k + 1)), .int (xs (8 * k + 2)), .int (xs (8 * k + 3)), .int (xs (8 * k + 4)), .int (xs (8 * k + 5)), .int (xs (8 * k + 6)), .int (xs (8 * k + 7)), .ref ao]) (hh := [(0, 20, 23, 13), (0, 20, 27, 15), (0, 20, 31, 17)]) (r := wrI c3 f (r, z1)) F w (fun sz => mL_order l hl0 D cI cJ cZ ad sx ao f 20000 (xs (8 * k + 1)) (xs (8 * k + 2)) (xs (8 * k + 3)) (xs (8 * k + 4)) (xs (8 * k + 5)) (xs (8 * k + 6)) (xs (8 * k + 7)) z (r, z1) sz e1 (agr_ne e3)) (vx_cwSW 9 F.1.2.2.2.2 gT_L_order rfl rfl rfl (by decide +kernel) ⟨Nat.le_of_ble_eq_true rfl, Nat.le_of_ble_eq_true rfl⟩) rfl hl hc rfl dL_law_392 dL_law_395 (fun H1 locs1 ls1 w hl => ?_)
  rw [wrI_z] at w
  refine lv_aload_n hx hb dL_law_397 rfl (lv_at hl 4 rfl) ?_
  refine ld_c (j := 1) (k := k) F w.2.2.2 (lv_at hl 2 rfl) (lv_at hl 1 rfl) (by omega) (by decide) dL_law_398 dL_law_399 dL_law_401 dL_law_402 dL_law_403 ?_
  refine ld_c (j := 2) (k := k) F w.2.2.2 (lv_at hl 2 rfl) (lv_at hl 1 rfl) (by omega) (by decide) dL_law_404 dL_law_405 dL_law_407 dL_law_408 dL_law_409 ?_
  refine ld_c (j := 3) (k := k) F w.2.2.2 (lv_at hl 2 rfl) (lv_at hl 1 rfl) (by omega) (by decide) dL_law_410 dL_law_411 dL_law_413 dL_law_414 dL_law_415 ?_
  refine ld_c (j := 4) (k := k) F w.2.2.2 (lv_at hl 2 rfl) (lv_at hl 1 rfl) (by omega) (by decide) dL_law_416 dL_law_417 dL_law_419 dL_law_420 dL_law_421 ?_
  refine ld_c (j := 5) (k := k) F w.2.2.2 (lv_at hl 2 rfl) (lv_at hl 1 rfl) (by omega) (by decide) dL_law_422 dL_law_423 dL_law_425 dL_law_426 dL_law_427 ?_
  refine ld_b (j := 6) (k := k) F w.2.2.2 (lv_at hl 2 rfl) (lv_at hl 1 rfl) (by omega) (by decide) dL_law_428 dL_law_429 dL_law_431 dL_law_433 dL_law_434 ?_
  refine ld_b (j := 7) (k := k) F w.2.2.2 (lv_at hl 2 rfl) (lv_at hl 1 rfl) (by omega) (by decide) dL_law_435 dL_law_436 dL_law_438 dL_law_440 dL_law_441 ?_
  refine L2_i (As := [.int (xs (8 * k + 1)), .int (xs (8 * k + 2)), .int (xs (8 * k + 3)), .int (xs (8 * k + 4)), .int (xs (8 * k + 5)), .int (xs (8 * k + 6)), .int (xs (8 * k + 7))]) (rest := []) (callee := fX5_order 20000 (xs (8 * k + 1)) (xs (8 * k + 2)) (xs (8 * k + 3)) (xs (8 * k + 4)) (xs (8 * k + 5)) (xs (8 * k + 6)) (xs (8 * k + 7)) t) (q := (bb, t1)) F w e2 (mX5_order l D cI cJ cZ am 20000 (xs (8 * k + 1)) (xs (8 * k + 2)) (xs (8 * k + 3)) (xs (8 * k + 4)) (xs (8 * k + 5)) (xs (8 * k + 6)) (xs (8 * k + 7)) t) (cwV 7 F.1.2.2.2.2 gT_X5_order rfl rfl rfl (by decide +kernel) ⟨Nat.le_of_ble_eq_true rfl, Nat.le_of_ble_eq_true rfl⟩) rfl hl.1 hc rfl (Nat.le_of_ble_eq_true rfl) dL_law_442 (fun H1 locs1 w => ?_)
  exact L3_i F w hl (agrI_thr e3) (agrI_val e3) hc dL_law_445 dL_law_447 dL_law_448 dL_law_451 dL_law_453 (by decide) dL_law_458 dL_law_460 (by decide) dL_law_463 dL_law_464 dL_law_465 dL_law_466 dL_law_468 dL_law_469 dL_law_470 (by decide) dL_law_475 (by decide) (fun H1 locs1 ls1 w hl => kk z1 t1 _ H1 locs1 ls1 q1 Q1 n1 nt1 B1 o1 w e4 e5 (by omega) (by omega) hl)
set_option maxRecDepth 100000 in
set_option maxHeartbeats 4000000 in
theorem case_cancel {p : Program} {l : Launch} {e : Env} {s : State} {m : MethodId} {below : List Frame} {meth : Method} {c : Code} {H : Heap} {locs : List Loc} {cells slots : Nat} {Q9 : State → Prop} {b L : Nat} {xs : Nat → Int32} {D : va_G} {cI cJ cZ : ClassId} {ad am sx : Nat → Nat} {ao : Nat} {z t : SH} {f : Nat → Int64} {ls : Array Slot} {k : Nat} {q : Nat → Nat → Nat} {Q : Nat → List Nat} {n nt B o : Nat} (hl0 : l.stackTraces = false) (F : LF p s m c b L xs D cI cJ cZ ad am sx ao) (w : LW s D cI cJ cZ ad am ao z t f H locs) (R : Rel z t q Q n nt B o) (ho : n ≤ o) (hn : n ≤ k) (hB : B ≤ 1000000 * k) (hk : 8 * k + 8 ≤ L) (hl : lv_has ls 8 (lvL b (ad 0) (am 0) ao (nI (8 * k)))) (hc : cells + 1 ≤ 219 ∧ slots + 6 ≤ 37397)
    (kk : ∀ (z1 t1 : SH) (f1 : Nat → Int64) (H1 : Heap) (locs1 : List Loc) (ls1 : Array Slot) (q1 : Nat → Nat → Nat) (Q1 : Nat → List Nat) (n1 nt1 B1 o1 : Nat), LW s D cI cJ cZ ad am ao z1 t1 f1 H1 locs1 → Rel z1 t1 q1 Q1 n1 nt1 B1 o1 → n1 ≤ o1 → n1 ≤ k + 1 → B1 ≤ 1000000 * (k + 1) → lv_has ls1 8 (lvL b (ad 0) (am 0) ao (nI (8 * k))) → W p l e room_1 s m #[Value.ref b] below meth c H1 locs1 (cells + 1) (slots + 6) Q9 (F0 m 1513 ls1 [])) : W p l e room_1 s m #[Value.ref b] below meth c H locs cells slots Q9 (F0 m 478 ls []) := by
  have hL := F.2.2.2.2.2.2
  obtain ⟨r, z1, bb, t1, q1, Q1, e1, e2, e3, e4⟩ := op_cancel 20000 (Nat.le_refl _) R ho (xs (8 * k + 1)) (xs (8 * k + 2))
  have hx := F.1.1
  have hb := F.1.2.1
  refine lv_aload_n hx hb dL_law_478 rfl (lv_at hl 2 rfl) ?_
  refine ld_c (j := 1) (k := k) F w.2.2.2 (lv_at hl 1 rfl) (lv_at hl 0 rfl) (by omega) (by decide) dL_law_479 dL_law_480 dL_law_482 dL_law_483 dL_law_484 ?_
  refine ld_c (j := 2) (k := k) F w.2.2.2 (lv_at hl 1 rfl) (lv_at hl 0 rfl) (by omega) (by decide) dL_law_485 dL_law_486 dL_law_488 dL_law_489 dL_law_490 ?_
  refine lv_aload_n hx hb dL_law_491 rfl (lv_at hl 4 rfl) ?_
  refine L1_w (As := [.ref (ad 0), .int (xs (8 * k + 1)), .int (xs (8 * k + 2)), .ref ao]) (hh := [(0, 10, 13, 13), (0, 10, 17, 15), (0, 10, 21, 17)]) (r := wrI c3 f (r, z1)) F w (fun sz => mL_cancel l hl0 D cI cJ cZ ad sx ao f 20000 (xs (8 * k + 1)) (xs (8 * k + 2)) z (r, z1) sz e1 (agr_ne e3)) (vx_cwSW 4 F.1.2.2.2.2 gT_L_cancel rfl rfl rfl (by decide +kernel) ⟨Nat.le_of_ble_eq_true rfl, Nat.le_of_ble_eq_true rfl⟩) rfl hl hc rfl dL_law_492 dL_law_495 (fun H1 locs1 ls1 w hl => ?_)
  rw [wrI_z] at w
  refine lv_aload_n hx hb dL_law_497 rfl (lv_at hl 4 rfl) ?_
  refine ld_c (j := 1) (k := k) F w.2.2.2 (lv_at hl 2 rfl) (lv_at hl 1 rfl) (by omega) (by decide) dL_law_498 dL_law_499 dL_law_501 dL_law_502 dL_law_503 ?_
  refine ld_c (j := 2) (k := k) F w.2.2.2 (lv_at hl 2 rfl) (lv_at hl 1 rfl) (by omega) (by decide) dL_law_504 dL_law_505 dL_law_507 dL_law_508 dL_law_509 ?_
  refine L2_i (As := [.int (xs (8 * k + 1)), .int (xs (8 * k + 2))]) (rest := []) (callee := fX5_cancel (xs (8 * k + 1)) (xs (8 * k + 2)) t) (q := (bb, t1)) F w e2 (mX5_cancel l D cI cJ cZ am (xs (8 * k + 1)) (xs (8 * k + 2)) t) (cwV 2 F.1.2.2.2.2 gT_X5_cancel rfl rfl rfl (by decide +kernel) ⟨Nat.le_of_ble_eq_true rfl, Nat.le_of_ble_eq_true rfl⟩) rfl hl.1 hc rfl (Nat.le_of_ble_eq_true rfl) dL_law_510 (fun H1 locs1 w => ?_)
  exact L3_i F w hl (agrI_thr e3) (agrI_val e3) hc dL_law_513 dL_law_515 dL_law_516 dL_law_519 dL_law_521 (by decide) dL_law_526 dL_law_528 (by decide) dL_law_531 dL_law_532 dL_law_533 dL_law_534 dL_law_536 dL_law_537 dL_law_538 (by decide) dL_law_543 (by decide) (fun H1 locs1 ls1 w hl => kk z1 t1 _ H1 locs1 ls1 q1 Q1 n nt B o w e4 ho (by omega) (by omega) hl)
