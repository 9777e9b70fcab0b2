/-! ===== the law: its rows ===== -/
abbrev lwA (s : State) : Nat → Prop := fun q => s.heap.size ≤ q
def LF (p : Program) (s : State) (m : MethodId) (c : Code) (b L : Nat) (xs : Nat → Int32) (D : va_G) (cI cJ cZ : ClassId) (ad am sx : Nat → Nat) (ao : Nat) : Prop :=
  CallFix p m c cL_law 8 s #[Value.ref b] lw_tbl RL ∧ va_K D vwCl (tyl cI cJ cZ) s ∧ (∀ z t f, va_D (lwA s) (wH cI cJ cZ ad z ++ (wM cI cJ cZ am t ++ [outE cJ ao f]))) ∧ thY sx (lwA s) s ∧ va_X b L xs s s.heap ∧ b < s.heap.size ∧ L ≤ 512
def LW (s : State) (D : va_G) (cI cJ cZ : ClassId) (ad am : Nat → Nat) (ao : Nat) (z t : SH) (f : Nat → Int64) (H : Heap) (locs : List Loc) : Prop :=
  va_P D vwCl (wH cI cJ cZ ad z) H ∧ va_P D vwCl (wM cI cJ cZ am t) H ∧ va_P D vwCl [outE cJ ao f] H ∧ va_S (lwA s) s.heap H locs
abbrev lvL (b a1 a2 a3 : Nat) (i : Int32) : List (Nat × Value) := [(4, .int i), (0, .ref b), (1, .ref a1), (2, .ref a2), (3, .ref a3)]
theorem wrI_z {code : String → Int32} {f : Nat → Int64} {r : String ⊕ Int32} {z : SH} : (wrI code f (r, z)).2.1 = z := by cases r <;> rfl
theorem wrL_z {code : String → Int32} {f : Nat → Int64} {r : String ⊕ Int64} {z : SH} : (wrL code f (r, z)).2.1 = z := by cases r <;> rfl
theorem wrV_z {code : String → Int32} {r : String ⊕ Unit} {z : SH} : (wrV code (r, z)).2 = z := by cases r <;> rfl
theorem agr_ne {α : Type} {code : String → Int32} {r : String ⊕ α} {b : α} {t z : SH} (h : agr code r b t) : ∀ (E : String) (z1 : SH), (r, z) = (.inl E, z1) → code E ≠ 0 := by
  intro E z1 e
  cases e
  exact h.2
theorem agrI_thr {code : String → Int32} {f : Nat → Int64} {r : String ⊕ Int32} {b : Int32} {t z : SH} (h : agr code r b t) : gi t 0 = (wrI code f (r, z)).1 := by cases r <;> exact h.1
theorem agrL_thr {code : String → Int32} {f : Nat → Int64} {r : String ⊕ Int64} {b : Int64} {t z : SH} (h : agr code r b t) : gi t 0 = (wrL code f (r, z)).1 := by cases r <;> exact h.1
theorem agrV_thr {code : String → Int32} {r : String ⊕ Unit} {b : Unit} {t z : SH} (h : agr code r b t) : gi t 0 = (wrV code (r, z)).1 := by cases r <;> exact h.1
theorem agrI_val {code : String → Int32} {f : Nat → Int64} {r : String ⊕ Int32} {b : Int32} {t z : SH} (h : agr code r b t) : (wrI code f (r, z)).1 = 0 → (wrI code f (r, z)).2.2 0 = b.toInt64 := by
  cases r with
  | inl E => exact fun e => absurd e h.2
  | inr v =>
    intro _
    show vp_updL f 0 v.toInt64 0 = b.toInt64
    rw [h.2]
    simp [vp_updL]
theorem agrL_val {code : String → Int32} {f : Nat → Int64} {r : String ⊕ Int64} {b : Int64} {t z : SH} (h : agr code r b t) : (wrL code f (r, z)).1 = 0 → (wrL code f (r, z)).2.2 0 = b := by
  cases r with
  | inl E => exact fun e => absurd e h.2
  | inr v =>
    intro _
    show vp_updL f 0 v 0 = b
    rw [h.2]
    simp [vp_updL]
theorem vaD_mk {A : Nat → Prop} {a b : va_W} (h1 : va_D A a) (h2 : va_D A b) (h3 : ∀ (i j : Nat) (p q : Nat × va_E), a[i]? = some p → b[j]? = some q → p.1 ≠ q.1) : va_D A (a ++ b) := by
  refine ⟨fun i j p q hi hj e => ?_, fun k q hk => ?_⟩
  · by_cases ci : i < a.length
    · rw [List.getElem?_append_left ci] at hi
      by_cases cj : j < a.length
      · rw [List.getElem?_append_left cj] at hj
        exact h1.1 i j p q hi hj e
      · rw [List.getElem?_append_right (by omega)] at hj
        exact absurd e (h3 _ _ p q hi hj)
    · rw [List.getElem?_append_right (by omega)] at hi
      by_cases cj : j < a.length
      · rw [List.getElem?_append_left cj] at hj
        exact absurd e.symm (h3 _ _ q p hj hi)
      · rw [List.getElem?_append_right (by omega)] at hj
        have := h2.1 _ _ p q hi hj e
        omega
  · by_cases ck : k < a.length
    · rw [List.getElem?_append_left ck] at hk
      exact h1.2 k q hk
    · rw [List.getElem?_append_right (by omega)] at hk
      exact h2.2 _ q hk
section LawRows
variable {p : Program} {l : Launch} {e : Env} {s : State} {m : MethodId} {below : List Frame} {meth : Method} {c : Code} {H : Heap} {locs : List Loc} {cells slots : Nat} {Q : State → Prop} {b L : Nat} {xs : Nat → Int32} {D : va_G} {cI cJ cZ : ClassId} {ad am sx : Nat → Nat} {ao : Nat} {z t : SH} {f : Nat → Int64} {pc : Nat} {ls : Array Slot} {rest : List Value} {i : Int32} {k : Nat}
theorem ld_c {j : Nat} {jj : Int} (F : LF p s m c b L xs D cI cJ cZ ad am sx ao) (hS : va_S (lwA s) s.heap H locs) (h0 : ls[0]? = some (.val (.ref b))) (h4 : ls[4]? = some (.val (.int (nI (8 * k))))) (hj : 8 * k + j < L) (hjj : Int32.ofInt jj = nI j) (d1 : decode cL_law pc = .ok (.aload_n 0, 1)) (d2 : decode cL_law (pc + 1) = .ok (.iload 4, 2)) (d3 : decode cL_law (pc + 3) = .ok (.iconst jj, 1)) (d4 : decode cL_law (pc + 4) = .ok (.iadd, 1)) (d5 : decode cL_law (pc + 5) = .ok (.iaload, 1))
    (kk : W p l e room_1 s m #[Value.ref b] below meth c H locs cells slots Q (F0 m (pc + 6) ls (.int (xs (8 * k + j)) :: rest))) : W p l e room_1 s m #[Value.ref b] below meth c H locs cells slots Q (F0 m pc ls rest) := by
  obtain ⟨C, K, hD, hX, hxs, hbl, hL⟩ := F
  refine lv_aload_n C.1 C.2.1 d1 rfl h0 ?_
  refine lv_iload C.1 C.2.1 d2 h4 ?_
  refine lv_iconst (v := nI j) C.1 C.2.1 d3 hjj ?_
  refine lv_iadd C.1 C.2.1 d4 ?_
  rw [nI_add]
  refine va_sld C.1 C.2.1 hxs hbl (fun h => absurd hbl (Nat.not_lt.mpr h)) hS (inb_in (inb_n hj (by omega))) d5 ?_
  rw [nI_clamp (by omega)]
  exact kk
theorem ld_b {j : Nat} {jj : Int} (F : LF p s m c b L xs D cI cJ cZ ad am sx ao) (hS : va_S (lwA s) s.heap H locs) (h0 : ls[0]? = some (.val (.ref b))) (h4 : ls[4]? = some (.val (.int (nI (8 * k))))) (hj : 8 * k + j < L) (hjj : (Int8.ofInt jj).toInt32 = nI j) (d1 : decode cL_law pc = .ok (.aload_n 0, 1)) (d2 : decode cL_law (pc + 1) = .ok (.iload 4, 2)) (d3 : decode cL_law (pc + 3) = .ok (.bipush jj, 2)) (d4 : decode cL_law (pc + 5) = .ok (.iadd, 1)) (d5 : decode cL_law (pc + 6) = .ok (.iaload, 1))
    (kk : W p l e room_1 s m #[Value.ref b] below meth c H locs cells slots Q (F0 m (pc + 7) ls (.int (xs (8 * k + j)) :: rest))) : W p l e room_1 s m #[Value.ref b] below meth c H locs cells slots Q (F0 m pc ls rest) := by
  obtain ⟨C, K, hD, hX, hxs, hbl, hL⟩ := F
  refine lv_aload_n C.1 C.2.1 d1 rfl h0 ?_
  refine lv_iload C.1 C.2.1 d2 h4 ?_
  refine lv_bipush (v := nI j) C.1 C.2.1 d3 hjj ?_
  refine lv_iadd C.1 C.2.1 d4 ?_
  rw [nI_add]
  refine va_sld C.1 C.2.1 hxs hbl (fun h => absurd hbl (Nat.not_lt.mpr h)) hS (inb_in (inb_n hj (by omega))) d5 ?_
  rw [nI_clamp (by omega)]
  exact kk
variable {y : MethodName} {ws : List Cond} {rm : Room} {bytes : ByteArray} {maxL n index : Nat} {As : List Value}
/-- a wrapper is called -/
theorem L1_w {hh : List (Nat × Nat × Nat × Nat)} {r : Int32 × (SH × (Nat → Int64))} (F : LF p s m c b L xs D cI cJ cZ ad am sx ao) (w : LW s D cI cJ cZ ad am ao z t f H locs)
    (hM : ∀ sz, Met l y ws rm (cPX (thY sx) D vwCl (tyl cI cJ cZ) (wW cI cJ cZ ad ao (z, f)) sz As) (va_Qi (fun v u => (v, u) = r) (fun u t => va_P D vwCl (wW cI cJ cZ ad ao u) t.heap) (va_A (wW cI cJ cZ ad ao (z, f)) sz)) 1 6 (va_A (wW cI cJ cZ ad ao (z, f)) sz))
    (cw : vx_CSW room_1 s #[Value.ref b] RL index y bytes maxL (some .int) hh ws rm 1 6 n) (hn : As.length = n) (hl : lv_has ls 8 (lvL b (ad 0) (am 0) ao i)) (hc : cells + 1 ≤ 219 ∧ slots + 6 ≤ 37397) (hst : rest = As.reverse ++ []) (hd1 : decode cL_law pc = .ok (.invokestatic index, 3)) (hd2 : decode cL_law (pc + 3) = .ok (.istore 5, 2))
    (kk : ∀ (H1 : Heap) (locs1 : List Loc) (ls1 : Array Slot), LW s D cI cJ cZ ad am ao r.2.1 t r.2.2 H1 locs1 → lv_has ls1 8 ((5, .int r.1) :: lvL b (ad 0) (am 0) ao i) → W p l e room_1 s m #[Value.ref b] below meth c H1 locs1 (cells + 1) (slots + 6) Q (F0 m (pc + 5) ls1 [])) : W p l e room_1 s m #[Value.ref b] below meth c H locs cells slots Q (F0 m pc ls rest) := by
  obtain ⟨C, K, hD, hX, hxs, hbl, hL⟩ := F
  obtain ⟨hPH, hPM, hPO, hS⟩ := w
  obtain ⟨d1, d2, x1⟩ := vaD_app (hD z t f)
  obtain ⟨d3, d4, x2⟩ := vaD_app d2
  have hDW : va_D (lwA s) (wW cI cJ cZ ad ao (z, f)) := vaD_mk d1 d4 (fun i j p q hi hj => x1 i ((wM cI cJ cZ am t).length + j) p q hi (by rw [app_r]; exact hj))
  have hsub : ∀ q, va_A (wW cI cJ cZ ad ao (z, f)) H.size q → lwA s q := vaA_sub hDW.2 (fun q h => h) hS.1
  have hdis : ∀ (i j : Nat) (p q : Nat × va_E), (wW cI cJ cZ ad ao (z, f))[i]? = some p → (wM cI cJ cZ am t)[j]? = some q → p.1 ≠ q.1 := by
    intro i j p q hi hj
    by_cases ci : i < (wH cI cJ cZ ad z).length
    · rw [List.getElem?_append_left ci] at hi
      exact x1 i j p q hi (app_l hj)
    · rw [List.getElem?_append_right (Nat.not_lt.mp ci)] at hi
      exact fun e => x2 j _ q p hj hi e.symm
  refine va_calli (vx_runSW (As := As) (rest := []) C (hM H.size) cw ⟨cPY_blind, fun U hU hW => ⟨rfl, by rw [hU], by rw [hU]; exact vaP_app.mpr ⟨hPH, hPO⟩, va_K.moved hW.alike K, hDW.weaken (fun _ _ _ _ => trivial), hX.1.to hS hsub hU hW, fun q hq => va_Nc.moved hW.alike (hX.2 q hq)⟩⟩ rfl hn hl.1 hst (lv_room (Nat.le_of_ble_eq_true rfl)) hd1 hc) hS (fun q _ h => hsub q h) hsub (fun r1 u t1 H1 locs1 ht1 hvm hw hB hz1 hk1 hS1 => ?_)
  subst hw
  rw [ht1] at hB
  refine lv_istore C.1 C.2.1 hd2 hl (by decide) rfl (fun ls1 hl1 => ?_)
  exact kk H1 locs1 ls1 ⟨(vaP_app.mp hB).1, keep_app hPM hdis hk1, (vaP_app.mp hB).2, hS1⟩ hl1
theorem L1_v {hh : List (Nat × Nat × Nat × Nat)} {r : Int32 × SH} (F : LF p s m c b L xs D cI cJ cZ ad am sx ao) (w : LW s D cI cJ cZ ad am ao z t f H locs)
    (hM : ∀ sz, Met l y ws rm (cPX (thY sx) D vwCl (tyl cI cJ cZ) (wH cI cJ cZ ad z) sz As) (va_Qi (fun v u => (v, u) = r) (fun u t => va_P D vwCl (wH cI cJ cZ ad u) t.heap) (va_A (wH cI cJ cZ ad z) sz)) 1 6 (va_A (wH cI cJ cZ ad z) sz))
    (cw : vx_CSW room_1 s #[Value.ref b] RL index y bytes maxL (some .int) hh ws rm 1 6 n) (hn : As.length = n) (hl : lv_has ls 8 (lvL b (ad 0) (am 0) ao i)) (hc : cells + 1 ≤ 219 ∧ slots + 6 ≤ 37397) (hst : rest = As.reverse ++ []) (hd1 : decode cL_law pc = .ok (.invokestatic index, 3)) (hd2 : decode cL_law (pc + 3) = .ok (.istore 5, 2))
    (kk : ∀ (H1 : Heap) (locs1 : List Loc) (ls1 : Array Slot), LW s D cI cJ cZ ad am ao r.2 t f H1 locs1 → lv_has ls1 8 ((5, .int r.1) :: lvL b (ad 0) (am 0) ao i) → W p l e room_1 s m #[Value.ref b] below meth c H1 locs1 (cells + 1) (slots + 6) Q (F0 m (pc + 5) ls1 [])) : W p l e room_1 s m #[Value.ref b] below meth c H locs cells slots Q (F0 m pc ls rest) := by
  obtain ⟨C, K, hD, hX, hxs, hbl, hL⟩ := F
  obtain ⟨hPH, hPM, hPO, hS⟩ := w
  obtain ⟨d1, d2, x1⟩ := vaD_app (hD z t f)
  have hsub : ∀ q, va_A (wH cI cJ cZ ad z) H.size q → lwA s q := vaA_sub d1.2 (fun q h => h) hS.1
  refine va_calli (vx_runSW (As := As) (rest := []) C (hM H.size) cw ⟨cPY_blind, fun U hU hW => ⟨rfl, by rw [hU], by rw [hU]; exact hPH, va_K.moved hW.alike K, d1.weaken (fun _ _ _ _ => trivial), hX.1.to hS hsub hU hW, fun q hq => va_Nc.moved hW.alike (hX.2 q hq)⟩⟩ rfl hn hl.1 hst (lv_room (Nat.le_of_ble_eq_true rfl)) hd1 hc) hS (fun q _ h => hsub q h) hsub (fun r1 u t1 H1 locs1 ht1 hvm hw hB hz1 hk1 hS1 => ?_)
  subst hw
  rw [ht1] at hB
  have hPX := keep_app (vaP_app.mpr ⟨hPM, hPO⟩) x1 hk1
  refine lv_istore C.1 C.2.1 hd2 hl (by decide) rfl (fun ls1 hl1 => ?_)
  exact kk H1 locs1 ls1 ⟨hB, (vaP_app.mp hPX).1, (vaP_app.mp hPX).2, hS1⟩ hl1
/-- the reference is called -/
theorem L2_pre (F : LF p s m c b L xs D cI cJ cZ ad am sx ao) (w : LW s D cI cJ cZ ad am ao z t f H locs) : (∀ q, va_A (wM cI cJ cZ am t) H.size q → lwA s q) ∧ (∃ cell : Cell, H[am 0]? = some cell ∧ cell.vm.isStatics = false ∧ s.vm.findClass RX5 = some cell.cls) ∧ (∀ (av : List Value) (U : State), U.heap = H → s.WarmedH U.vm → cP D vwCl (tyl cI cJ cZ) (wM cI cJ cZ am t) H.size av av.toArray U) ∧
    ∀ (t1 : SH) (H1 : Heap) (locs1 : List Loc), va_P D vwCl (wM cI cJ cZ am t1) H1 → (∀ q : Nat, q < H.size → ¬ va_A (wM cI cJ cZ am t) H.size q → H1[q]? = H[q]?) → va_S (lwA s) s.heap H1 locs1 → LW s D cI cJ cZ ad am ao z t1 f H1 locs1 := by
  obtain ⟨C, K, hD, hX, hxs, hbl, hL⟩ := F
  obtain ⟨hPH, hPM, hPO, hS⟩ := w
  obtain ⟨d1, d2, x1⟩ := vaD_app (hD z t f)
  obtain ⟨d3, d4, x2⟩ := vaD_app d2
  refine ⟨vaA_sub d3.2 (fun q h => h) hS.1, va_recv K hPM (ci := 5) (q0 := 0) rfl (wM_0 cI cJ cZ am t), fun av U hU hW => ⟨rfl, by rw [hU], by rw [hU]; exact hPM, va_K.moved hW.alike K, d3.weaken (fun _ _ _ _ => trivial)⟩, fun t1 H1 locs1 h1 hk h2 => ⟨keep_app hPH (fun i j p q hi hj e => x1 j i q p hj (app_l hi) e.symm) hk, h1, keep_app hPO x2 hk, h2⟩⟩
variable {ret : Option FieldType}
theorem L2_i {callee : Option (Int32 × SH)} {q : Int32 × SH} (F : LF p s m c b L xs D cI cJ cZ ad am sx ao) (w : LW s D cI cJ cZ ad am ao z t f H locs) (hq : callee = some q) (hM : ∀ (q : Int32 × SH) (sz : Nat), callee = some q → Met l y ws rm (cP D vwCl (tyl cI cJ cZ) (wM cI cJ cZ am t) sz (.ref (am 0) :: As)) (cQi D vwCl (wM cI cJ cZ am) t sz q) 0 0 (va_A (wM cI cJ cZ am t) sz))
    (cw : CallW room_1 s #[Value.ref b] RL RX5 index y bytes maxL ret ws rm 0 0 n) (hn : As.length = n) (hsize : ls.size = 8) (hc : cells ≤ 219 ∧ slots ≤ 37397) {st0 : List Value} (hst : st0 = As.reverse ++ .ref (am 0) :: rest) (hr : (rest.map fun v => v.category).sum ≤ 8) (hd : decode cL_law pc = .ok (.invokevirtual index, 3))
    (kk : ∀ (H1 : Heap) (locs1 : List Loc), LW s D cI cJ cZ ad am ao z q.2 f H1 locs1 → W p l e room_1 s m #[Value.ref b] below meth c H1 locs1 cells slots Q (F0 m (pc + 3) ls (.int q.1 :: rest))) : W p l e room_1 s m #[Value.ref b] below meth c H locs cells slots Q (F0 m pc ls st0) := by
  obtain ⟨hsub, hrecv, hpre, hL⟩ := L2_pre F w
  refine va_calli (va_runV (As := As) (rest := rest) F.1 (hM q H.size hq) cw ⟨cP_blind, hrecv, hpre (.ref (am 0) :: As)⟩ rfl hn hsize hst (lv_room hr) hd hc) w.2.2.2 (fun q _ h => hsub q h) hsub (fun r1 u t1 H1 locs1 ht1 hvm hw hB hz1 hk1 hS1 => ?_)
  subst hw
  rw [ht1] at hB
  exact kk H1 locs1 (hL _ H1 locs1 hB hk1 hS1)
theorem L2_l {callee : Option (Int64 × SH)} {q : Int64 × SH} (F : LF p s m c b L xs D cI cJ cZ ad am sx ao) (w : LW s D cI cJ cZ ad am ao z t f H locs) (hq : callee = some q) (hM : ∀ (q : Int64 × SH) (sz : Nat), callee = some q → Met l y ws rm (cP D vwCl (tyl cI cJ cZ) (wM cI cJ cZ am t) sz (.ref (am 0) :: As)) (cQl D vwCl (wM cI cJ cZ am) t sz q) 0 0 (va_A (wM cI cJ cZ am t) sz))
    (cw : CallW room_1 s #[Value.ref b] RL RX5 index y bytes maxL ret ws rm 0 0 n) (hn : As.length = n) (hsize : ls.size = 8) (hc : cells ≤ 219 ∧ slots ≤ 37397) {st0 : List Value} (hst : st0 = As.reverse ++ .ref (am 0) :: rest) (hr : (rest.map fun v => v.category).sum ≤ 8) (hd : decode cL_law pc = .ok (.invokevirtual index, 3))
    (kk : ∀ (H1 : Heap) (locs1 : List Loc), LW s D cI cJ cZ ad am ao z q.2 f H1 locs1 → W p l e room_1 s m #[Value.ref b] below meth c H1 locs1 cells slots Q (F0 m (pc + 3) ls (.long q.1 :: rest))) : W p l e room_1 s m #[Value.ref b] below meth c H locs cells slots Q (F0 m pc ls st0) := by
  obtain ⟨hsub, hrecv, hpre, hL⟩ := L2_pre F w
  refine va_calll (va_runV (As := As) (rest := rest) F.1 (hM q H.size hq) cw ⟨cP_blind, hrecv, hpre (.ref (am 0) :: As)⟩ rfl hn hsize hst (lv_room hr) hd hc) w.2.2.2 (fun q _ h => hsub q h) hsub (fun r1 u t1 H1 locs1 ht1 hvm hw hB hz1 hk1 hS1 => ?_)
  subst hw
  rw [ht1] at hB
  exact kk H1 locs1 (hL _ H1 locs1 hB hk1 hS1)
theorem L2_v {callee : Option (Unit × SH)} {q : Unit × SH} (F : LF p s m c b L xs D cI cJ cZ ad am sx ao) (w : LW s D cI cJ cZ ad am ao z t f H locs) (hq : callee = some q) (hM : ∀ (q : Unit × SH) (sz : Nat), callee = some q → Met l y ws rm (cP D vwCl (tyl cI cJ cZ) (wM cI cJ cZ am t) sz (.ref (am 0) :: As)) (cQv D vwCl (wM cI cJ cZ am) t sz q) 0 0 (va_A (wM cI cJ cZ am t) sz))
    (cw : CallW room_1 s #[Value.ref b] RL RX5 index y bytes maxL ret ws rm 0 0 n) (hn : As.length = n) (hsize : ls.size = 8) (hc : cells ≤ 219 ∧ slots ≤ 37397) {st0 : List Value} (hst : st0 = As.reverse ++ .ref (am 0) :: rest) (hr : (rest.map fun v => v.category).sum ≤ 8) (hd : decode cL_law pc = .ok (.invokevirtual index, 3))
    (kk : ∀ (H1 : Heap) (locs1 : List Loc), LW s D cI cJ cZ ad am ao z q.2 f H1 locs1 → W p l e room_1 s m #[Value.ref b] below meth c H1 locs1 cells slots Q (F0 m (pc + 3) ls rest)) : W p l e room_1 s m #[Value.ref b] below meth c H locs cells slots Q (F0 m pc ls st0) := by
  obtain ⟨hsub, hrecv, hpre, hL⟩ := L2_pre F w
  refine va_callv (va_runV (As := As) (rest := rest) F.1 (hM q H.size hq) cw ⟨cP_blind, hrecv, hpre (.ref (am 0) :: As)⟩ rfl hn hsize hst (lv_room hr) hd hc) w.2.2.2 (fun q _ h => hsub q h) hsub (fun u t1 H1 locs1 ht1 hvm hw hB hz1 hk1 hS1 => ?_)
  cases hw
  rw [ht1] at hB
  exact kk H1 locs1 (hL _ H1 locs1 hB hk1 hS1)
theorem cmp_0 {x y : Int64} (h : x = y) : lg_cmp x y = 0 := by
  subst h
  unfold lg_cmp
  rw [if_neg (fun h => Int64.lt_irrefl h), if_pos rfl]
/-- the number of the throw is compared -/
theorem L3_t {kv : Int32} {lv : List (Nat × Value)} (F : LF p s m c b L xs D cI cJ cZ ad am sx ao) (w : LW s D cI cJ cZ ad am ao z t f H locs) (hl : lv_has ls 8 lv) (h2 : ls[2]? = some (.val (.ref (am 0)))) (h5 : ls[5]? = some (.val (.int kv))) (hthr : gi t 0 = kv) (hc : cells ≤ 219 ∧ slots ≤ 37397) {o1 : Int}
    (d1 : decode cL_law pc = .ok (.aload_n 2, 1)) (d2 : decode cL_law (pc + 1) = .ok (.invokevirtual 91, 3)) (d3 : decode cL_law (pc + 4) = .ok (.iload 5, 2)) (d4 : decode cL_law (pc + 6) = .ok (.if_icmp .eq o1, 3)) (ht : ((pc + 6 : Nat) : Int) + o1 = ((pc + 11 : Nat) : Int))
    (kk : ∀ (H1 : Heap) (locs1 : List Loc), LW s D cI cJ cZ ad am ao z t f H1 locs1 → W p l e room_1 s m #[Value.ref b] below meth c H1 locs1 cells slots Q (F0 m (pc + 11) ls [])) : W p l e room_1 s m #[Value.ref b] below meth c H locs cells slots Q (F0 m pc ls []) := by
  refine lv_aload_n F.1.1 F.1.2.1 d1 rfl h2 ?_
  refine L2_i (As := []) (rest := []) (callee := fX5_thrown t) (q := (gi t 0, t)) F w rfl (mX5_thrown l D cI cJ cZ am t) (cwV 0 F.1.2.2.2.2 gT_X5_thrown rfl rfl rfl (by decide +kernel) ⟨Nat.le_of_ble_eq_true rfl, Nat.le_of_ble_eq_true rfl⟩) rfl hl.1 hc rfl (Nat.le_of_ble_eq_true rfl) d2 (fun H1 locs1 w1 => ?_)
  refine lv_iload F.1.1 F.1.2.1 d3 h5 ?_
  refine lv_icmp_eq (tgt := pc + 11) F.1.1 F.1.2.1 d4 ht (fun _ => kk H1 locs1 w1) (fun hne => absurd hthr hne)
theorem L3_i {kv bb : Int32} (F : LF p s m c b L xs D cI cJ cZ ad am sx ao) (w : LW s D cI cJ cZ ad am ao z t f H locs) (hl : lv_has ls 8 ((5, .int kv) :: lvL b (ad 0) (am 0) ao i)) (hthr : gi t 0 = kv) (hval : kv = 0 → f 0 = bb.toInt64) (hc : cells ≤ 219 ∧ slots ≤ 37397) {o1 o2 o3 o4 : Int}
    (d0 : decode cL_law pc = .ok (.istore 6, 2)) (d1 : decode cL_law (pc + 2) = .ok (.aload_n 2, 1)) (d2 : decode cL_law (pc + 3) = .ok (.invokevirtual 91, 3)) (d3 : decode cL_law (pc + 6) = .ok (.iload 5, 2)) (d4 : decode cL_law (pc + 8) = .ok (.if_icmp .eq o1, 3)) (e1 : ((pc + 8 : Nat) : Int) + o1 = ((pc + 13 : Nat) : Int))
    (d5 : decode cL_law (pc + 13) = .ok (.iload 5, 2)) (d6 : decode cL_law (pc + 15) = .ok (.ifCond .ne o2, 3)) (e2 : ((pc + 15 : Nat) : Int) + o2 = ((pc + 30 : Nat) : Int)) (d7 : decode cL_law (pc + 18) = .ok (.aload_n 3, 1)) (d8 : decode cL_law (pc + 19) = .ok (.iconst 0, 1)) (d9 : decode cL_law (pc + 20) = .ok (.laload, 1)) (d10 : decode cL_law (pc + 21) = .ok (.iload 6, 2)) (d11 : decode cL_law (pc + 23) = .ok (.i2l, 1)) (d12 : decode cL_law (pc + 24) = .ok (.lcmp, 1)) (d13 : decode cL_law (pc + 25) = .ok (.ifCond .eq o3, 3)) (e3 : ((pc + 25 : Nat) : Int) + o3 = ((pc + 30 : Nat) : Int)) (d14 : decode cL_law (pc + 30) = .ok (.goto o4, 3)) (e4 : ((pc + 30 : Nat) : Int) + o4 = 1513)
    (kk : ∀ (H1 : Heap) (locs1 : List Loc) (ls1 : Array Slot), LW s D cI cJ cZ ad am ao z t f H1 locs1 → lv_has ls1 8 (lvL b (ad 0) (am 0) ao i) → W p l e room_1 s m #[Value.ref b] below meth c H1 locs1 cells slots Q (F0 m 1513 ls1 [])) : W p l e room_1 s m #[Value.ref b] below meth c H locs cells slots Q (F0 m pc ls [.int bb]) := by
  have hx := F.1.1
  have hb := F.1.2.1
  refine lv_istore (lv' := (6, .int bb) :: (5, .int kv) :: lvL b (ad 0) (am 0) ao i) hx hb d0 hl (by decide) rfl (fun ls hl => ?_)
  refine L3_t F w hl (lv_at hl 5 rfl) (lv_at hl 1 rfl) hthr hc d1 d2 d3 d4 e1 (fun H1 locs1 w1 => ?_)
  have fin : W p l e room_1 s m #[Value.ref b] below meth c H1 locs1 cells slots Q (F0 m (pc + 30) ls []) := lv_goto hx hb d14 e4 (kk H1 locs1 ls w1 (lv_sub hl [2, 3, 4, 5, 6] rfl))
  refine lv_iload hx hb d5 (lv_at hl 1 rfl) ?_
  refine lv_if_ne (tgt := pc + 30) hx hb d6 e2 (fun _ => fin) (fun h0 => ?_)
  refine lv_aload_n hx hb d7 rfl (lv_at hl 6 rfl) ?_
  refine lv_iconst (v := 0) hx hb d8 (by decide) ?_
  refine va_lald hx hb F.2.1 w1.2.2.1 0 1 (show [outE cJ ao f][0]? = some (outE cJ ao f) from rfl) rfl (inb_in (by decide)) d9 ?_
  refine lv_iload hx hb d10 (lv_at hl 0 rfl) ?_
  refine lv_i2l hx hb d11 rfl ?_
  refine W.lcmp hx hb d12 ?_
  refine lv_if_eq (tgt := pc + 30) hx hb d13 e3 (fun _ => fin) (fun hne => absurd (cmp_0 (hval h0)) hne)
theorem L3_l {kv : Int32} {bb : Int64} (F : LF p s m c b L xs D cI cJ cZ ad am sx ao) (w : LW s D cI cJ cZ ad am ao z t f H locs) (hl : lv_has ls 8 ((5, .int kv) :: lvL b (ad 0) (am 0) ao i)) (hthr : gi t 0 = kv) (hval : kv = 0 → f 0 = bb) (hc : cells ≤ 219 ∧ slots ≤ 37397) {o1 o2 o3 o4 : Int}
    (d0 : decode cL_law pc = .ok (.lstore 6, 2)) (d1 : decode cL_law (pc + 2) = .ok (.aload_n 2, 1)) (d2 : decode cL_law (pc + 3) = .ok (.invokevirtual 91, 3)) (d3 : decode cL_law (pc + 6) = .ok (.iload 5, 2)) (d4 : decode cL_law (pc + 8) = .ok (.if_icmp .eq o1, 3)) (e1 : ((pc + 8 : Nat) : Int) + o1 = ((pc + 13 : Nat) : Int))
    (d5 : decode cL_law (pc + 13) = .ok (.iload 5, 2)) (d6 : decode cL_law (pc + 15) = .ok (.ifCond .ne o2, 3)) (e2 : ((pc + 15 : Nat) : Int) + o2 = ((pc + 29 : Nat) : Int)) (d7 : decode cL_law (pc + 18) = .ok (.aload_n 3, 1)) (d8 : decode cL_law (pc + 19) = .ok (.iconst 0, 1)) (d9 : decode cL_law (pc + 20) = .ok (.laload, 1)) (d10 : decode cL_law (pc + 21) = .ok (.lload 6, 2)) (d12 : decode cL_law (pc + 23) = .ok (.lcmp, 1)) (d13 : decode cL_law (pc + 24) = .ok (.ifCond .eq o3, 3)) (e3 : ((pc + 24 : Nat) : Int) + o3 = ((pc + 29 : Nat) : Int)) (d14 : decode cL_law (pc + 29) = .ok (.goto o4, 3)) (e4 : ((pc + 29 : Nat) : Int) + o4 = 1513)
    (kk : ∀ (H1 : Heap) (locs1 : List Loc) (ls1 : Array Slot), LW s D cI cJ cZ ad am ao z t f H1 locs1 → lv_has ls1 8 (lvL b (ad 0) (am 0) ao i) → W p l e room_1 s m #[Value.ref b] below meth c H1 locs1 cells slots Q (F0 m 1513 ls1 [])) : W p l e room_1 s m #[Value.ref b] below meth c H locs cells slots Q (F0 m pc ls [.long bb]) := by
  have hx := F.1.1
  have hb := F.1.2.1
  refine lv_lstore (lv' := (6, .long bb) :: (5, .int kv) :: lvL b (ad 0) (am 0) ao i) hx hb d0 hl (by decide) rfl (fun ls hl => ?_)
  refine L3_t F w hl (lv_at hl 5 rfl) (lv_at hl 1 rfl) hthr hc d1 d2 d3 d4 e1 (fun H1 locs1 w1 => ?_)
  have fin : W p l e room_1 s m #[Value.ref b] below meth c H1 locs1 cells slots Q (F0 m (pc + 29) ls []) := lv_goto hx hb d14 e4 (kk H1 locs1 ls w1 (lv_sub hl [2, 3, 4, 5, 6] rfl))
  refine lv_iload hx hb d5 (lv_at hl 1 rfl) ?_
  refine lv_if_ne (tgt := pc + 29) hx hb d6 e2 (fun _ => fin) (fun h0 => ?_)
  refine lv_aload_n hx hb d7 rfl (lv_at hl 6 rfl) ?_
  refine lv_iconst (v := 0) hx hb d8 (by decide) ?_
  refine va_lald hx hb F.2.1 w1.2.2.1 0 1 (show [outE cJ ao f][0]? = some (outE cJ ao f) from rfl) rfl (inb_in (by decide)) d9 ?_
  refine lv_lload hx hb d10 (lv_at hl 0 rfl) ?_
  refine W.lcmp hx hb d12 ?_
  refine lv_if_eq (tgt := pc + 29) hx hb d13 e3 (fun _ => fin) (fun hne => absurd (cmp_0 (hval h0)) hne)
theorem L3_v {kv : Int32} (F : LF p s m c b L xs D cI cJ cZ ad am sx ao) (w : LW s D cI cJ cZ ad am ao z t f H locs) (hl : lv_has ls 8 ((5, .int kv) :: lvL b (ad 0) (am 0) ao i)) (hthr : gi t 0 = kv) (hc : cells ≤ 219 ∧ slots ≤ 37397) {o1 o4 : Int}
    (d1 : decode cL_law pc = .ok (.aload_n 2, 1)) (d2 : decode cL_law (pc + 1) = .ok (.invokevirtual 91, 3)) (d3 : decode cL_law (pc + 4) = .ok (.iload 5, 2)) (d4 : decode cL_law (pc + 6) = .ok (.if_icmp .eq o1, 3)) (e1 : ((pc + 6 : Nat) : Int) + o1 = ((pc + 11 : Nat) : Int)) (d14 : decode cL_law (pc + 11) = .ok (.goto o4, 3)) (e4 : ((pc + 11 : Nat) : Int) + o4 = 1513)
    (kk : ∀ (H1 : Heap) (locs1 : List Loc) (ls1 : Array Slot), LW s D cI cJ cZ ad am ao z t f H1 locs1 → lv_has ls1 8 (lvL b (ad 0) (am 0) ao i) → W p l e room_1 s m #[Value.ref b] below meth c H1 locs1 cells slots Q (F0 m 1513 ls1 [])) : W p l e room_1 s m #[Value.ref b] below meth c H locs cells slots Q (F0 m pc ls []) := by
  refine L3_t F w hl (lv_at hl 4 rfl) (lv_at hl 0 rfl) hthr hc d1 d2 d3 d4 e1 (fun H1 locs1 w1 => ?_)
  exact lv_goto F.1.1 F.1.2.1 d14 e4 (kk H1 locs1 ls w1 (lv_sub hl [1, 2, 3, 4, 5] rfl))
end LawRows
