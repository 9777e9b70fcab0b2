set_option maxRecDepth 100000 in
set_option maxHeartbeats 4000000 in
theorem case_reduce {p : Program} {l : Launch} {e : Env} {s : State} {m : MethodId} {below : List Frame} {meth : Method} {c : Code} {H : Heap} {locs : List Loc} {cells slots : Nat} {Q9 : State → Prop} {b L : Nat} {xs : Nat → Int32} {D : va_G} {cI cJ cZ : ClassId} {ad am sx : Nat → Nat} {ao : Nat} {z t : SH} {f : Nat → Int64} {ls : Array Slot} {k : Nat} {q : Nat → Nat → Nat} {Q : Nat → List Nat} {n nt B o : Nat} (hl0 : l.stackTraces = false) (F : LF p s m c b L xs D cI cJ cZ ad am sx ao) (w : LW s D cI cJ cZ ad am ao z t f H locs) (R : Rel z t q Q n nt B o) (ho : n ≤ o) (hn : n ≤ k) (hB : B ≤ 1000000 * k) (hk : 8 * k + 8 ≤ L) (hl : lv_has ls 8 (lvL b (ad 0) (am 0) ao (nI (8 * k)))) (hc : cells + 1 ≤ 219 ∧ slots + 6 ≤ 37397)
    (kk : ∀ (z1 t1 : SH) (f1 : Nat → Int64) (H1 : Heap) (locs1 : List Loc) (ls1 : Array Slot) (q1 : Nat → Nat → Nat) (Q1 : Nat → List Nat) (n1 nt1 B1 o1 : Nat), LW s D cI cJ cZ ad am ao z1 t1 f1 H1 locs1 → Rel z1 t1 q1 Q1 n1 nt1 B1 o1 → n1 ≤ o1 → n1 ≤ k + 1 → B1 ≤ 1000000 * (k + 1) → lv_has ls1 8 (lvL b (ad 0) (am 0) ao (nI (8 * k))) → W p l e room_1 s m #[Value.ref b] below meth c H1 locs1 (cells + 1) (slots + 6) Q9 (F0 m 1513 ls1 [])) : W p l e room_1 s m #[Value.ref b] below meth c H locs cells slots Q9 (F0 m 546 ls []) := by
  have hL := F.2.2.2.2.2.2
  obtain ⟨r, z1, bb, t1, q1, e1, e2, e3, e4⟩ := op_reduce R ho (xs (8 * k + 1)) (xs (8 * k + 2)) (xs (8 * k + 3))
  have hx := F.1.1
  have hb := F.1.2.1
  refine lv_aload_n hx hb dL_law_546 rfl (lv_at hl 2 rfl) ?_
  refine ld_c (j := 1) (k := k) F w.2.2.2 (lv_at hl 1 rfl) (lv_at hl 0 rfl) (by omega) (by decide) dL_law_547 dL_law_548 dL_law_550 dL_law_551 dL_law_552 ?_
  refine ld_c (j := 2) (k := k) F w.2.2.2 (lv_at hl 1 rfl) (lv_at hl 0 rfl) (by omega) (by decide) dL_law_553 dL_law_554 dL_law_556 dL_law_557 dL_law_558 ?_
  refine ld_c (j := 3) (k := k) F w.2.2.2 (lv_at hl 1 rfl) (lv_at hl 0 rfl) (by omega) (by decide) dL_law_559 dL_law_560 dL_law_562 dL_law_563 dL_law_564 ?_
  refine lv_aload_n hx hb dL_law_565 rfl (lv_at hl 4 rfl) ?_
  refine L1_w (As := [.ref (ad 0), .int (xs (8 * k + 1)), .int (xs (8 * k + 2)), .int (xs (8 * k + 3)), .ref ao]) (hh := [(0, 12, 15, 13), (0, 12, 19, 15), (0, 12, 23, 17)]) (r := wrI c3 f (r, z1)) F w (fun sz => mL_reduce l hl0 D cI cJ cZ ad sx ao f (xs (8 * k + 1)) (xs (8 * k + 2)) (xs (8 * k + 3)) z (r, z1) sz e1 (agr_ne e3)) (vx_cwSW 5 F.1.2.2.2.2 gT_L_reduce rfl rfl rfl (by decide +kernel) ⟨Nat.le_of_ble_eq_true rfl, Nat.le_of_ble_eq_true rfl⟩) rfl hl hc rfl dL_law_566 dL_law_569 (fun H1 locs1 ls1 w hl => ?_)
  rw [wrI_z] at w
  refine lv_aload_n hx hb dL_law_571 rfl (lv_at hl 4 rfl) ?_
  refine ld_c (j := 1) (k := k) F w.2.2.2 (lv_at hl 2 rfl) (lv_at hl 1 rfl) (by omega) (by decide) dL_law_572 dL_law_573 dL_law_575 dL_law_576 dL_law_577 ?_
  refine ld_c (j := 2) (k := k) F w.2.2.2 (lv_at hl 2 rfl) (lv_at hl 1 rfl) (by omega) (by decide) dL_law_578 dL_law_579 dL_law_581 dL_law_582 dL_law_583 ?_
  refine ld_c (j := 3) (k := k) F w.2.2.2 (lv_at hl 2 rfl) (lv_at hl 1 rfl) (by omega) (by decide) dL_law_584 dL_law_585 dL_law_587 dL_law_588 dL_law_589 ?_
  refine L2_i (As := [.int (xs (8 * k + 1)), .int (xs (8 * k + 2)), .int (xs (8 * k + 3))]) (rest := []) (callee := fX5_reduce (xs (8 * k + 1)) (xs (8 * k + 2)) (xs (8 * k + 3)) t) (q := (bb, t1)) F w e2 (mX5_reduce l D cI cJ cZ am (xs (8 * k + 1)) (xs (8 * k + 2)) (xs (8 * k + 3)) t) (cwV 3 F.1.2.2.2.2 gT_X5_reduce rfl rfl rfl (by decide +kernel) ⟨Nat.le_of_ble_eq_true rfl, Nat.le_of_ble_eq_true rfl⟩) rfl hl.1 hc rfl (Nat.le_of_ble_eq_true rfl) dL_law_590 (fun H1 locs1 w => ?_)
  exact L3_i F w hl (agrI_thr e3) (agrI_val e3) hc dL_law_593 dL_law_595 dL_law_596 dL_law_599 dL_law_601 (by decide) dL_law_606 dL_law_608 (by decide) dL_law_611 dL_law_612 dL_law_613 dL_law_614 dL_law_616 dL_law_617 dL_law_618 (by decide) dL_law_623 (by decide) (fun H1 locs1 ls1 w hl => kk z1 t1 _ H1 locs1 ls1 q1 Q n nt B o w e4 ho (by omega) (by omega) hl)
set_option maxRecDepth 100000 in
set_option maxHeartbeats 4000000 in
theorem case_until {p : Program} {l : Launch} {e : Env} {s : State} {m : MethodId} {below : List Frame} {meth : Method} {c : Code} {H : Heap} {locs : List Loc} {cells slots : Nat} {Q9 : State → Prop} {b L : Nat} {xs : Nat → Int32} {D : va_G} {cI cJ cZ : ClassId} {ad am sx : Nat → Nat} {ao : Nat} {z t : SH} {f : Nat → Int64} {ls : Array Slot} {k : Nat} {q : Nat → Nat → Nat} {Q : Nat → List Nat} {n nt B o : Nat} (hl0 : l.stackTraces = false) (F : LF p s m c b L xs D cI cJ cZ ad am sx ao) (w : LW s D cI cJ cZ ad am ao z t f H locs) (R : Rel z t q Q n nt B o) (ho : n ≤ o) (hn : n ≤ k) (hB : B ≤ 1000000 * k) (hk : 8 * k + 8 ≤ L) (hl : lv_has ls 8 (lvL b (ad 0) (am 0) ao (nI (8 * k)))) (hc : cells + 1 ≤ 219 ∧ slots + 6 ≤ 37397)
    (kk : ∀ (z1 t1 : SH) (f1 : Nat → Int64) (H1 : Heap) (locs1 : List Loc) (ls1 : Array Slot) (q1 : Nat → Nat → Nat) (Q1 : Nat → List Nat) (n1 nt1 B1 o1 : Nat), LW s D cI cJ cZ ad am ao z1 t1 f1 H1 locs1 → Rel z1 t1 q1 Q1 n1 nt1 B1 o1 → n1 ≤ o1 → n1 ≤ k + 1 → B1 ≤ 1000000 * (k + 1) → lv_has ls1 8 (lvL b (ad 0) (am 0) ao (nI (8 * k))) → W p l e room_1 s m #[Value.ref b] below meth c H1 locs1 (cells + 1) (slots + 6) Q9 (F0 m 1513 ls1 [])) : W p l e room_1 s m #[Value.ref b] below meth c H locs cells slots Q9 (F0 m 626 ls []) := by
  have hL := F.2.2.2.2.2.2
  obtain ⟨r, z1, bb, t1, q1, e1, e2, e3, e4⟩ := op_until R ho (xs (8 * k + 1)) (xs (8 * k + 2)) (xs (8 * k + 3))
  have hx := F.1.1
  have hb := F.1.2.1
  refine lv_aload_n hx hb dL_law_626 rfl (lv_at hl 2 rfl) ?_
  refine ld_c (j := 1) (k := k) F w.2.2.2 (lv_at hl 1 rfl) (lv_at hl 0 rfl) (by omega) (by decide) dL_law_627 dL_law_628 dL_law_630 dL_law_631 dL_law_632 ?_
  refine ld_c (j := 2) (k := k) F w.2.2.2 (lv_at hl 1 rfl) (lv_at hl 0 rfl) (by omega) (by decide) dL_law_633 dL_law_634 dL_law_636 dL_law_637 dL_law_638 ?_
  refine ld_c (j := 3) (k := k) F w.2.2.2 (lv_at hl 1 rfl) (lv_at hl 0 rfl) (by omega) (by decide) dL_law_639 dL_law_640 dL_law_642 dL_law_643 dL_law_644 ?_
  refine L1_v (As := [.ref (ad 0), .int (xs (8 * k + 1)), .int (xs (8 * k + 2)), .int (xs (8 * k + 3))]) (hh := [(0, 7, 10, 13), (0, 7, 14, 15), (0, 7, 18, 17)]) (r := wrV c3 (r, z1)) F w (fun sz => mL_until l hl0 D cI cJ cZ ad sx (xs (8 * k + 1)) (xs (8 * k + 2)) (xs (8 * k + 3)) z (r, z1) sz e1 (agr_ne e3)) (vx_cwSW 4 F.1.2.2.2.2 gT_L_until rfl rfl rfl (by decide +kernel) ⟨Nat.le_of_ble_eq_true rfl, Nat.le_of_ble_eq_true rfl⟩) rfl hl hc rfl dL_law_645 dL_law_648 (fun H1 locs1 ls1 w hl => ?_)
  rw [wrV_z] at w
  refine lv_aload_n hx hb dL_law_650 rfl (lv_at hl 4 rfl) ?_
  refine ld_c (j := 1) (k := k) F w.2.2.2 (lv_at hl 2 rfl) (lv_at hl 1 rfl) (by omega) (by decide) dL_law_651 dL_law_652 dL_law_654 dL_law_655 dL_law_656 ?_
  refine ld_c (j := 2) (k := k) F w.2.2.2 (lv_at hl 2 rfl) (lv_at hl 1 rfl) (by omega) (by decide) dL_law_657 dL_law_658 dL_law_660 dL_law_661 dL_law_662 ?_
  refine ld_c (j := 3) (k := k) F w.2.2.2 (lv_at hl 2 rfl) (lv_at hl 1 rfl) (by omega) (by decide) dL_law_663 dL_law_664 dL_law_666 dL_law_667 dL_law_668 ?_
  refine L2_v (As := [.int (xs (8 * k + 1)), .int (xs (8 * k + 2)), .int (xs (8 * k + 3))]) (rest := []) (callee := fX5_until (xs (8 * k + 1)) (xs (8 * k + 2)) (xs (8 * k + 3)) t) (q := (bb, t1)) F w e2 (mX5_until l D cI cJ cZ am (xs (8 * k + 1)) (xs (8 * k + 2)) (xs (8 * k + 3)) t) (cwV 3 F.1.2.2.2.2 gT_X5_until rfl rfl rfl (by decide +kernel) ⟨Nat.le_of_ble_eq_true rfl, Nat.le_of_ble_eq_true rfl⟩) rfl hl.1 hc rfl (Nat.le_of_ble_eq_true rfl) dL_law_669 (fun H1 locs1 w => ?_)
  exact L3_v F w hl (agrV_thr e3) hc dL_law_672 dL_law_673 dL_law_676 dL_law_678 (by decide) dL_law_683 (by decide) (fun H1 locs1 ls1 w hl => kk z1 t1 f H1 locs1 ls1 q1 Q n nt B o w e4 ho (by omega) (by omega) hl)
set_option maxRecDepth 100000 in
set_option maxHeartbeats 4000000 in
theorem case_pass {p : Program} {l : Launch} {e : Env} {s : State} {m : MethodId} {below : List Frame} {meth : Method} {c : Code} {H : Heap} {locs : List Loc} {cells slots : Nat} {Q9 : State → Prop} {b L : Nat} {xs : Nat → Int32} {D : va_G} {cI cJ cZ : ClassId} {ad am sx : Nat → Nat} {ao : Nat} {z t : SH} {f : Nat → Int64} {ls : Array Slot} {k : Nat} {q : Nat → Nat → Nat} {Q : Nat → List Nat} {n nt B o : Nat} (hl0 : l.stackTraces = false) (F : LF p s m c b L xs D cI cJ cZ ad am sx ao) (w : LW s D cI cJ cZ ad am ao z t f H locs) (R : Rel z t q Q n nt B o) (ho : n ≤ o) (hn : n ≤ k) (hB : B ≤ 1000000 * k) (hk : 8 * k + 8 ≤ L) (hl : lv_has ls 8 (lvL b (ad 0) (am 0) ao (nI (8 * k)))) (hc : cells + 1 ≤ 219 ∧ slots + 6 ≤ 37397)
    (kk : ∀ (z1 t1 : SH) (f1 : Nat → Int64) (H1 : Heap) (locs1 : List Loc) (ls1 : Array Slot) (q1 : Nat → Nat → Nat) (Q1 : Nat → List Nat) (n1 nt1 B1 o1 : Nat), LW s D cI cJ cZ ad am ao z1 t1 f1 H1 locs1 → Rel z1 t1 q1 Q1 n1 nt1 B1 o1 → n1 ≤ o1 → n1 ≤ k + 1 → B1 ≤ 1000000 * (k + 1) → lv_has ls1 8 (lvL b (ad 0) (am 0) ao (nI (8 * k))) → W p l e room_1 s m #[Value.ref b] below meth c H1 locs1 (cells + 1) (slots + 6) Q9 (F0 m 1513 ls1 [])) : W p l e room_1 s m #[Value.ref b] below meth c H locs cells slots Q9 (F0 m 686 ls []) := by
  have hL := F.2.2.2.2.2.2
  obtain ⟨r, z1, bb, t1, q1, Q1, e1, e2, e3, e4⟩ := op_pass (B' := B + 1000000) 20000 (Nat.le_refl _) R ho (Nat.le_refl _) (by omega) (xs (8 * k + 1))
  have hx := F.1.1
  have hb := F.1.2.1
  refine lv_aload_n hx hb dL_law_686 rfl (lv_at hl 2 rfl) ?_
  refine ld_c (j := 1) (k := k) F w.2.2.2 (lv_at hl 1 rfl) (lv_at hl 0 rfl) (by omega) (by decide) dL_law_687 dL_law_688 dL_law_690 dL_law_691 dL_law_692 ?_
  refine lv_aload_n hx hb dL_law_693 rfl (lv_at hl 4 rfl) ?_
  refine L1_w (As := [.ref (ad 0), .int (xs (8 * k + 1)), .ref ao]) (hh := [(0, 9, 12, 15)]) (r := wrI c1 f (r, z1)) F w (fun sz => mL_pass l hl0 D cI cJ cZ ad sx ao f 20000 (xs (8 * k + 1)) z (r, z1) sz e1 (agr_ne e3)) (vx_cwSW 3 F.1.2.2.2.2 gT_L_pass rfl rfl rfl (by decide +kernel) ⟨Nat.le_of_ble_eq_true rfl, Nat.le_of_ble_eq_true rfl⟩) rfl hl hc rfl dL_law_694 dL_law_697 (fun H1 locs1 ls1 w hl => ?_)
  rw [wrI_z] at w
  refine lv_aload_n hx hb dL_law_699 rfl (lv_at hl 4 rfl) ?_
  refine ld_c (j := 1) (k := k) F w.2.2.2 (lv_at hl 2 rfl) (lv_at hl 1 rfl) (by omega) (by decide) dL_law_700 dL_law_701 dL_law_703 dL_law_704 dL_law_705 ?_
  refine L2_i (As := [.int (xs (8 * k + 1))]) (rest := []) (callee := fX5_pass 20000 (xs (8 * k + 1)) t) (q := (bb, t1)) F w e2 (mX5_pass l D cI cJ cZ am 20000 (xs (8 * k + 1)) t) (cwV 1 F.1.2.2.2.2 gT_X5_pass rfl rfl rfl (by decide +kernel) ⟨Nat.le_of_ble_eq_true rfl, Nat.le_of_ble_eq_true rfl⟩) rfl hl.1 hc rfl (Nat.le_of_ble_eq_true rfl) dL_law_706 (fun H1 locs1 w => ?_)
  exact L3_i F w hl (agrI_thr e3) (agrI_val e3) hc dL_law_709 dL_law_711 dL_law_712 dL_law_715 dL_law_717 (by decide) dL_law_722 dL_law_724 (by decide) dL_law_727 dL_law_728 dL_law_729 dL_law_730 dL_law_732 dL_law_733 dL_law_734 (by decide) dL_law_739 (by decide) (fun H1 locs1 ls1 w hl => kk z1 t1 _ H1 locs1 ls1 q1 Q1 n nt (B + 1000000) o w e4 ho (by omega) (by omega) hl)
set_option maxRecDepth 100000 in
set_option maxHeartbeats 4000000 in
theorem case_best {p : Program} {l : Launch} {e : Env} {s : State} {m : MethodId} {below : List Frame} {meth : Method} {c : Code} {H : Heap} {locs : List Loc} {cells slots : Nat} {Q9 : State → Prop} {b L : Nat} {xs : Nat → Int32} {D : va_G} {cI cJ cZ : ClassId} {ad am sx : Nat → Nat} {ao : Nat} {z t : SH} {f : Nat → Int64} {ls : Array Slot} {k : Nat} {q : Nat → Nat → Nat} {Q : Nat → List Nat} {n nt B o : Nat} (hl0 : l.stackTraces = false) (F : LF p s m c b L xs D cI cJ cZ ad am sx ao) (w : LW s D cI cJ cZ ad am ao z t f H locs) (R : Rel z t q Q n nt B o) (ho : n ≤ o) (hn : n ≤ k) (hB : B ≤ 1000000 * k) (hk : 8 * k + 8 ≤ L) (hl : lv_has ls 8 (lvL b (ad 0) (am 0) ao (nI (8 * k)))) (hc : cells + 1 ≤ 219 ∧ slots + 6 ≤ 37397)
    (kk : ∀ (z1 t1 : SH) (f1 : Nat → Int64) (H1 : Heap) (locs1 : List Loc) (ls1 : Array Slot) (q1 : Nat → Nat → Nat) (Q1 : Nat → List Nat) (n1 nt1 B1 o1 : Nat), LW s D cI cJ cZ ad am ao z1 t1 f1 H1 locs1 → Rel z1 t1 q1 Q1 n1 nt1 B1 o1 → n1 ≤ o1 → n1 ≤ k + 1 → B1 ≤ 1000000 * (k + 1) → lv_has ls1 8 (lvL b (ad 0) (am 0) ao (nI (8 * k))) → W p l e room_1 s m #[Value.ref b] below meth c H1 locs1 (cells + 1) (slots + 6) Q9 (F0 m 1513 ls1 [])) : W p l e room_1 s m #[Value.ref b] below meth c H locs cells slots Q9 (F0 m 742 ls []) := by
  have hL := F.2.2.2.2.2.2
  obtain ⟨r, z1, bb, t1, e1, e2, e3, e4⟩ := op_best 20000 (Nat.le_refl _) R (xs (8 * k + 1)) (xs (8 * k + 2))
  have hx := F.1.1
  have hb := F.1.2.1
  refine lv_aload_n hx hb dL_law_742 rfl (lv_at hl 2 rfl) ?_
  refine ld_c (j := 1) (k := k) F w.2.2.2 (lv_at hl 1 rfl) (lv_at hl 0 rfl) (by omega) (by decide) dL_law_743 dL_law_744 dL_law_746 dL_law_747 dL_law_748 ?_
  refine ld_c (j := 2) (k := k) F w.2.2.2 (lv_at hl 1 rfl) (lv_at hl 0 rfl) (by omega) (by decide) dL_law_749 dL_law_750 dL_law_752 dL_law_753 dL_law_754 ?_
  refine lv_aload_n hx hb dL_law_755 rfl (lv_at hl 4 rfl) ?_
  refine L1_w (As := [.ref (ad 0), .int (xs (8 * k + 1)), .int (xs (8 * k + 2)), .ref ao]) (hh := [(0, 10, 13, 13), (0, 10, 17, 15), (0, 10, 21, 48)]) (r := wrI cB f (r, z1)) F w (fun sz => mL_best l hl0 D cI cJ cZ ad sx ao f (xs (8 * k + 1)) (xs (8 * k + 2)) z (r, z1) sz e1 (agr_ne e3)) (vx_cwSW 4 F.1.2.2.2.2 gT_L_best rfl rfl rfl (by decide +kernel) ⟨Nat.le_of_ble_eq_true rfl, Nat.le_of_ble_eq_true rfl⟩) rfl hl hc rfl dL_law_756 dL_law_759 (fun H1 locs1 ls1 w hl => ?_)
  rw [wrI_z] at w
  refine lv_aload_n hx hb dL_law_761 rfl (lv_at hl 4 rfl) ?_
  refine ld_c (j := 1) (k := k) F w.2.2.2 (lv_at hl 2 rfl) (lv_at hl 1 rfl) (by omega) (by decide) dL_law_762 dL_law_763 dL_law_765 dL_law_766 dL_law_767 ?_
  refine ld_c (j := 2) (k := k) F w.2.2.2 (lv_at hl 2 rfl) (lv_at hl 1 rfl) (by omega) (by decide) dL_law_768 dL_law_769 dL_law_771 dL_law_772 dL_law_773 ?_
  refine L2_i (As := [.int (xs (8 * k + 1)), .int (xs (8 * k + 2))]) (rest := []) (callee := fX5_best 20000 (xs (8 * k + 1)) (xs (8 * k + 2)) t) (q := (bb, t1)) F w e2 (mX5_best l D cI cJ cZ am 20000 (xs (8 * k + 1)) (xs (8 * k + 2)) t) (cwV 2 F.1.2.2.2.2 gT_X5_best rfl rfl rfl (by decide +kernel) ⟨Nat.le_of_ble_eq_true rfl, Nat.le_of_ble_eq_true rfl⟩) rfl hl.1 hc rfl (Nat.le_of_ble_eq_true rfl) dL_law_774 (fun H1 locs1 w => ?_)
  exact L3_i F w hl (agrI_thr e3) (agrI_val e3) hc dL_law_777 dL_law_779 dL_law_780 dL_law_783 dL_law_785 (by decide) dL_law_790 dL_law_792 (by decide) dL_law_795 dL_law_796 dL_law_797 dL_law_798 dL_law_800 dL_law_801 dL_law_802 (by decide) dL_law_807 (by decide) (fun H1 locs1 ls1 w hl => kk z1 t1 _ H1 locs1 ls1 q Q n nt B o w e4 ho (by omega) (by omega) hl)
set_option maxRecDepth 100000 in
set_option maxHeartbeats 4000000 in
theorem case_depth {p : Program} {l : Launch} {e : Env} {s : State} {m : MethodId} {below : List Frame} {meth : Method} {c : Code} {H : Heap} {locs : List Loc} {cells slots : Nat} {Q9 : State → Prop} {b L : Nat} {xs : Nat → Int32} {D : va_G} {cI cJ cZ : ClassId} {ad am sx : Nat → Nat} {ao : Nat} {z t : SH} {f : Nat → Int64} {ls : Array Slot} {k : Nat} {q : Nat → Nat → Nat} {Q : Nat → List Nat} {n nt B o : Nat} (hl0 : l.stackTraces = false) (F : LF p s m c b L xs D cI cJ cZ ad am sx ao) (w : LW s D cI cJ cZ ad am ao z t f H locs) (R : Rel z t q Q n nt B o) (ho : n ≤ o) (hn : n ≤ k) (hB : B ≤ 1000000 * k) (hk : 8 * k + 8 ≤ L) (hl : lv_has ls 8 (lvL b (ad 0) (am 0) ao (nI (8 * k)))) (hc : cells + 1 ≤ 219 ∧ slots + 6 ≤ 37397)
    (kk : ∀ (z1 t1 : SH) (f1 : Nat → Int64) (H1 : Heap) (locs1 : List Loc) (ls1 : Array Slot) (q1 : Nat → Nat → Nat) (Q1 : Nat → List Nat) (n1 nt1 B1 o1 : Nat), LW s D cI cJ cZ ad am ao z1 t1 f1 H1 locs1 → Rel z1 t1 q1 Q1 n1 nt1 B1 o1 → n1 ≤ o1 → n1 ≤ k + 1 → B1 ≤ 1000000 * (k + 1) → lv_has ls1 8 (lvL b (ad 0) (am 0) ao (nI (8 * k))) → W p l e room_1 s m #[Value.ref b] below meth c H1 locs1 (cells + 1) (slots + 6) Q9 (F0 m 1513 ls1 [])) : W p l e room_1 s m #[Value.ref b] below meth c H locs cells slots Q9 (F0 m 810 ls []) := by
  have hL := F.2.2.2.2.2.2
  obtain ⟨r, z1, bb, t1, e1, e2, e3, e4⟩ := op_depth 20000 (Nat.le_refl _) R (xs (8 * k + 1)) (xs (8 * k + 2)) (xs (8 * k + 3))
  have hx := F.1.1
  have hb := F.1.2.1
  refine lv_aload_n hx hb dL_law_810 rfl (lv_at hl 2 rfl) ?_
  refine ld_c (j := 1) (k := k) F w.2.2.2 (lv_at hl 1 rfl) (lv_at hl 0 rfl) (by omega) (by decide) dL_law_811 dL_law_812 dL_law_814 dL_law_815 dL_law_816 ?_
  refine ld_c (j := 2) (k := k) F w.2.2.2 (lv_at hl 1 rfl) (lv_at hl 0 rfl) (by omega) (by decide) dL_law_817 dL_law_818 dL_law_820 dL_law_821 dL_law_822 ?_
  refine ld_c (j := 3) (k := k) F w.2.2.2 (lv_at hl 1 rfl) (lv_at hl 0 rfl) (by omega) (by decide) dL_law_823 dL_law_824 dL_law_826 dL_law_827 dL_law_828 ?_
  refine lv_aload_n hx hb dL_law_829 rfl (lv_at hl 4 rfl) ?_
  refine L1_w (As := [.ref (ad 0), .int (xs (8 * k + 1)), .int (xs (8 * k + 2)), .int (xs (8 * k + 3)), .ref ao]) (hh := [(0, 12, 15, 13), (0, 12, 19, 15)]) (r := wrI c2 f (r, z1)) F w (fun sz => mL_depth l hl0 D cI cJ cZ ad sx ao f 20000 (xs (8 * k + 1)) (xs (8 * k + 2)) (xs (8 * k + 3)) z (r, z1) sz e1 (agr_ne e3)) (vx_cwSW 5 F.1.2.2.2.2 gT_L_depth rfl rfl rfl (by decide +kernel) ⟨Nat.le_of_ble_eq_true rfl, Nat.le_of_ble_eq_true rfl⟩) rfl hl hc rfl dL_law_830 dL_law_833 (fun H1 locs1 ls1 w hl => ?_)
  rw [wrI_z] at w
  refine lv_aload_n hx hb dL_law_835 rfl (lv_at hl 4 rfl) ?_
  refine ld_c (j := 1) (k := k) F w.2.2.2 (lv_at hl 2 rfl) (lv_at hl 1 rfl) (by omega) (by decide) dL_law_836 dL_law_837 dL_law_839 dL_law_840 dL_law_841 ?_
  refine ld_c (j := 2) (k := k) F w.2.2.2 (lv_at hl 2 rfl) (lv_at hl 1 rfl) (by omega) (by decide) dL_law_842 dL_law_843 dL_law_845 dL_law_846 dL_law_847 ?_
  refine ld_c (j := 3) (k := k) F w.2.2.2 (lv_at hl 2 rfl) (lv_at hl 1 rfl) (by omega) (by decide) dL_law_848 dL_law_849 dL_law_851 dL_law_852 dL_law_853 ?_
  refine L2_i (As := [.int (xs (8 * k + 1)), .int (xs (8 * k + 2)), .int (xs (8 * k + 3))]) (rest := []) (callee := fX5_depth 20000 (xs (8 * k + 1)) (xs (8 * k + 2)) (xs (8 * k + 3)) t) (q := (bb, t1)) F w e2 (mX5_depth l D cI cJ cZ am 20000 (xs (8 * k + 1)) (xs (8 * k + 2)) (xs (8 * k + 3)) t) (cwV 3 F.1.2.2.2.2 gT_X5_depth rfl rfl rfl (by decide +kernel) ⟨Nat.le_of_ble_eq_true rfl, Nat.le_of_ble_eq_true rfl⟩) rfl hl.1 hc rfl (Nat.le_of_ble_eq_true rfl) dL_law_854 (fun H1 locs1 w => ?_)
  exact L3_i F w hl (agrI_thr e3) (agrI_val e3) hc dL_law_857 dL_law_859 dL_law_860 dL_law_863 dL_law_865 (by decide) dL_law_870 dL_law_872 (by decide) dL_law_875 dL_law_876 dL_law_877 dL_law_878 dL_law_880 dL_law_881 dL_law_882 (by decide) dL_law_887 (by decide) (fun H1 locs1 ls1 w hl => kk z1 t1 _ H1 locs1 ls1 q Q n nt B o w e4 ho (by omega) (by omega) hl)
