/-! ===== the law's loop ===== -/
section LawLoop
variable {p : Program} {l : Launch} {e : Env} {s : State} {m : MethodId} {below : List Frame} {meth : Method} {c : Code} {Q9 : State → Prop} {b L : Nat} {xs : Nat → Int32} {D : va_G} {cI cJ cZ : ClassId} {ad am sx : Nat → Nat} {ao : Nat}
set_option maxRecDepth 100000 in
set_option maxHeartbeats 4000000 in
theorem law_switch {x : Int32} {H : Heap} {locs : List Loc} {cells slots : Nat} {ls : Array Slot} (hx : p.tables.exec = Jvm.exec) (hb : c.code = cL_law) (kd : W p l e room_1 s m #[Value.ref b] below meth c H locs cells slots Q9 (F0 m 1513 ls []))
    (k0 : W p l e room_1 s m #[Value.ref b] below meth c H locs cells slots Q9 (F0 m 132 ls []))
    (k1 : W p l e room_1 s m #[Value.ref b] below meth c H locs cells slots Q9 (F0 m 199 ls []))
    (k2 : W p l e room_1 s m #[Value.ref b] below meth c H locs cells slots Q9 (F0 m 266 ls []))
    (k3 : W p l e room_1 s m #[Value.ref b] below meth c H locs cells slots Q9 (F0 m 346 ls []))
    (k4 : W p l e room_1 s m #[Value.ref b] below meth c H locs cells slots Q9 (F0 m 478 ls []))
    (k5 : W p l e room_1 s m #[Value.ref b] below meth c H locs cells slots Q9 (F0 m 546 ls []))
    (k6 : W p l e room_1 s m #[Value.ref b] below meth c H locs cells slots Q9 (F0 m 626 ls []))
    (k7 : W p l e room_1 s m #[Value.ref b] below meth c H locs cells slots Q9 (F0 m 686 ls []))
    (k8 : W p l e room_1 s m #[Value.ref b] below meth c H locs cells slots Q9 (F0 m 742 ls []))
    (k9 : W p l e room_1 s m #[Value.ref b] below meth c H locs cells slots Q9 (F0 m 810 ls []))
    (k10 : W p l e room_1 s m #[Value.ref b] below meth c H locs cells slots Q9 (F0 m 890 ls []))
    (k11 : W p l e room_1 s m #[Value.ref b] below meth c H locs cells slots Q9 (F0 m 982 ls []))
    (k12 : W p l e room_1 s m #[Value.ref b] below meth c H locs cells slots Q9 (F0 m 1050 ls []))
    (k13 : W p l e room_1 s m #[Value.ref b] below meth c H locs cells slots Q9 (F0 m 1106 ls []))
    (k14 : W p l e room_1 s m #[Value.ref b] below meth c H locs cells slots Q9 (F0 m 1173 ls []))
    (k15 : W p l e room_1 s m #[Value.ref b] below meth c H locs cells slots Q9 (F0 m 1253 ls []))
    (k16 : W p l e room_1 s m #[Value.ref b] below meth c H locs cells slots Q9 (F0 m 1309 ls []))
    (k17 : W p l e room_1 s m #[Value.ref b] below meth c H locs cells slots Q9 (F0 m 1377 ls []))
    (k18 : W p l e room_1 s m #[Value.ref b] below meth c H locs cells slots Q9 (F0 m 1445 ls []))
    : W p l e room_1 s m #[Value.ref b] below meth c H locs cells slots Q9 (F0 m 40 ls [.int x]) := by
  by_cases hO : x.toInt < 0 ∨ 18 < x.toInt
  · exact lv_tableOut (tgt := 1513) hx hb dL_law_40 hO (by decide) kd
  · obtain ⟨j, hj, rfl⟩ : ∃ j : Nat, j ≤ 18 ∧ x = nI j := by
      refine ⟨x.toInt.toNat, by omega, ?_⟩
      apply Int32.toInt_inj.mp
      rw [nI_toInt (by omega)]
      omega
    have h1 : ¬ (nI j).toInt < 0 := fun h => hO (.inl h)
    have h2 : ¬ 18 < (nI j).toInt := fun h => hO (.inr h)
    rcases (by omega : j = 0 ∨ j = 1 ∨ j = 2 ∨ j = 3 ∨ j = 4 ∨ j = 5 ∨ j = 6 ∨ j = 7 ∨ j = 8 ∨ j = 9 ∨ j = 10 ∨ j = 11 ∨ j = 12 ∨ j = 13 ∨ j = 14 ∨ j = 15 ∨ j = 16 ∨ j = 17 ∨ j = 18) with rfl | rfl | rfl | rfl | rfl | rfl | rfl | rfl | rfl | rfl | rfl | rfl | rfl | rfl | rfl | rfl | rfl | rfl | rfl
    · exact lv_tableIn (tgt := 132) hx hb dL_law_40 h1 h2 (show _ = some (92 : Int) by decide) (by decide) k0
    · exact lv_tableIn (tgt := 199) hx hb dL_law_40 h1 h2 (show _ = some (159 : Int) by decide) (by decide) k1
    · exact lv_tableIn (tgt := 266) hx hb dL_law_40 h1 h2 (show _ = some (226 : Int) by decide) (by decide) k2
    · exact lv_tableIn (tgt := 346) hx hb dL_law_40 h1 h2 (show _ = some (306 : Int) by decide) (by decide) k3
    · exact lv_tableIn (tgt := 478) hx hb dL_law_40 h1 h2 (show _ = some (438 : Int) by decide) (by decide) k4
    · exact lv_tableIn (tgt := 546) hx hb dL_law_40 h1 h2 (show _ = some (506 : Int) by decide) (by decide) k5
    · exact lv_tableIn (tgt := 626) hx hb dL_law_40 h1 h2 (show _ = some (586 : Int) by decide) (by decide) k6
    · exact lv_tableIn (tgt := 686) hx hb dL_law_40 h1 h2 (show _ = some (646 : Int) by decide) (by decide) k7
    · exact lv_tableIn (tgt := 742) hx hb dL_law_40 h1 h2 (show _ = some (702 : Int) by decide) (by decide) k8
    · exact lv_tableIn (tgt := 810) hx hb dL_law_40 h1 h2 (show _ = some (770 : Int) by decide) (by decide) k9
    · exact lv_tableIn (tgt := 890) hx hb dL_law_40 h1 h2 (show _ = some (850 : Int) by decide) (by decide) k10
    · exact lv_tableIn (tgt := 982) hx hb dL_law_40 h1 h2 (show _ = some (942 : Int) by decide) (by decide) k11
    · exact lv_tableIn (tgt := 1050) hx hb dL_law_40 h1 h2 (show _ = some (1010 : Int) by decide) (by decide) k12
    · exact lv_tableIn (tgt := 1106) hx hb dL_law_40 h1 h2 (show _ = some (1066 : Int) by decide) (by decide) k13
    · exact lv_tableIn (tgt := 1173) hx hb dL_law_40 h1 h2 (show _ = some (1133 : Int) by decide) (by decide) k14
    · exact lv_tableIn (tgt := 1253) hx hb dL_law_40 h1 h2 (show _ = some (1213 : Int) by decide) (by decide) k15
    · exact lv_tableIn (tgt := 1309) hx hb dL_law_40 h1 h2 (show _ = some (1269 : Int) by decide) (by decide) k16
    · exact lv_tableIn (tgt := 1377) hx hb dL_law_40 h1 h2 (show _ = some (1337 : Int) by decide) (by decide) k17
    · exact lv_tableIn (tgt := 1445) hx hb dL_law_40 h1 h2 (show _ = some (1405 : Int) by decide) (by decide) k18
theorem law_loop (hl0 : l.stackTraces = false) (F : LF p s m c b L xs D cI cJ cZ ad am sx ao)
    (hend : ∀ (H : Heap) (locs : List Loc) (ls : Array Slot) (cells slots : Nat), va_S (lwA s) s.heap H locs → cells ≤ 219 → slots ≤ 37397 → W p l e room_1 s m #[Value.ref b] below meth c H locs cells slots Q9 (F0 m 1520 ls [.int 1])) :
    ∀ (j k : Nat) (z t : SH) (f : Nat → Int64) (H : Heap) (locs : List Loc) (ls : Array Slot) (q : Nat → Nat → Nat) (Q : Nat → List Nat) (n nt B o : Nat), L ≤ 8 * k + 8 * j → LW s D cI cJ cZ ad am ao z t f H locs → Rel z t q Q n nt B o → n ≤ o → n ≤ k → B ≤ 1000000 * k → k ≤ 64 → lv_has ls 8 (lvL b (ad 0) (am 0) ao (nI (8 * k))) →
      W p l e room_1 s m #[Value.ref b] below meth c H locs (62 + k) (36199 + 6 * k) Q9 (F0 m 23 ls []) := by
  have hx := F.1.1
  have hb := F.1.2.1
  have hL := F.2.2.2.2.2.2
  have hbl := F.2.2.2.2.2.1
  have hxs := F.2.2.2.2.1
  have hbA : ¬ lwA s b := fun h => absurd hbl (Nat.not_lt.mpr h)
  intro j
  induction j with
  | zero =>
    intro k z t f H locs ls q Q n nt B o hj w R ho hn hB hk hl
    refine lv_iload hx hb dL_law_23 (lv_at hl 0 rfl) ?_
    refine lv_aload_n hx hb dL_law_25 rfl (lv_at hl 1 rfl) ?_
    refine va_slen hx hb hxs hbl hbA w.2.2.2 dL_law_26 ?_
    refine lv_bipush (v := nI 8) hx hb dL_law_27 (by decide) ?_
    refine lv_isub hx hb dL_law_29 ?_
    refine lv_icmp_gt (tgt := 1519) hx hb dL_law_30 (by decide) (fun _ => ?_) (fun hne => ?_)
    · refine lv_iconst (v := 1) hx hb dL_law_1519 (by decide) ?_
      exact hend H locs ls _ _ w.2.2.2 (by omega) (by omega)
    · exfalso
      apply hne
      rw [Int32.lt_iff_toInt_lt]
      show (nI L - nI 8).toInt < (nI (8 * k)).toInt
      rw [pk_sub_toInt (by omega) (by decide), nI_toInt (by omega)]
      omega
  | succ j ih =>
    intro k z t f H locs ls q Q n nt B o hj w R ho hn hB hk hl
    refine lv_iload hx hb dL_law_23 (lv_at hl 0 rfl) ?_
    refine lv_aload_n hx hb dL_law_25 rfl (lv_at hl 1 rfl) ?_
    refine va_slen hx hb hxs hbl hbA w.2.2.2 dL_law_26 ?_
    refine lv_bipush (v := nI 8) hx hb dL_law_27 (by decide) ?_
    refine lv_isub hx hb dL_law_29 ?_
    refine lv_icmp_gt (tgt := 1519) hx hb dL_law_30 (by decide) (fun _ => ?_) (fun hne => ?_)
    · refine lv_iconst (v := 1) hx hb dL_law_1519 (by decide) ?_
      exact hend H locs ls _ _ w.2.2.2 (by omega) (by omega)
    · have hk8 : 8 * k + 8 ≤ L := by
        by_cases c : 8 * k + 8 ≤ L
        · exact c
        · exfalso
          apply hne
          rw [Int32.lt_iff_toInt_lt]
          show (nI L - nI 8).toInt < (nI (8 * k)).toInt
          rw [pk_sub_toInt (by omega) (by decide), nI_toInt (by omega)]
          omega
      have hc : 62 + k + 1 ≤ 219 ∧ 36199 + 6 * k + 6 ≤ 37397 := by omega
      have kk : ∀ (z1 t1 : SH) (f1 : Nat → Int64) (H1 : Heap) (locs1 : List Loc) (ls1 : Array Slot) (q1 : Nat → Nat → Nat) (Q1 : Nat → List Nat) (n1 nt1 B1 o1 : Nat), LW s D cI cJ cZ ad am ao z1 t1 f1 H1 locs1 → Rel z1 t1 q1 Q1 n1 nt1 B1 o1 → n1 ≤ o1 → n1 ≤ k + 1 → B1 ≤ 1000000 * (k + 1) → lv_has ls1 8 (lvL b (ad 0) (am 0) ao (nI (8 * k))) → W p l e room_1 s m #[Value.ref b] below meth c H1 locs1 (62 + k + 1) (36199 + 6 * k + 6) Q9 (F0 m 1513 ls1 []) := by
        intro z1 t1 f1 H1 locs1 ls1 q1 Q1 n1 nt1 B1 o1 w1 R1 ho1 hn1 hB1 hl1
        refine lv_iinc (v := nI (8 * (k + 1))) hx hb dL_law_1513 hl1 (k := 0) rfl (by rw [show Int32.ofInt 8 = nI 8 by decide, nI_add]; congr 1) (by decide) rfl (fun ls2 hl2 => ?_)
        refine lv_goto (tgt := 23) hx hb dL_law_1516 (by decide) ?_
        exact ih (k + 1) z1 t1 f1 H1 locs1 ls2 q1 Q1 n1 nt1 B1 o1 (by omega) w1 R1 ho1 hn1 hB1 (by omega) hl2
      refine lv_aload_n hx hb dL_law_33 rfl (lv_at hl 1 rfl) ?_
      refine lv_iload hx hb dL_law_34 (lv_at hl 0 rfl) ?_
      refine va_sld hx hb hxs hbl hbA w.2.2.2 (inb_in (inb_n (show 8 * k < L by omega) (by omega))) dL_law_36 ?_
      refine lv_bipush (v := 31) hx hb dL_law_37 (by decide) ?_
      refine lv_iand hx hb dL_law_39 ?_
      refine law_switch hx hb (W.widen (by omega) (by omega) (kk z t f H locs ls q Q n nt B o w R ho (by omega) (by omega) hl))
        (case_deposit hl0 F w R ho hn hB hk8 hl hc kk)
        (case_withdraw hl0 F w R ho hn hB hk8 hl hc kk)
        (case_grant hl0 F w R ho hn hB hk8 hl hc kk)
        (case_order hl0 F w R ho hn hB hk8 hl hc kk)
        (case_cancel hl0 F w R ho hn hB hk8 hl hc kk)
        (case_reduce hl0 F w R ho hn hB hk8 hl hc kk)
        (case_until hl0 F w R ho hn hB hk8 hl hc kk)
        (case_pass hl0 F w R ho hn hB hk8 hl hc kk)
        (case_best hl0 F w R ho hn hB hk8 hl hc kk)
        (case_depth hl0 F w R ho hn hB hk8 hl hc kk)
        (case_level hl0 F w R ho hn hB hk8 hl hc kk)
        (case_about hl0 F w R ho hn hB hk8 hl hc kk)
        (case_ahead hl0 F w R ho hn hB hk8 hl hc kk)
        (case_cash hl0 F w R ho hn hB hk8 hl hc kk)
        (case_shares hl0 F w R ho hn hB hk8 hl hc kk)
        (case_count hl0 F w R ho hn hB hk8 hl hc kk)
        (case_trade hl0 F w R ho hn hB hk8 hl hc kk)
        (case_symbol hl0 F w R ho hn hB hk8 hl hc kk)
        (case_busiest hl0 F w R ho hn hB hk8 hl hc kk)
end LawLoop
