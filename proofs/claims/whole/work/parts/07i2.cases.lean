set_option maxRecDepth 100000 in
set_option maxHeartbeats 4000000 in
theorem case_level {p : Program} {l : Launch} {e : Env} {s : State} {m : MethodId} {below : List Frame} {meth : Method} {c : Code} {H : Heap} {locs : List Loc} {cells slots : Nat} {Q9 : State → Prop} {b L : Nat} {xs : Nat → Int32} {D : va_G} {cI cJ cZ : ClassId} {ad am sx : Nat → Nat} {ao : Nat} {z t : SH} {f : Nat → Int64} {ls : Array Slot} {k : Nat} {q : Nat → Nat → Nat} {Q : Nat → List Nat} {n nt B o : Nat} (hl0 : l.stackTraces = false) (F : LF p s m c b L xs D cI cJ cZ ad am sx ao) (w : LW s D cI cJ cZ ad am ao z t f H locs) (R : Rel z t q Q n nt B o) (ho : n ≤ o) (hn : n ≤ k) (hB : B ≤ 1000000 * k) (hk : 8 * k + 8 ≤ L) (hl : lv_has ls 8 (lvL b (ad 0) (am 0) ao (nI (8 * k)))) (hc : cells + 1 ≤ 219 ∧ slots + 6 ≤ 37397)
    (kk : ∀ (z1 t1 : SH) (f1 : Nat → Int64) (H1 : Heap) (locs1 : List Loc) (ls1 : Array Slot) (q1 : Nat → Nat → Nat) (Q1 : Nat → List Nat) (n1 nt1 B1 o1 : Nat), LW s D cI cJ cZ ad am ao z1 t1 f1 H1 locs1 → Rel z1 t1 q1 Q1 n1 nt1 B1 o1 → n1 ≤ o1 → n1 ≤ k + 1 → B1 ≤ 1000000 * (k + 1) → lv_has ls1 8 (lvL b (ad 0) (am 0) ao (nI (8 * k))) → W p l e room_1 s m #[Value.ref b] below meth c H1 locs1 (cells + 1) (slots + 6) Q9 (F0 m 1513 ls1 [])) : W p l e room_1 s m #[Value.ref b] below meth c H locs cells slots Q9 (F0 m 890 ls []) := by
  have hL := F.2.2.2.2.2.2
  obtain ⟨r, z1, bb, t1, e1, e2, e3, e4⟩ := op_level 20000 (Nat.le_refl _) R (xs (8 * k + 1)) (xs (8 * k + 2)) (xs (8 * k + 3)) (xs (8 * k + 4))
  have hx := F.1.1
  have hb := F.1.2.1
  refine lv_aload_n hx hb dL_law_890 rfl (lv_at hl 2 rfl) ?_
  refine ld_c (j := 1) (k := k) F w.2.2.2 (lv_at hl 1 rfl) (lv_at hl 0 rfl) (by omega) (by decide) dL_law_891 dL_law_892 dL_law_894 dL_law_895 dL_law_896 ?_
  refine ld_c (j := 2) (k := k) F w.2.2.2 (lv_at hl 1 rfl) (lv_at hl 0 rfl) (by omega) (by decide) dL_law_897 dL_law_898 dL_law_900 dL_law_901 dL_law_902 ?_
  refine ld_c (j := 3) (k := k) F w.2.2.2 (lv_at hl 1 rfl) (lv_at hl 0 rfl) (by omega) (by decide) dL_law_903 dL_law_904 dL_law_906 dL_law_907 dL_law_908 ?_
  refine ld_c (j := 4) (k := k) F w.2.2.2 (lv_at hl 1 rfl) (lv_at hl 0 rfl) (by omega) (by decide) dL_law_909 dL_law_910 dL_law_912 dL_law_913 dL_law_914 ?_
  refine lv_aload_n hx hb dL_law_915 rfl (lv_at hl 4 rfl) ?_
  refine L1_w (As := [.ref (ad 0), .int (xs (8 * k + 1)), .int (xs (8 * k + 2)), .int (xs (8 * k + 3)), .int (xs (8 * k + 4)), .ref ao]) (hh := [(0, 14, 17, 13), (0, 14, 21, 15)]) (r := wrI c2 f (r, z1)) F w (fun sz => mL_level l hl0 D cI cJ cZ ad sx ao f 20000 (xs (8 * k + 1)) (xs (8 * k + 2)) (xs (8 * k + 3)) (xs (8 * k + 4)) z (r, z1) sz e1 (agr_ne e3)) (vx_cwSW 6 F.1.2.2.2.2 gT_L_level rfl rfl rfl (by decide +kernel) ⟨Nat.le_of_ble_eq_true rfl, Nat.le_of_ble_eq_true rfl⟩) rfl hl hc rfl dL_law_916 dL_law_919 (fun H1 locs1 ls1 w hl => ?_)
  rw [wrI_z] at w
  refine lv_aload_n hx hb dL_law_921 rfl (lv_at hl 4 rfl) ?_
  refine ld_c (j := 1) (k := k) F w.2.2.2 (lv_at hl 2 rfl) (lv_at hl 1 rfl) (by omega) (by decide) dL_law_922 dL_law_923 dL_law_925 dL_law_926 dL_law_927 ?_
  refine ld_c (j := 2) (k := k) F w.2.2.2 (lv_at hl 2 rfl) (lv_at hl 1 rfl) (by omega) (by decide) dL_law_928 dL_law_929 dL_law_931 dL_law_932 dL_law_933 ?_
  refine ld_c (j := 3) (k := k) F w.2.2.2 (lv_at hl 2 rfl) (lv_at hl 1 rfl) (by omega) (by decide) dL_law_934 dL_law_935 dL_law_937 dL_law_938 dL_law_939 ?_
  refine ld_c (j := 4) (k := k) F w.2.2.2 (lv_at hl 2 rfl) (lv_at hl 1 rfl) (by omega) (by decide) dL_law_940 dL_law_941 dL_law_943 dL_law_944 dL_law_945 ?_
  refine L2_i (As := [.int (xs (8 * k + 1)), .int (xs (8 * k + 2)), .int (xs (8 * k + 3)), .int (xs (8 * k + 4))]) (rest := []) (callee := fX5_level 20000 (xs (8 * k + 1)) (xs (8 * k + 2)) (xs (8 * k + 3)) (xs (8 * k + 4)) t) (q := (bb, t1)) F w e2 (mX5_level l D cI cJ cZ am 20000 (xs (8 * k + 1)) (xs (8 * k + 2)) (xs (8 * k + 3)) (xs (8 * k + 4)) t) (cwV 4 F.1.2.2.2.2 gT_X5_level rfl rfl rfl (by decide +kernel) ⟨Nat.le_of_ble_eq_true rfl, Nat.le_of_ble_eq_true rfl⟩) rfl hl.1 hc rfl (Nat.le_of_ble_eq_true rfl) dL_law_946 (fun H1 locs1 w => ?_)
  exact L3_i F w hl (agrI_thr e3) (agrI_val e3) hc dL_law_949 dL_law_951 dL_law_952 dL_law_955 dL_law_957 (by decide) dL_law_962 dL_law_964 (by decide) dL_law_967 dL_law_968 dL_law_969 dL_law_970 dL_law_972 dL_law_973 dL_law_974 (by decide) dL_law_979 (by decide) (fun H1 locs1 ls1 w hl => kk z1 t1 _ H1 locs1 ls1 q Q n nt B o w e4 ho (by omega) (by omega) hl)
set_option maxRecDepth 100000 in
set_option maxHeartbeats 4000000 in
theorem case_about {p : Program} {l : Launch} {e : Env} {s : State} {m : MethodId} {below : List Frame} {meth : Method} {c : Code} {H : Heap} {locs : List Loc} {cells slots : Nat} {Q9 : State → Prop} {b L : Nat} {xs : Nat → Int32} {D : va_G} {cI cJ cZ : ClassId} {ad am sx : Nat → Nat} {ao : Nat} {z t : SH} {f : Nat → Int64} {ls : Array Slot} {k : Nat} {q : Nat → Nat → Nat} {Q : Nat → List Nat} {n nt B o : Nat} (hl0 : l.stackTraces = false) (F : LF p s m c b L xs D cI cJ cZ ad am sx ao) (w : LW s D cI cJ cZ ad am ao z t f H locs) (R : Rel z t q Q n nt B o) (ho : n ≤ o) (hn : n ≤ k) (hB : B ≤ 1000000 * k) (hk : 8 * k + 8 ≤ L) (hl : lv_has ls 8 (lvL b (ad 0) (am 0) ao (nI (8 * k)))) (hc : cells + 1 ≤ 219 ∧ slots + 6 ≤ 37397)
    (kk : ∀ (z1 t1 : SH) (f1 : Nat → Int64) (H1 : Heap) (locs1 : List Loc) (ls1 : Array Slot) (q1 : Nat → Nat → Nat) (Q1 : Nat → List Nat) (n1 nt1 B1 o1 : Nat), LW s D cI cJ cZ ad am ao z1 t1 f1 H1 locs1 → Rel z1 t1 q1 Q1 n1 nt1 B1 o1 → n1 ≤ o1 → n1 ≤ k + 1 → B1 ≤ 1000000 * (k + 1) → lv_has ls1 8 (lvL b (ad 0) (am 0) ao (nI (8 * k))) → W p l e room_1 s m #[Value.ref b] below meth c H1 locs1 (cells + 1) (slots + 6) Q9 (F0 m 1513 ls1 [])) : W p l e room_1 s m #[Value.ref b] below meth c H locs cells slots Q9 (F0 m 982 ls []) := by
  have hL := F.2.2.2.2.2.2
  obtain ⟨r, z1, bb, t1, e1, e2, e3, e4⟩ := op_about R ho (xs (8 * k + 1)) (xs (8 * k + 2))
  have hx := F.1.1
  have hb := F.1.2.1
  refine lv_aload_n hx hb dL_law_982 rfl (lv_at hl 2 rfl) ?_
  refine ld_c (j := 1) (k := k) F w.2.2.2 (lv_at hl 1 rfl) (lv_at hl 0 rfl) (by omega) (by decide) dL_law_983 dL_law_984 dL_law_986 dL_law_987 dL_law_988 ?_
  refine ld_c (j := 2) (k := k) F w.2.2.2 (lv_at hl 1 rfl) (lv_at hl 0 rfl) (by omega) (by decide) dL_law_989 dL_law_990 dL_law_992 dL_law_993 dL_law_994 ?_
  refine lv_aload_n hx hb dL_law_995 rfl (lv_at hl 4 rfl) ?_
  refine L1_w (As := [.ref (ad 0), .int (xs (8 * k + 1)), .int (xs (8 * k + 2)), .ref ao]) (hh := [(0, 10, 13, 13), (0, 10, 17, 15)]) (r := wrI c2 f (r, z1)) F w (fun sz => mL_about l hl0 D cI cJ cZ ad sx ao f (xs (8 * k + 1)) (xs (8 * k + 2)) z (r, z1) sz e1 (agr_ne e3)) (vx_cwSW 4 F.1.2.2.2.2 gT_L_about rfl rfl rfl (by decide +kernel) ⟨Nat.le_of_ble_eq_true rfl, Nat.le_of_ble_eq_true rfl⟩) rfl hl hc rfl dL_law_996 dL_law_999 (fun H1 locs1 ls1 w hl => ?_)
  rw [wrI_z] at w
  refine lv_aload_n hx hb dL_law_1001 rfl (lv_at hl 4 rfl) ?_
  refine ld_c (j := 1) (k := k) F w.2.2.2 (lv_at hl 2 rfl) (lv_at hl 1 rfl) (by omega) (by decide) dL_law_1002 dL_law_1003 dL_law_1005 dL_law_1006 dL_law_1007 ?_
  refine ld_c (j := 2) (k := k) F w.2.2.2 (lv_at hl 2 rfl) (lv_at hl 1 rfl) (by omega) (by decide) dL_law_1008 dL_law_1009 dL_law_1011 dL_law_1012 dL_law_1013 ?_
  refine L2_i (As := [.int (xs (8 * k + 1)), .int (xs (8 * k + 2))]) (rest := []) (callee := fX5_about (xs (8 * k + 1)) (xs (8 * k + 2)) t) (q := (bb, t1)) F w e2 (mX5_about l D cI cJ cZ am (xs (8 * k + 1)) (xs (8 * k + 2)) t) (cwV 2 F.1.2.2.2.2 gT_X5_about rfl rfl rfl (by decide +kernel) ⟨Nat.le_of_ble_eq_true rfl, Nat.le_of_ble_eq_true rfl⟩) rfl hl.1 hc rfl (Nat.le_of_ble_eq_true rfl) dL_law_1014 (fun H1 locs1 w => ?_)
  exact L3_i F w hl (agrI_thr e3) (agrI_val e3) hc dL_law_1017 dL_law_1019 dL_law_1020 dL_law_1023 dL_law_1025 (by decide) dL_law_1030 dL_law_1032 (by decide) dL_law_1035 dL_law_1036 dL_law_1037 dL_law_1038 dL_law_1040 dL_law_1041 dL_law_1042 (by decide) dL_law_1047 (by decide) (fun H1 locs1 ls1 w hl => kk z1 t1 _ H1 locs1 ls1 q Q n nt B o w e4 ho (by omega) (by omega) hl)
set_option maxRecDepth 100000 in
set_option maxHeartbeats 4000000 in
theorem case_ahead {p : Program} {l : Launch} {e : Env} {s : State} {m : MethodId} {below : List Frame} {meth : Method} {c : Code} {H : Heap} {locs : List Loc} {cells slots : Nat} {Q9 : State → Prop} {b L : Nat} {xs : Nat → Int32} {D : va_G} {cI cJ cZ : ClassId} {ad am sx : Nat → Nat} {ao : Nat} {z t : SH} {f : Nat → Int64} {ls : Array Slot} {k : Nat} {q : Nat → Nat → Nat} {Q : Nat → List Nat} {n nt B o : Nat} (hl0 : l.stackTraces = false) (F : LF p s m c b L xs D cI cJ cZ ad am sx ao) (w : LW s D cI cJ cZ ad am ao z t f H locs) (R : Rel z t q Q n nt B o) (ho : n ≤ o) (hn : n ≤ k) (hB : B ≤ 1000000 * k) (hk : 8 * k + 8 ≤ L) (hl : lv_has ls 8 (lvL b (ad 0) (am 0) ao (nI (8 * k)))) (hc : cells + 1 ≤ 219 ∧ slots + 6 ≤ 37397)
    (kk : ∀ (z1 t1 : SH) (f1 : Nat → Int64) (H1 : Heap) (locs1 : List Loc) (ls1 : Array Slot) (q1 : Nat → Nat → Nat) (Q1 : Nat → List Nat) (n1 nt1 B1 o1 : Nat), LW s D cI cJ cZ ad am ao z1 t1 f1 H1 locs1 → Rel z1 t1 q1 Q1 n1 nt1 B1 o1 → n1 ≤ o1 → n1 ≤ k + 1 → B1 ≤ 1000000 * (k + 1) → lv_has ls1 8 (lvL b (ad 0) (am 0) ao (nI (8 * k))) → W p l e room_1 s m #[Value.ref b] below meth c H1 locs1 (cells + 1) (slots + 6) Q9 (F0 m 1513 ls1 [])) : W p l e room_1 s m #[Value.ref b] below meth c H locs cells slots Q9 (F0 m 1050 ls []) := by
  have hL := F.2.2.2.2.2.2
  obtain ⟨r, z1, bb, t1, e1, e2, e3, e4⟩ := op_ahead 20000 (Nat.le_refl _) R ho (xs (8 * k + 1))
  have hx := F.1.1
  have hb := F.1.2.1
  refine lv_aload_n hx hb dL_law_1050 rfl (lv_at hl 2 rfl) ?_
  refine ld_c (j := 1) (k := k) F w.2.2.2 (lv_at hl 1 rfl) (lv_at hl 0 rfl) (by omega) (by decide) dL_law_1051 dL_law_1052 dL_law_1054 dL_law_1055 dL_law_1056 ?_
  refine lv_aload_n hx hb dL_law_1057 rfl (lv_at hl 4 rfl) ?_
  refine L1_w (As := [.ref (ad 0), .int (xs (8 * k + 1)), .ref ao]) (hh := [(0, 9, 12, 13), (0, 9, 15, 48)]) (r := wrI cA f (r, z1)) F w (fun sz => mL_ahead l hl0 D cI cJ cZ ad sx ao f 20000 (xs (8 * k + 1)) z (r, z1) sz e1 (agr_ne e3)) (vx_cwSW 3 F.1.2.2.2.2 gT_L_ahead rfl rfl rfl (by decide +kernel) ⟨Nat.le_of_ble_eq_true rfl, Nat.le_of_ble_eq_true rfl⟩) rfl hl hc rfl dL_law_1058 dL_law_1061 (fun H1 locs1 ls1 w hl => ?_)
  rw [wrI_z] at w
  refine lv_aload_n hx hb dL_law_1063 rfl (lv_at hl 4 rfl) ?_
  refine ld_c (j := 1) (k := k) F w.2.2.2 (lv_at hl 2 rfl) (lv_at hl 1 rfl) (by omega) (by decide) dL_law_1064 dL_law_1065 dL_law_1067 dL_law_1068 dL_law_1069 ?_
  refine L2_i (As := [.int (xs (8 * k + 1))]) (rest := []) (callee := fX5_ahead 20000 (xs (8 * k + 1)) t) (q := (bb, t1)) F w e2 (mX5_ahead l D cI cJ cZ am 20000 (xs (8 * k + 1)) t) (cwV 1 F.1.2.2.2.2 gT_X5_ahead rfl rfl rfl (by decide +kernel) ⟨Nat.le_of_ble_eq_true rfl, Nat.le_of_ble_eq_true rfl⟩) rfl hl.1 hc rfl (Nat.le_of_ble_eq_true rfl) dL_law_1070 (fun H1 locs1 w => ?_)
  exact L3_i F w hl (agrI_thr e3) (agrI_val e3) hc dL_law_1073 dL_law_1075 dL_law_1076 dL_law_1079 dL_law_1081 (by decide) dL_law_1086 dL_law_1088 (by decide) dL_law_1091 dL_law_1092 dL_law_1093 dL_law_1094 dL_law_1096 dL_law_1097 dL_law_1098 (by decide) dL_law_1103 (by decide) (fun H1 locs1 ls1 w hl => kk z1 t1 _ H1 locs1 ls1 q Q n nt B o w e4 ho (by omega) (by omega) hl)
set_option maxRecDepth 100000 in
set_option maxHeartbeats 4000000 in
theorem case_cash {p : Program} {l : Launch} {e : Env} {s : State} {m : MethodId} {below : List Frame} {meth : Method} {c : Code} {H : Heap} {locs : List Loc} {cells slots : Nat} {Q9 : State → Prop} {b L : Nat} {xs : Nat → Int32} {D : va_G} {cI cJ cZ : ClassId} {ad am sx : Nat → Nat} {ao : Nat} {z t : SH} {f : Nat → Int64} {ls : Array Slot} {k : Nat} {q : Nat → Nat → Nat} {Q : Nat → List Nat} {n nt B o : Nat} (hl0 : l.stackTraces = false) (F : LF p s m c b L xs D cI cJ cZ ad am sx ao) (w : LW s D cI cJ cZ ad am ao z t f H locs) (R : Rel z t q Q n nt B o) (ho : n ≤ o) (hn : n ≤ k) (hB : B ≤ 1000000 * k) (hk : 8 * k + 8 ≤ L) (hl : lv_has ls 8 (lvL b (ad 0) (am 0) ao (nI (8 * k)))) (hc : cells + 1 ≤ 219 ∧ slots + 6 ≤ 37397)
    (kk : ∀ (z1 t1 : SH) (f1 : Nat → Int64) (H1 : Heap) (locs1 : List Loc) (ls1 : Array Slot) (q1 : Nat → Nat → Nat) (Q1 : Nat → List Nat) (n1 nt1 B1 o1 : Nat), LW s D cI cJ cZ ad am ao z1 t1 f1 H1 locs1 → Rel z1 t1 q1 Q1 n1 nt1 B1 o1 → n1 ≤ o1 → n1 ≤ k + 1 → B1 ≤ 1000000 * (k + 1) → lv_has ls1 8 (lvL b (ad 0) (am 0) ao (nI (8 * k))) → W p l e room_1 s m #[Value.ref b] below meth c H1 locs1 (cells + 1) (slots + 6) Q9 (F0 m 1513 ls1 [])) : W p l e room_1 s m #[Value.ref b] below meth c H locs cells slots Q9 (F0 m 1106 ls []) := by
  have hL := F.2.2.2.2.2.2
  obtain ⟨r, z1, bb, t1, e1, e2, e3, e4⟩ := op_cash R (xs (8 * k + 1)) (xs (8 * k + 2))
  have hx := F.1.1
  have hb := F.1.2.1
  refine lv_aload_n hx hb dL_law_1106 rfl (lv_at hl 2 rfl) ?_
  refine ld_c (j := 1) (k := k) F w.2.2.2 (lv_at hl 1 rfl) (lv_at hl 0 rfl) (by omega) (by decide) dL_law_1107 dL_law_1108 dL_law_1110 dL_law_1111 dL_law_1112 ?_
  refine ld_c (j := 2) (k := k) F w.2.2.2 (lv_at hl 1 rfl) (lv_at hl 0 rfl) (by omega) (by decide) dL_law_1113 dL_law_1114 dL_law_1116 dL_law_1117 dL_law_1118 ?_
  refine lv_aload_n hx hb dL_law_1119 rfl (lv_at hl 4 rfl) ?_
  refine L1_w (As := [.ref (ad 0), .int (xs (8 * k + 1)), .int (xs (8 * k + 2)), .ref ao]) (hh := [(0, 9, 12, 13), (0, 9, 16, 15)]) (r := wrL c2 f (r, z1)) F w (fun sz => mL_cash l hl0 D cI cJ cZ ad sx ao f (xs (8 * k + 1)) (xs (8 * k + 2)) z (r, z1) sz e1 (agr_ne e3)) (vx_cwSW 4 F.1.2.2.2.2 gT_L_cash rfl rfl rfl (by decide +kernel) ⟨Nat.le_of_ble_eq_true rfl, Nat.le_of_ble_eq_true rfl⟩) rfl hl hc rfl dL_law_1120 dL_law_1123 (fun H1 locs1 ls1 w hl => ?_)
  rw [wrL_z] at w
  refine lv_aload_n hx hb dL_law_1125 rfl (lv_at hl 4 rfl) ?_
  refine ld_c (j := 1) (k := k) F w.2.2.2 (lv_at hl 2 rfl) (lv_at hl 1 rfl) (by omega) (by decide) dL_law_1126 dL_law_1127 dL_law_1129 dL_law_1130 dL_law_1131 ?_
  refine ld_c (j := 2) (k := k) F w.2.2.2 (lv_at hl 2 rfl) (lv_at hl 1 rfl) (by omega) (by decide) dL_law_1132 dL_law_1133 dL_law_1135 dL_law_1136 dL_law_1137 ?_
  refine L2_l (As := [.int (xs (8 * k + 1)), .int (xs (8 * k + 2))]) (rest := []) (callee := fX5_cash (xs (8 * k + 1)) (xs (8 * k + 2)) t) (q := (bb, t1)) F w e2 (mX5_cash l D cI cJ cZ am (xs (8 * k + 1)) (xs (8 * k + 2)) t) (cwV 2 F.1.2.2.2.2 gT_X5_cash rfl rfl rfl (by decide +kernel) ⟨Nat.le_of_ble_eq_true rfl, Nat.le_of_ble_eq_true rfl⟩) rfl hl.1 hc rfl (Nat.le_of_ble_eq_true rfl) dL_law_1138 (fun H1 locs1 w => ?_)
  exact L3_l F w hl (agrL_thr e3) (agrL_val e3) hc dL_law_1141 dL_law_1143 dL_law_1144 dL_law_1147 dL_law_1149 (by decide) dL_law_1154 dL_law_1156 (by decide) dL_law_1159 dL_law_1160 dL_law_1161 dL_law_1162 dL_law_1164 dL_law_1165 (by decide) dL_law_1170 (by decide) (fun H1 locs1 ls1 w hl => kk z1 t1 _ H1 locs1 ls1 q Q n nt B o w e4 ho (by omega) (by omega) hl)
set_option maxRecDepth 100000 in
set_option maxHeartbeats 4000000 in
theorem case_shares {p : Program} {l : Launch} {e : Env} {s : State} {m : MethodId} {below : List Frame} {meth : Method} {c : Code} {H : Heap} {locs : List Loc} {cells slots : Nat} {Q9 : State → Prop} {b L : Nat} {xs : Nat → Int32} {D : va_G} {cI cJ cZ : ClassId} {ad am sx : Nat → Nat} {ao : Nat} {z t : SH} {f : Nat → Int64} {ls : Array Slot} {k : Nat} {q : Nat → Nat → Nat} {Q : Nat → List Nat} {n nt B o : Nat} (hl0 : l.stackTraces = false) (F : LF p s m c b L xs D cI cJ cZ ad am sx ao) (w : LW s D cI cJ cZ ad am ao z t f H locs) (R : Rel z t q Q n nt B o) (ho : n ≤ o) (hn : n ≤ k) (hB : B ≤ 1000000 * k) (hk : 8 * k + 8 ≤ L) (hl : lv_has ls 8 (lvL b (ad 0) (am 0) ao (nI (8 * k)))) (hc : cells + 1 ≤ 219 ∧ slots + 6 ≤ 37397)
    (kk : ∀ (z1 t1 : SH) (f1 : Nat → Int64) (H1 : Heap) (locs1 : List Loc) (ls1 : Array Slot) (q1 : Nat → Nat → Nat) (Q1 : Nat → List Nat) (n1 nt1 B1 o1 : Nat), LW s D cI cJ cZ ad am ao z1 t1 f1 H1 locs1 → Rel z1 t1 q1 Q1 n1 nt1 B1 o1 → n1 ≤ o1 → n1 ≤ k + 1 → B1 ≤ 1000000 * (k + 1) → lv_has ls1 8 (lvL b (ad 0) (am 0) ao (nI (8 * k))) → W p l e room_1 s m #[Value.ref b] below meth c H1 locs1 (cells + 1) (slots + 6) Q9 (F0 m 1513 ls1 [])) : W p l e room_1 s m #[Value.ref b] below meth c H locs cells slots Q9 (F0 m 1173 ls []) := by
  have hL := F.2.2.2.2.2.2
  obtain ⟨r, z1, bb, t1, e1, e2, e3, e4⟩ := op_shares R (xs (8 * k + 1)) (xs (8 * k + 2)) (xs (8 * k + 3))
  have hx := F.1.1
  have hb := F.1.2.1
  refine lv_aload_n hx hb dL_law_1173 rfl (lv_at hl 2 rfl) ?_
  refine ld_c (j := 1) (k := k) F w.2.2.2 (lv_at hl 1 rfl) (lv_at hl 0 rfl) (by omega) (by decide) dL_law_1174 dL_law_1175 dL_law_1177 dL_law_1178 dL_law_1179 ?_
  refine ld_c (j := 2) (k := k) F w.2.2.2 (lv_at hl 1 rfl) (lv_at hl 0 rfl) (by omega) (by decide) dL_law_1180 dL_law_1181 dL_law_1183 dL_law_1184 dL_law_1185 ?_
  refine ld_c (j := 3) (k := k) F w.2.2.2 (lv_at hl 1 rfl) (lv_at hl 0 rfl) (by omega) (by decide) dL_law_1186 dL_law_1187 dL_law_1189 dL_law_1190 dL_law_1191 ?_
  refine lv_aload_n hx hb dL_law_1192 rfl (lv_at hl 4 rfl) ?_
  refine L1_w (As := [.ref (ad 0), .int (xs (8 * k + 1)), .int (xs (8 * k + 2)), .int (xs (8 * k + 3)), .ref ao]) (hh := [(0, 12, 15, 13), (0, 12, 19, 15)]) (r := wrI c2 f (r, z1)) F w (fun sz => mL_shares l hl0 D cI cJ cZ ad sx ao f (xs (8 * k + 1)) (xs (8 * k + 2)) (xs (8 * k + 3)) z (r, z1) sz e1 (agr_ne e3)) (vx_cwSW 5 F.1.2.2.2.2 gT_L_shares rfl rfl rfl (by decide +kernel) ⟨Nat.le_of_ble_eq_true rfl, Nat.le_of_ble_eq_true rfl⟩) rfl hl hc rfl dL_law_1193 dL_law_1196 (fun H1 locs1 ls1 w hl => ?_)
  rw [wrI_z] at w
  refine lv_aload_n hx hb dL_law_1198 rfl (lv_at hl 4 rfl) ?_
  refine ld_c (j := 1) (k := k) F w.2.2.2 (lv_at hl 2 rfl) (lv_at hl 1 rfl) (by omega) (by decide) dL_law_1199 dL_law_1200 dL_law_1202 dL_law_1203 dL_law_1204 ?_
  refine ld_c (j := 2) (k := k) F w.2.2.2 (lv_at hl 2 rfl) (lv_at hl 1 rfl) (by omega) (by decide) dL_law_1205 dL_law_1206 dL_law_1208 dL_law_1209 dL_law_1210 ?_
  refine ld_c (j := 3) (k := k) F w.2.2.2 (lv_at hl 2 rfl) (lv_at hl 1 rfl) (by omega) (by decide) dL_law_1211 dL_law_1212 dL_law_1214 dL_law_1215 dL_law_1216 ?_
  refine L2_i (As := [.int (xs (8 * k + 1)), .int (xs (8 * k + 2)), .int (xs (8 * k + 3))]) (rest := []) (callee := fX5_shares (xs (8 * k + 1)) (xs (8 * k + 2)) (xs (8 * k + 3)) t) (q := (bb, t1)) F w e2 (mX5_shares l D cI cJ cZ am (xs (8 * k + 1)) (xs (8 * k + 2)) (xs (8 * k + 3)) t) (cwV 3 F.1.2.2.2.2 gT_X5_shares rfl rfl rfl (by decide +kernel) ⟨Nat.le_of_ble_eq_true rfl, Nat.le_of_ble_eq_true rfl⟩) rfl hl.1 hc rfl (Nat.le_of_ble_eq_true rfl) dL_law_1217 (fun H1 locs1 w => ?_)
  exact L3_i F w hl (agrI_thr e3) (agrI_val e3) hc dL_law_1220 dL_law_1222 dL_law_1223 dL_law_1226 dL_law_1228 (by decide) dL_law_1233 dL_law_1235 (by decide) dL_law_1238 dL_law_1239 dL_law_1240 dL_law_1241 dL_law_1243 dL_law_1244 dL_law_1245 (by decide) dL_law_1250 (by decide) (fun H1 locs1 ls1 w hl => kk z1 t1 _ H1 locs1 ls1 q Q n nt B o w e4 ho (by omega) (by omega) hl)
