def fX1_know_26 (z0 : SH) : Option (Unit × SH) :=
  some ((), z0)
def fX1_know (a1 : Int32) (z0 : SH) : Option (Unit × SH) :=
  rda z0 11 512 a1 fun v1 =>
  if v1 = 0 then (
  wra z0 11 512 a1 (vp_nar .boolean 1) fun z2 =>
  rdi z2 1 fun v3 =>
  wri z2 1 (v3 + 1) fun z4 =>
  fX1_know_26 z4)
  else
  fX1_know_26 z0
def fX1_freeCash (a1 : Int32) (z0 : SH) : Option (Int64 × SH) :=
  rdl z0 5 512 a1 fun v1 =>
  rdl z0 6 512 a1 fun v2 =>
  some (v1 - v2, z0)
def fX1_placeOf (a1 : Int32) (a2 : Int32) (z0 : SH) : Option (Int32 × SH) :=
  some ((a1 * 4) + a2, z0)
def fX1_canHold_58 (t0 : Int32) (z0 : SH) : Option (Int32 × SH) :=
  gdb (isB t0) (some (t0, z0))
def fX1_canHold_25 (t0 : Int32) (z0 : SH) : Option (Int32 × SH) :=
  gdb (isB t0) (some (t0, z0))
def fX1_canHold (a1 : Int32) (a2 : Int32) (a3 : Int32) (a4 : Int32) (a5 : Int32) (z0 : SH) : Option (Int32 × SH) :=
  if a3 = 0 then (
  bnd (fX1_freeCash a1 z0) fun v6 z5 =>
  if lg_cmp v6 ((a4.toInt64) * (a5.toInt64)) < 0 then (
  fX1_canHold_25 0 z5)
  else
  fX1_canHold_25 1 z5)
  else
  bnd (fX1_placeOf a1 a2 z0) fun v2 z1 =>
  rda z1 7 2048 v2 fun v3 =>
  rda z1 8 2048 v2 fun v4 =>
  if v3 - v4 < a5 then (
  fX1_canHold_58 0 z1)
  else
  fX1_canHold_58 1 z1
def fX2_take (a1 : Int32) (a2 : Int32) (a3 : Int32) (a4 : Int32) (a5 : Int32) (a6 : Int32) (a7 : Int32) (z0 : SH) : Option (Int32 × SH) :=
  rdi z0 2 fun v1 =>
  wra z0 12 512 v1 a1 fun z2 =>
  wra z2 13 512 v1 a2 fun z3 =>
  wra z3 14 512 v1 a3 fun z4 =>
  wra z4 15 512 v1 a4 fun z5 =>
  wra z5 16 512 v1 a5 fun z6 =>
  wra z6 17 512 v1 a7 fun z7 =>
  wra z7 18 512 v1 a6 fun z8 =>
  wra z8 20 512 v1 1 fun z9 =>
  rdi z9 2 fun v10 =>
  wri z9 2 (v10 + 1) fun z11 =>
  rdi z11 3 fun v12 =>
  wri z11 3 (v12 + 1) fun z13 =>
  some (v1, z13)
def fX4_hold_75 (z0 : SH) : Option (Unit × SH) :=
  some ((), z0)
def fX4_hold (a1 : Int32) (a2 : Int32) (z0 : SH) : Option (Unit × SH) :=
  rda z0 12 512 a1 fun v1 =>
  rda z0 14 512 a1 fun v2 =>
  if v2 = 0 then (
  rdl z0 6 512 v1 fun v8 =>
  rda z0 16 512 a1 fun v9 =>
  wrl z0 6 512 v1 (v8 + ((v9.toInt64) * (a2.toInt64))) fun z10 =>
  fX4_hold_75 z10)
  else
  rda z0 13 512 a1 fun v3 =>
  bnd (fX1_placeOf v1 v3 z0) fun v5 z4 =>
  rda z4 8 2048 v5 fun v6 =>
  wra z4 8 2048 v5 (v6 + a2) fun z7 =>
  fX4_hold_75 z7
def fX4_close (a1 : Int32) (a2 : Int32) (z0 : SH) : Option (Unit × SH) :=
  rda z0 18 512 a1 fun v1 =>
  bnd (fX4_hold a1 (-v1) z0) fun _ z2 =>
  wra z2 18 512 a1 0 fun z3 =>
  wra z3 19 512 a1 0 fun z4 =>
  wra z4 20 512 a1 a2 fun z5 =>
  rdi z5 3 fun v6 =>
  wri z5 3 (v6 - 1) fun z7 =>
  some ((), z7)
def fX0_bookOf (a1 : Int32) (a2 : Int32) (z0 : SH) : Option (Int32 × SH) :=
  some ((a1 * 2) + a2, z0)
def fX0_facing (a1 : Int32) (z0 : SH) : Option (Int32 × SH) :=
  rda z0 13 512 a1 fun v1 =>
  rda z0 14 512 a1 fun v2 =>
  bnd (fX0_bookOf v1 (1 - v2) z0) fun v4 z3 =>
  some (v4, z3)
def fX0_orderAt_14 (z0 : SH) : Option (Int32 × SH) :=
  some ((-1), z0)
def fX0_orderAt (a1 : Int32) (a2 : Int32) (z0 : SH) : Option (Int32 × SH) :=
  if a2 < 0 then (
  fX0_orderAt_14 z0)
  else
  rda z0 24 8 a1 fun v1 =>
  if a2 < v1 then (
  rda z0 24 8 a1 fun v2 =>
  rda z0 23 800 ((((a1 * 100) + v2) - 1) - a2) fun v3 =>
  some (v3, z0))
  else
  fX0_orderAt_14 z0
def fX2_pricesAllow_52 (t0 : Int32) (z0 : SH) : Option (Int32 × SH) :=
  gdb (isB t0) (some (t0, z0))
def fX2_pricesAllow (a1 : Int32) (a2 : Int32) (z0 : SH) : Option (Int32 × SH) :=
  rda z0 14 512 a1 fun v1 =>
  if v1 = 0 then (
  rda z0 16 512 a2 fun v4 =>
  rda z0 16 512 a1 fun v5 =>
  if v5 < v4 then (
  fX2_pricesAllow_52 0 z0)
  else
  fX2_pricesAllow_52 1 z0)
  else
  rda z0 16 512 a2 fun v2 =>
  rda z0 16 512 a1 fun v3 =>
  if v2 < v3 then (
  fX2_pricesAllow_52 0 z0)
  else
  fX2_pricesAllow_52 1 z0
def fX4_meetsOther_39 (t0 : Int32) (z0 : SH) : Option (Int32 × SH) :=
  gdb (isB t0) (some (t0, z0))
def fX4_meetsOther_38 (z0 : SH) : Option (Int32 × SH) :=
  fX4_meetsOther_39 0 z0
def fX4_meetsOther (a1 : Int32) (z0 : SH) : Option (Int32 × SH) :=
  bnd (fX0_facing a1 z0) fun v2 z1 =>
  bnd (fX0_orderAt v2 0 z1) fun v4 z3 =>
  if v4 = (-1) then (
  fX4_meetsOther_38 z3)
  else
  bnd (fX2_pricesAllow a1 v4 z3) fun v6 z5 =>
  if v6 = 0 then (
  fX4_meetsOther_38 z5)
  else
  fX4_meetsOther_39 1 z5
def fX0_putLast_135 (N : Nat) (x1 : Int32) (x2 : Int32) (x6 : Int32) (z0 : SH) : Option (Unit × SH) :=
  wra z0 23 800 x6 x1 fun z1 =>
  rda z1 24 8 x2 fun v2 =>
  wra z1 24 8 x2 (v2 + 1) fun z3 =>
  some ((), z3)
def fX0_putLast_82 (N : Nat) (k82 : Int32 → Int32 → Int32 → Int32 → Int32 → Int32 → SH → Option (Unit × SH)) (x1 : Int32) (x2 : Int32) (x3 : Int32) (x4 : Int32) (x5 : Int32) (x6 : Int32) (z0 : SH) : Option (Unit × SH) :=
  if x6 ≤ x5 then (
  fX0_putLast_135 N x1 x2 x6 z0)
  else
  rda z0 23 800 (x6 - 1) fun v1 =>
  rda z0 16 512 v1 fun v2 =>
  if x3 * v2 < x4 then (
  fX0_putLast_135 N x1 x2 x6 z0)
  else
  rda z0 23 800 (x6 - 1) fun v3 =>
  wra z0 23 800 x6 v3 fun z4 =>
  k82 x1 x2 x3 x4 x5 (x6 + (-1)) z4
def fX0_putLast_82_L (N : Nat) : Nat → Int32 → Int32 → Int32 → Int32 → Int32 → Int32 → SH → Option (Unit × SH)
  | 0 => fun _ _ _ _ _ _ _ => none
  | n + 1 => fun x1 x2 x3 x4 x5 x6 z0 => fX0_putLast_82 N (fX0_putLast_82_L N n) x1 x2 x3 x4 x5 x6 z0
def fX0_putLast_51 (N : Nat) (x1 : Int32) (x2 : Int32) (t0 : Int32) (z0 : SH) : Option (Unit × SH) :=
  rda z0 16 512 x1 fun v1 =>
  rda z0 24 8 x2 fun v2 =>
  fX0_putLast_82_L N N x1 x2 t0 (t0 * v1) (x2 * 100) ((x2 * 100) + v2) z0
def fX0_putLast (N : Nat) (a1 : Int32) (z0 : SH) : Option (Unit × SH) :=
  rda z0 13 512 a1 fun v1 =>
  rda z0 14 512 a1 fun v2 =>
  bnd (fX0_bookOf v1 v2 z0) fun v4 z3 =>
  rda z3 24 8 v4 fun v5 =>
  if v5 < 100 then (
  rda z3 14 512 a1 fun v6 =>
  if v6 = 0 then (
  fX0_putLast_51 N a1 v4 1 z3)
  else
  fX0_putLast_51 N a1 v4 ((-1)) z3)
  else
  some ((), z3)
def fX4_rest_48 (N : Nat) (x1 : Int32) (t0 : Int32) (t1 : Int32) (z0 : SH) : Option (Unit × SH) :=
  wra z0 19 512 t1 t0 fun z1 =>
  wra z1 20 512 x1 0 fun z2 =>
  bnd (fX0_putLast N x1 z2) fun _ z3 =>
  some ((), z3)
def fX4_rest (N : Nat) (a1 : Int32) (z0 : SH) : Option (Unit × SH) :=
  rda z0 18 512 a1 fun v1 =>
  rda z0 15 512 a1 fun v2 =>
  if v2 = 4 then (
  rda z0 17 512 a1 fun v3 =>
  fX4_rest_48 N a1 (if v1 < v3 then v1 else v3) a1 z0)
  else
  fX4_rest_48 N a1 v1 a1 z0
def fX1_handOver (a1 : Int32) (a2 : Int32) (a3 : Int32) (a4 : Int32) (a5 : Int32) (z0 : SH) : Option (Unit × SH) :=
  rdl z0 5 512 a1 fun v1 =>
  wrl z0 5 512 a1 (v1 - ((a4.toInt64) * (a5.toInt64))) fun z2 =>
  rdl z2 5 512 a2 fun v3 =>
  wrl z2 5 512 a2 (v3 + ((a4.toInt64) * (a5.toInt64))) fun z4 =>
  bnd (fX1_placeOf a1 a3 z4) fun v6 z5 =>
  bnd (fX1_placeOf a2 a3 z5) fun v8 z7 =>
  rda z7 7 2048 v6 fun v9 =>
  wra z7 7 2048 v6 (v9 + a5) fun z10 =>
  rda z10 9 2048 v6 fun v11 =>
  wra z10 9 2048 v6 (v11 + a5) fun z12 =>
  rda z12 7 2048 v8 fun v13 =>
  wra z12 7 2048 v8 (v13 - a5) fun z14 =>
  rda z14 10 2048 v8 fun v15 =>
  wra z14 10 2048 v8 (v15 + a5) fun z16 =>
  some ((), z16)
def fX2_fill (a1 : Int32) (a2 : Int32) (z0 : SH) : Option (Unit × SH) :=
  rda z0 18 512 a1 fun v1 =>
  wra z0 18 512 a1 (v1 - a2) fun z2 =>
  rda z2 22 512 a1 fun v3 =>
  wra z2 22 512 a1 (v3 + a2) fun z4 =>
  some ((), z4)
def fX3_note_92 (x1 : Int32) (x4 : Int32) (x5 : Int32) (t0 : Int32) (t1 : Int32) (z0 : SH) : Option (Unit × SH) :=
  wra z0 31 4 t1 t0 fun z1 =>
  rda z1 30 4 x1 fun v2 =>
  wra z1 30 4 x1 (if v2 < x4 then x4 else v2) fun z3 =>
  wra z3 29 4 x1 x4 fun z4 =>
  rda z4 32 4 x1 fun v5 =>
  wra z4 32 4 x1 (v5 + x5) fun z6 =>
  some ((), z6)
def fX3_note_52 (x1 : Int32) (x4 : Int32) (x5 : Int32) (z0 : SH) : Option (Unit × SH) :=
  rdi z0 4 fun v1 =>
  wri z0 4 (v1 + 1) fun z2 =>
  rda z2 29 4 x1 fun v3 =>
  if v3 = 0 then (
  fX3_note_92 x1 x4 x5 x4 x1 z2)
  else
  rda z2 31 4 x1 fun v4 =>
  fX3_note_92 x1 x4 x5 (if x4 < v4 then x4 else v4) x1 z2
def fX3_note (a1 : Int32) (a2 : Int32) (a3 : Int32) (a4 : Int32) (a5 : Int32) (z0 : SH) : Option (Unit × SH) :=
  rdi z0 4 fun v1 =>
  if 300 ≤ v1 then (
  fX3_note_52 a1 a4 a5 z0)
  else
  rdi z0 4 fun v2 =>
  wra z0 25 300 v2 a2 fun z3 =>
  rdi z3 4 fun v4 =>
  wra z3 26 300 v4 a3 fun z5 =>
  rdi z5 4 fun v6 =>
  wra z5 27 300 v6 a4 fun z7 =>
  rdi z7 4 fun v8 =>
  wra z7 28 300 v8 a5 fun z9 =>
  fX3_note_52 a1 a4 a5 z9
def fX4_makeTrade_78 (x1 : Int32) (x2 : Int32) (x3 : Int32) (x4 : Int32) (x5 : Int32) (x7 : Int32) (t0 : Int32) (z0 : SH) : Option (Unit × SH) :=
  rda z0 12 512 t0 fun v1 =>
  bnd (fX4_hold x1 (-x3) z0) fun _ z2 =>
  bnd (fX4_hold x2 (-x3) z2) fun _ z3 =>
  bnd (fX1_handOver x7 v1 x5 x4 x3 z3) fun _ z4 =>
  bnd (fX2_fill x1 x3 z4) fun _ z5 =>
  bnd (fX2_fill x2 x3 z5) fun _ z6 =>
  bnd (fX3_note x5 x1 x2 x4 x3 z6) fun _ z7 =>
  some ((), z7)
def fX4_makeTrade_58 (x1 : Int32) (x2 : Int32) (x3 : Int32) (x4 : Int32) (x5 : Int32) (x6 : Int32) (t0 : Int32) (z0 : SH) : Option (Unit × SH) :=
  rda z0 12 512 t0 fun v1 =>
  if x6 = 0 then (
  fX4_makeTrade_78 x1 x2 x3 x4 x5 v1 x1 z0)
  else
  fX4_makeTrade_78 x1 x2 x3 x4 x5 v1 x2 z0
def fX4_makeTrade_39 (x1 : Int32) (x2 : Int32) (x3 : Int32) (x4 : Int32) (x5 : Int32) (t0 : Int32) (z0 : SH) : Option (Unit × SH) :=
  if t0 = 0 then (
  fX4_makeTrade_58 x1 x2 x3 x4 x5 t0 x2 z0)
  else
  fX4_makeTrade_58 x1 x2 x3 x4 x5 t0 x1 z0
def fX4_makeTrade (a1 : Int32) (a2 : Int32) (a3 : Int32) (z0 : SH) : Option (Unit × SH) :=
  rda z0 16 512 a2 fun v1 =>
  rda z0 13 512 a2 fun v2 =>
  rda z0 14 512 a1 fun v3 =>
  if v3 = 0 then (
  fX4_makeTrade_39 a1 a2 a3 v1 v2 1 z0)
  else
  fX4_makeTrade_39 a1 a2 a3 v1 v2 0 z0
def fX0_drop_77 (N : Nat) (k77 : Int32 → Int32 → Int32 → SH → Option (Unit × SH)) (x2 : Int32) (x4 : Int32) (x6 : Int32) (z0 : SH) : Option (Unit × SH) :=
  if x4 ≤ x6 then (
  rda z0 24 8 x2 fun v1 =>
  wra z0 24 8 x2 (v1 - 1) fun z2 =>
  some ((), z2))
  else
  rda z0 23 800 (x6 + 1) fun v3 =>
  wra z0 23 800 x6 v3 fun z4 =>
  k77 x2 x4 (x6 + 1) z4
def fX0_drop_77_L (N : Nat) : Nat → Int32 → Int32 → Int32 → SH → Option (Unit × SH)
  | 0 => fun _ _ _ _ => none
  | n + 1 => fun x2 x4 x6 z0 => fX0_drop_77 N (fX0_drop_77_L N n) x2 x4 x6 z0
def fX0_drop_66 (N : Nat) (x2 : Int32) (x3 : Int32) (x4 : Int32) (x5 : Int32) (z0 : SH) : Option (Unit × SH) :=
  if x3 ≤ x5 then (
  fX0_drop_77_L N N x2 x4 x5 z0)
  else
  some ((), z0)
def fX0_drop_43 (N : Nat) (k43 : Int32 → Int32 → Int32 → Int32 → Int32 → SH → Option (Unit × SH)) (x1 : Int32) (x2 : Int32) (x3 : Int32) (x4 : Int32) (x5 : Int32) (z0 : SH) : Option (Unit × SH) :=
  if x5 < x3 then (
  fX0_drop_66 N x2 x3 x4 x5 z0)
  else
  rda z0 23 800 x5 fun v1 =>
  if v1 = x1 then (
  fX0_drop_66 N x2 x3 x4 x5 z0)
  else
  k43 x1 x2 x3 x4 (x5 + (-1)) z0
def fX0_drop_43_L (N : Nat) : Nat → Int32 → Int32 → Int32 → Int32 → Int32 → SH → Option (Unit × SH)
  | 0 => fun _ _ _ _ _ _ => none
  | n + 1 => fun x1 x2 x3 x4 x5 z0 => fX0_drop_43 N (fX0_drop_43_L N n) x1 x2 x3 x4 x5 z0
def fX0_drop (N : Nat) (a1 : Int32) (z0 : SH) : Option (Unit × SH) :=
  rda z0 13 512 a1 fun v1 =>
  rda z0 14 512 a1 fun v2 =>
  bnd (fX0_bookOf v1 v2 z0) fun v4 z3 =>
  rda z3 24 8 v4 fun v5 =>
  fX0_drop_43_L N N a1 v4 (v4 * 100) (((v4 * 100) + v5) - 1) (((v4 * 100) + v5) - 1) z3
def fX4_showLess_60 (N : Nat) (z0 : SH) : Option (Unit × SH) :=
  some ((), z0)
def fX4_showLess (N : Nat) (a1 : Int32) (a2 : Int32) (z0 : SH) : Option (Unit × SH) :=
  rda z0 19 512 a1 fun v1 =>
  wra z0 19 512 a1 (v1 - a2) fun z2 =>
  rda z2 19 512 a1 fun v3 =>
  if v3 ≤ 0 then (
  bnd (fX0_drop N a1 z2) fun _ z4 =>
  rda z4 18 512 a1 fun v5 =>
  if v5 = 0 then (
  bnd (fX4_close a1 2 z4) fun _ z7 =>
  fX4_showLess_60 N z7)
  else
  bnd (fX4_rest N a1 z4) fun _ z6 =>
  fX4_showLess_60 N z6)
  else
  some ((), z2)
def fX4_tradeUntilStopped_133 (N : Nat) (z0 : SH) : Option (Int32 × SH) :=
  gdb (isB 0) (some (0, z0))
def fX4_tradeUntilStopped_60 (N : Nat) (z0 : SH) : Option (Int32 × SH) :=
  gdb (isB 0) (some (0, z0))
def fX4_tradeUntilStopped_11 (N : Nat) (k11 : Int32 → Int32 → Int32 → SH → Option (Int32 × SH)) (x1 : Int32) (x2 : Int32) (x3 : Int32) (z0 : SH) : Option (Int32 × SH) :=
  if 10000 ≤ x3 then (
  fX4_tradeUntilStopped_133 N z0)
  else
  rda z0 18 512 x1 fun v1 =>
  if v1 ≤ 0 then (
  fX4_tradeUntilStopped_133 N z0)
  else
  bnd (fX0_orderAt x2 0 z0) fun v3 z2 =>
  if v3 = (-1) then (
  fX4_tradeUntilStopped_60 N z2)
  else
  bnd (fX2_pricesAllow x1 v3 z2) fun v5 z4 =>
  if v5 = 0 then (
  fX4_tradeUntilStopped_60 N z4)
  else
  rda z4 12 512 v3 fun v6 =>
  rda z4 12 512 x1 fun v7 =>
  if v6 = v7 then (
  gdb (isB 1) (some (1, z4)))
  else
  rda z4 18 512 x1 fun v8 =>
  rda z4 19 512 v3 fun v9 =>
  bnd (fX4_makeTrade x1 v3 (if v9 < v8 then v9 else v8) z4) fun _ z10 =>
  bnd (fX4_showLess N v3 (if v9 < v8 then v9 else v8) z10) fun _ z11 =>
  k11 x1 x2 (x3 + 1) z11
def fX4_tradeUntilStopped_11_L (N : Nat) : Nat → Int32 → Int32 → Int32 → SH → Option (Int32 × SH)
  | 0 => fun _ _ _ _ => none
  | n + 1 => fun x1 x2 x3 z0 => fX4_tradeUntilStopped_11 N (fX4_tradeUntilStopped_11_L N n) x1 x2 x3 z0
def fX4_tradeUntilStopped (N : Nat) (a1 : Int32) (z0 : SH) : Option (Int32 × SH) :=
  bnd (fX0_facing a1 z0) fun v2 z1 =>
  fX4_tradeUntilStopped_11_L N N a1 v2 0 z1
def fX4_wouldTradeWholly_210 (N : Nat) (t0 : Int32) (z0 : SH) : Option (Int32 × SH) :=
  gdb (isB t0) (some (t0, z0))
def fX4_wouldTradeWholly_189 (N : Nat) (x1 : Int32) (x3 : Int32) (x4 : Int32) (z0 : SH) : Option (Int32 × SH) :=
  rda z0 18 512 x1 fun v1 =>
  if x3 + x4 < v1 then (
  fX4_wouldTradeWholly_210 N 0 z0)
  else
  fX4_wouldTradeWholly_210 N 1 z0
def fX4_wouldTradeWholly_152 (N : Nat) (t0 : Int32) (z0 : SH) : Option (Int32 × SH) :=
  gdb (isB t0) (some (t0, z0))
def fX4_wouldTradeWholly_109 (N : Nat) (k23 : Int32 → Int32 → Int32 → Int32 → Int32 → Int32 → Int32 → SH → Option (Int32 × SH)) (x1 : Int32) (x2 : Int32) (x3 : Int32) (x4 : Int32) (x5 : Int32) (x6 : Int32) (x7 : Int32) (x8 : Int32) (z0 : SH) : Option (Int32 × SH) :=
  rda z0 12 512 x8 fun v1 =>
  rda z0 12 512 x1 fun v2 =>
  if v1 = v2 then (
  rda z0 18 512 x1 fun v5 =>
  if x3 + x5 < v5 then (
  fX4_wouldTradeWholly_152 N 0 z0)
  else
  fX4_wouldTradeWholly_152 N 1 z0)
  else
  rda z0 18 512 x8 fun v3 =>
  rda z0 19 512 x8 fun v4 =>
  k23 x1 x2 x3 (x4 + v3) (x5 + v4) x6 (x7 + 1) z0
def fX4_wouldTradeWholly_23 (N : Nat) (k23 : Int32 → Int32 → Int32 → Int32 → Int32 → Int32 → Int32 → SH → Option (Int32 × SH)) (x1 : Int32) (x2 : Int32) (x3 : Int32) (x4 : Int32) (x5 : Int32) (x6 : Int32) (x7 : Int32) (z0 : SH) : Option (Int32 × SH) :=
  rda z0 24 8 x2 fun v1 =>
  if v1 ≤ x7 then (
  fX4_wouldTradeWholly_189 N x1 x3 x4 z0)
  else
  bnd (fX0_orderAt x2 x7 z0) fun v3 z2 =>
  if v3 = (-1) then (
  fX4_wouldTradeWholly_189 N x1 x3 x4 z2)
  else
  bnd (fX2_pricesAllow x1 v3 z2) fun v5 z4 =>
  if v5 = 0 then (
  fX4_wouldTradeWholly_189 N x1 x3 x4 z4)
  else
  rda z4 16 512 v3 fun v6 =>
  if v6 = x6 then (
  fX4_wouldTradeWholly_109 N k23 x1 x2 x3 x4 x5 x6 x7 v3 z4)
  else
  rda z4 16 512 v3 fun v7 =>
  fX4_wouldTradeWholly_109 N k23 x1 x2 (x3 + x4) 0 0 v7 x7 v3 z4
def fX4_wouldTradeWholly_23_L (N : Nat) : Nat → Int32 → Int32 → Int32 → Int32 → Int32 → Int32 → Int32 → SH → Option (Int32 × SH)
  | 0 => fun _ _ _ _ _ _ _ _ => none
  | n + 1 => fun x1 x2 x3 x4 x5 x6 x7 z0 => fX4_wouldTradeWholly_23 N (fX4_wouldTradeWholly_23_L N n) x1 x2 x3 x4 x5 x6 x7 z0
def fX4_wouldTradeWholly (N : Nat) (a1 : Int32) (z0 : SH) : Option (Int32 × SH) :=
  bnd (fX0_facing a1 z0) fun v2 z1 =>
  fX4_wouldTradeWholly_23_L N N a1 v2 0 0 0 0 0 z1
def fX4_actByKind_114 (N : Nat) (z0 : SH) : Option (Unit × SH) :=
  some ((), z0)
def fX4_actByKind_100 (N : Nat) (x1 : Int32) (z0 : SH) : Option (Unit × SH) :=
  bnd (fX4_close x1 3 z0) fun _ z1 =>
  fX4_actByKind_114 N z1
def fX4_actByKind_64 (N : Nat) (x1 : Int32) (x2 : Int32) (z0 : SH) : Option (Unit × SH) :=
  bnd (fX4_tradeUntilStopped N x1 z0) fun v2 z1 =>
  rda z1 18 512 x1 fun v3 =>
  if v3 = 0 then (
  bnd (fX4_close x1 2 z1) fun _ z5 =>
  fX4_actByKind_114 N z5)
  else
  if v2 = 0 then (
  if x2 = 1 then (
  fX4_actByKind_100 N x1 z1)
  else
  bnd (fX4_rest N x1 z1) fun _ z4 =>
  fX4_actByKind_114 N z4)
  else
  fX4_actByKind_100 N x1 z1
def fX4_actByKind_43 (N : Nat) (z0 : SH) : Option (Unit × SH) :=
  some ((), z0)
def fX4_actByKind (N : Nat) (a1 : Int32) (z0 : SH) : Option (Unit × SH) :=
  rda z0 15 512 a1 fun v1 =>
  if v1 = 5 then (
  some ((), z0))
  else
  if v1 = 3 then (
  bnd (fX4_meetsOther a1 z0) fun v6 z5 =>
  if v6 = 0 then (
  bnd (fX4_rest N a1 z5) fun _ z7 =>
  fX4_actByKind_43 N z7)
  else
  bnd (fX4_close a1 3 z5) fun _ z8 =>
  fX4_actByKind_43 N z8)
  else
  if v1 = 2 then (
  bnd (fX4_wouldTradeWholly N a1 z0) fun v3 z2 =>
  if v3 = 0 then (
  bnd (fX4_close a1 3 z2) fun _ z4 =>
  some ((), z4))
  else
  fX4_actByKind_64 N a1 v1 z2)
  else
  fX4_actByKind_64 N a1 v1 z0
def fX2_isWokenBy_54 (t0 : Int32) (z0 : SH) : Option (Int32 × SH) :=
  gdb (isB t0) (some (t0, z0))
def fX2_isWokenBy (a1 : Int32) (a2 : Int32) (z0 : SH) : Option (Int32 × SH) :=
  rda z0 20 512 a1 fun v1 =>
  if v1 = 1 then (
  rda z0 14 512 a1 fun v2 =>
  if v2 = 0 then (
  rda z0 17 512 a1 fun v4 =>
  if a2 < v4 then (
  fX2_isWokenBy_54 0 z0)
  else
  fX2_isWokenBy_54 1 z0)
  else
  rda z0 17 512 a1 fun v3 =>
  if v3 < a2 then (
  fX2_isWokenBy_54 0 z0)
  else
  fX2_isWokenBy_54 1 z0)
  else
  gdb (isB 0) (some (0, z0))
def fX4_wakeStop_66 (N : Nat) (k18 : Int32 → Int32 → Int32 → SH → Option (Int32 × SH)) (x1 : Int32) (x2 : Int32) (x3 : Int32) (z0 : SH) : Option (Int32 × SH) :=
  k18 x1 x2 (x3 + 1) z0
def fX4_wakeStop_18 (N : Nat) (k18 : Int32 → Int32 → Int32 → SH → Option (Int32 × SH)) (x1 : Int32) (x2 : Int32) (x3 : Int32) (z0 : SH) : Option (Int32 × SH) :=
  rdi z0 2 fun v1 =>
  if v1 ≤ x3 then (
  some ((-1), z0))
  else
  rda z0 13 512 x3 fun v2 =>
  if v2 = x1 then (
  bnd (fX2_isWokenBy x3 x2 z0) fun v4 z3 =>
  if v4 = 0 then (
  fX4_wakeStop_66 N k18 x1 x2 x3 z3)
  else
  wra z3 15 512 x3 0 fun z5 =>
  some (x3, z5))
  else
  fX4_wakeStop_66 N k18 x1 x2 x3 z0
def fX4_wakeStop_18_L (N : Nat) : Nat → Int32 → Int32 → Int32 → SH → Option (Int32 × SH)
  | 0 => fun _ _ _ _ => none
  | n + 1 => fun x1 x2 x3 z0 => fX4_wakeStop_18 N (fX4_wakeStop_18_L N n) x1 x2 x3 z0
def fX4_wakeStop (N : Nat) (a1 : Int32) (z0 : SH) : Option (Int32 × SH) :=
  rda z0 29 4 a1 fun v1 =>
  if v1 = 0 then (
  some ((-1), z0))
  else
  fX4_wakeStop_18_L N N a1 v1 0 z0
def fX2_isThere_24 (t0 : Int32) (z0 : SH) : Option (Int32 × SH) :=
  gdb (isB t0) (some (t0, z0))
def fX2_isThere_19 (z0 : SH) : Option (Int32 × SH) :=
  fX2_isThere_24 1 z0
def fX2_isThere (a1 : Int32) (z0 : SH) : Option (Int32 × SH) :=
  rda z0 20 512 a1 fun v1 =>
  if v1 = 0 then (
  fX2_isThere_19 z0)
  else
  rda z0 20 512 a1 fun v2 =>
  if v2 = 1 then (
  fX2_isThere_19 z0)
  else
  fX2_isThere_24 0 z0
def fX4_takeAway_20 (N : Nat) (x1 : Int32) (z0 : SH) : Option (Unit × SH) :=
  bnd (fX4_close x1 3 z0) fun _ z1 =>
  some ((), z1)
def fX4_takeAway (N : Nat) (a1 : Int32) (z0 : SH) : Option (Unit × SH) :=
  rda z0 20 512 a1 fun v1 =>
  if v1 = 0 then (
  bnd (fX0_drop N a1 z0) fun _ z2 =>
  fX4_takeAway_20 N a1 z2)
  else
  fX4_takeAway_20 N a1 z0
def fX0_countPrices_52 (N : Nat) (k7 : Int32 → Int32 → Int32 → Int32 → SH → Option (Int32 × SH)) (x1 : Int32) (x2 : Int32) (x3 : Int32) (x4 : Int32) (z0 : SH) : Option (Int32 × SH) :=
  k7 x1 x2 x3 (x4 + 1) z0
def fX0_countPrices_7 (N : Nat) (k7 : Int32 → Int32 → Int32 → Int32 → SH → Option (Int32 × SH)) (x1 : Int32) (x2 : Int32) (x3 : Int32) (x4 : Int32) (z0 : SH) : Option (Int32 × SH) :=
  rda z0 24 8 x1 fun v1 =>
  if v1 ≤ x4 then (
  some (x2, z0))
  else
  rda z0 23 800 ((x1 * 100) + x4) fun v2 =>
  rda z0 16 512 v2 fun v3 =>
  if v3 = x3 then (
  fX0_countPrices_52 N k7 x1 x2 x3 x4 z0)
  else
  fX0_countPrices_52 N k7 x1 (x2 + 1) v3 x4 z0
def fX0_countPrices_7_L (N : Nat) : Nat → Int32 → Int32 → Int32 → Int32 → SH → Option (Int32 × SH)
  | 0 => fun _ _ _ _ _ => none
  | n + 1 => fun x1 x2 x3 x4 z0 => fX0_countPrices_7 N (fX0_countPrices_7_L N n) x1 x2 x3 x4 z0
def fX0_countPrices (N : Nat) (a1 : Int32) (z0 : SH) : Option (Int32 × SH) :=
  fX0_countPrices_7_L N N a1 0 0 0 z0
def fX0_sumShown_70 (N : Nat) (k13 : Int32 → Int32 → Int32 → Int32 → Int32 → SH → Option (Int32 × SH)) (x1 : Int32) (x2 : Int32) (x3 : Int32) (x4 : Int32) (x5 : Int32) (z0 : SH) : Option (Int32 × SH) :=
  k13 x1 x2 x3 x4 (x5 + (-1)) z0
def fX0_sumShown_13 (N : Nat) (k13 : Int32 → Int32 → Int32 → Int32 → Int32 → SH → Option (Int32 × SH)) (x1 : Int32) (x2 : Int32) (x3 : Int32) (x4 : Int32) (x5 : Int32) (z0 : SH) : Option (Int32 × SH) :=
  if x5 < 0 then (
  some (x4, z0))
  else
  rda z0 23 800 ((x1 * 100) + x5) fun v1 =>
  if v1 = x3 then (
  some (x4, z0))
  else
  rda z0 16 512 v1 fun v2 =>
  if v2 = x2 then (
  rda z0 19 512 v1 fun v3 =>
  fX0_sumShown_70 N k13 x1 x2 x3 (x4 + v3) x5 z0)
  else
  fX0_sumShown_70 N k13 x1 x2 x3 x4 x5 z0
def fX0_sumShown_13_L (N : Nat) : Nat → Int32 → Int32 → Int32 → Int32 → Int32 → SH → Option (Int32 × SH)
  | 0 => fun _ _ _ _ _ _ => none
  | n + 1 => fun x1 x2 x3 x4 x5 z0 => fX0_sumShown_13 N (fX0_sumShown_13_L N n) x1 x2 x3 x4 x5 z0
def fX0_sumShown (N : Nat) (a1 : Int32) (a2 : Int32) (a3 : Int32) (z0 : SH) : Option (Int32 × SH) :=
  rda z0 24 8 a1 fun v1 =>
  fX0_sumShown_13_L N N a1 a2 a3 0 (v1 - 1) z0
def fX0_countOrders_43 (N : Nat) (k5 : Int32 → Int32 → Int32 → Int32 → SH → Option (Int32 × SH)) (x1 : Int32) (x2 : Int32) (x3 : Int32) (x4 : Int32) (z0 : SH) : Option (Int32 × SH) :=
  k5 x1 x2 x3 (x4 + 1) z0
def fX0_countOrders_5 (N : Nat) (k5 : Int32 → Int32 → Int32 → Int32 → SH → Option (Int32 × SH)) (x1 : Int32) (x2 : Int32) (x3 : Int32) (x4 : Int32) (z0 : SH) : Option (Int32 × SH) :=
  rda z0 24 8 x1 fun v1 =>
  if v1 ≤ x4 then (
  some (x3, z0))
  else
  rda z0 23 800 ((x1 * 100) + x4) fun v2 =>
  rda z0 16 512 v2 fun v3 =>
  if v3 = x2 then (
  fX0_countOrders_43 N k5 x1 x2 (x3 + 1) x4 z0)
  else
  fX0_countOrders_43 N k5 x1 x2 x3 x4 z0
def fX0_countOrders_5_L (N : Nat) : Nat → Int32 → Int32 → Int32 → Int32 → SH → Option (Int32 × SH)
  | 0 => fun _ _ _ _ _ => none
  | n + 1 => fun x1 x2 x3 x4 z0 => fX0_countOrders_5 N (fX0_countOrders_5_L N n) x1 x2 x3 x4 z0
def fX0_countOrders (N : Nat) (a1 : Int32) (a2 : Int32) (z0 : SH) : Option (Int32 × SH) :=
  fX0_countOrders_5_L N N a1 a2 0 0 z0
def fX0_priceOfLevel_56 (N : Nat) (k15 : Int32 → Int32 → Int32 → Int32 → Int32 → SH → Option (Int32 × SH)) (x1 : Int32) (x2 : Int32) (x3 : Int32) (x4 : Int32) (x5 : Int32) (x6 : Int32) (z0 : SH) : Option (Int32 × SH) :=
  if x3 = x2 then (
  some (x6, z0))
  else
  k15 x1 x2 x3 x4 (x5 + (-1)) z0
def fX0_priceOfLevel_15 (N : Nat) (k15 : Int32 → Int32 → Int32 → Int32 → Int32 → SH → Option (Int32 × SH)) (x1 : Int32) (x2 : Int32) (x3 : Int32) (x4 : Int32) (x5 : Int32) (z0 : SH) : Option (Int32 × SH) :=
  if x5 < 0 then (
  some ((-1), z0))
  else
  rda z0 23 800 ((x1 * 100) + x5) fun v1 =>
  rda z0 16 512 v1 fun v2 =>
  if v2 = x4 then (
  fX0_priceOfLevel_56 N k15 x1 x2 x3 x4 x5 v2 z0)
  else
  fX0_priceOfLevel_56 N k15 x1 x2 (x3 + 1) v2 x5 v2 z0
def fX0_priceOfLevel_15_L (N : Nat) : Nat → Int32 → Int32 → Int32 → Int32 → Int32 → SH → Option (Int32 × SH)
  | 0 => fun _ _ _ _ _ _ => none
  | n + 1 => fun x1 x2 x3 x4 x5 z0 => fX0_priceOfLevel_15 N (fX0_priceOfLevel_15_L N n) x1 x2 x3 x4 x5 z0
def fX0_priceOfLevel (N : Nat) (a1 : Int32) (a2 : Int32) (z0 : SH) : Option (Int32 × SH) :=
  rda z0 24 8 a1 fun v1 =>
  fX0_priceOfLevel_15_L N N a1 a2 ((-1)) 0 (v1 - 1) z0
def fX0_sumLeft_57 (N : Nat) (k5 : Int32 → Int32 → Int32 → Int32 → SH → Option (Int32 × SH)) (x1 : Int32) (x2 : Int32) (x3 : Int32) (x4 : Int32) (z0 : SH) : Option (Int32 × SH) :=
  k5 x1 x2 x3 (x4 + 1) z0
def fX0_sumLeft_5 (N : Nat) (k5 : Int32 → Int32 → Int32 → Int32 → SH → Option (Int32 × SH)) (x1 : Int32) (x2 : Int32) (x3 : Int32) (x4 : Int32) (z0 : SH) : Option (Int32 × SH) :=
  rda z0 24 8 x1 fun v1 =>
  if v1 ≤ x4 then (
  some (x3, z0))
  else
  rda z0 23 800 ((x1 * 100) + x4) fun v2 =>
  rda z0 16 512 v2 fun v3 =>
  if v3 = x2 then (
  rda z0 18 512 v2 fun v4 =>
  fX0_sumLeft_57 N k5 x1 x2 (x3 + v4) x4 z0)
  else
  fX0_sumLeft_57 N k5 x1 x2 x3 x4 z0
def fX0_sumLeft_5_L (N : Nat) : Nat → Int32 → Int32 → Int32 → Int32 → SH → Option (Int32 × SH)
  | 0 => fun _ _ _ _ _ => none
  | n + 1 => fun x1 x2 x3 x4 z0 => fX0_sumLeft_5 N (fX0_sumLeft_5_L N n) x1 x2 x3 x4 z0
def fX0_sumLeft (N : Nat) (a1 : Int32) (a2 : Int32) (z0 : SH) : Option (Int32 × SH) :=
  fX0_sumLeft_5_L N N a1 a2 0 0 z0
def fX1_turnover (a1 : Int32) (a2 : Int32) (z0 : SH) : Option (Int32 × SH) :=
  bnd (fX1_placeOf a1 a2 z0) fun v2 z1 =>
  rda z1 9 2048 v2 fun v3 =>
  rda z1 10 2048 v2 fun v4 =>
  some (v3 + v4, z1)
def fX1_countBusier_51 (N : Nat) (k13 : Int32 → Int32 → Int32 → Int32 → Int32 → SH → Option (Int32 × SH)) (x1 : Int32) (x2 : Int32) (x3 : Int32) (x4 : Int32) (x5 : Int32) (z0 : SH) : Option (Int32 × SH) :=
  k13 x1 x2 x3 x4 (x5 + 1) z0
def fX1_countBusier_48 (N : Nat) (k13 : Int32 → Int32 → Int32 → Int32 → Int32 → SH → Option (Int32 × SH)) (x1 : Int32) (x2 : Int32) (x3 : Int32) (x4 : Int32) (x5 : Int32) (z0 : SH) : Option (Int32 × SH) :=
  fX1_countBusier_51 N k13 x1 x2 x3 (x4 + 1) x5 z0
def fX1_countBusier_13 (N : Nat) (k13 : Int32 → Int32 → Int32 → Int32 → Int32 → SH → Option (Int32 × SH)) (x1 : Int32) (x2 : Int32) (x3 : Int32) (x4 : Int32) (x5 : Int32) (z0 : SH) : Option (Int32 × SH) :=
  if 512 ≤ x5 then (
  some (x4, z0))
  else
  bnd (fX1_turnover x5 x2 z0) fun v2 z1 =>
  if x3 < v2 then (
  fX1_countBusier_48 N k13 x1 x2 x3 x4 x5 z1)
  else
  if v2 = x3 then (
  if x1 ≤ x5 then (
  fX1_countBusier_51 N k13 x1 x2 x3 x4 x5 z1)
  else
  fX1_countBusier_48 N k13 x1 x2 x3 x4 x5 z1)
  else
  fX1_countBusier_51 N k13 x1 x2 x3 x4 x5 z1
def fX1_countBusier_13_L (N : Nat) : Nat → Int32 → Int32 → Int32 → Int32 → Int32 → SH → Option (Int32 × SH)
  | 0 => fun _ _ _ _ _ _ => none
  | n + 1 => fun x1 x2 x3 x4 x5 z0 => fX1_countBusier_13 N (fX1_countBusier_13_L N n) x1 x2 x3 x4 x5 z0
def fX1_countBusier (N : Nat) (a1 : Int32) (a2 : Int32) (z0 : SH) : Option (Int32 × SH) :=
  bnd (fX1_turnover a1 a2 z0) fun v2 z1 =>
  fX1_countBusier_13_L N N a1 a2 v2 0 0 z1
