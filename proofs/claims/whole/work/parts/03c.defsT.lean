def fX4_needAccount_11 (z0 : SH) : Option ((String ⊕ Unit) × SH) :=
  some (.inl "java/lang/IndexOutOfBoundsException", z0)
def fX4_needAccount (a1 : Int32) (z0 : SH) : Option ((String ⊕ Unit) × SH) :=
  if a1 < 0 then (
  fX4_needAccount_11 z0)
  else
  if a1 < 512 then (
  some (.inr (()), z0))
  else
  fX4_needAccount_11 z0
def fX4_needWithin_10 (z0 : SH) : Option ((String ⊕ Unit) × SH) :=
  some (.inl "java/lang/IllegalArgumentException", z0)
def fX4_needWithin (a1 : Int32) (a2 : Int32) (a3 : Int32) (z0 : SH) : Option ((String ⊕ Unit) × SH) :=
  if a1 < a2 then (
  fX4_needWithin_10 z0)
  else
  if a1 ≤ a3 then (
  some (.inr (()), z0))
  else
  fX4_needWithin_10 z0
def fX4_deposit (a1 : Int32) (a2 : Int32) (z0 : SH) : Option ((String ⊕ Int64) × SH) :=
  bndX (fX4_needAccount a1 z0) fun _ z1 =>
  bndX (fX4_needWithin a2 1 1000000000 z1) fun _ z2 =>
  rdl z2 5 512 a1 fun v3 =>
  if lg_cmp (v3 + (a2.toInt64)) 1000000000000000 ≤ 0 then (
  rdl z2 5 512 a1 fun v4 =>
  wrl z2 5 512 a1 (v4 + (a2.toInt64)) fun z5 =>
  bnd (fX1_know a1 z5) fun _ z6 =>
  rdl z6 5 512 a1 fun v7 =>
  some (.inr v7, z6))
  else
  some (.inl "java/lang/IllegalStateException", z2)
def fX4_withdraw (a1 : Int32) (a2 : Int32) (z0 : SH) : Option ((String ⊕ Int64) × SH) :=
  bndX (fX4_needAccount a1 z0) fun _ z1 =>
  bndX (fX4_needWithin a2 1 1000000000 z1) fun _ z2 =>
  bnd (fX1_freeCash a1 z2) fun v4 z3 =>
  if 0 ≤ lg_cmp v4 (a2.toInt64) then (
  rdl z3 5 512 a1 fun v5 =>
  wrl z3 5 512 a1 (v5 - (a2.toInt64)) fun z6 =>
  rdl z6 5 512 a1 fun v7 =>
  some (.inr v7, z6))
  else
  some (.inl "java/lang/IllegalStateException", z3)
def fX4_needSymbol_9 (z0 : SH) : Option ((String ⊕ Unit) × SH) :=
  some (.inl "java/lang/IndexOutOfBoundsException", z0)
def fX4_needSymbol (a1 : Int32) (z0 : SH) : Option ((String ⊕ Unit) × SH) :=
  if a1 < 0 then (
  fX4_needSymbol_9 z0)
  else
  if a1 < 4 then (
  some (.inr (()), z0))
  else
  fX4_needSymbol_9 z0
def fX4_grant (a1 : Int32) (a2 : Int32) (a3 : Int32) (z0 : SH) : Option ((String ⊕ Int32) × SH) :=
  bndX (fX4_needAccount a1 z0) fun _ z1 =>
  bndX (fX4_needSymbol a2 z1) fun _ z2 =>
  bndX (fX4_needWithin a3 1 1000000 z2) fun _ z3 =>
  bnd (fX1_placeOf a1 a2 z3) fun v5 z4 =>
  rda z4 7 2048 v5 fun v6 =>
  if v6 ≤ 1000000000 - a3 then (
  rda z4 7 2048 v5 fun v7 =>
  wra z4 7 2048 v5 (v7 + a3) fun z8 =>
  bnd (fX1_know a1 z8) fun _ z9 =>
  rda z9 7 2048 v5 fun v10 =>
  some (.inr v10, z9))
  else
  some (.inl "java/lang/IllegalStateException", z4)
def fX4_needSide_20 (z0 : SH) : Option ((String ⊕ Unit) × SH) :=
  some (.inr (()), z0)
def fX4_needSide (a1 : Int32) (z0 : SH) : Option ((String ⊕ Unit) × SH) :=
  if a1 = 0 then (
  fX4_needSide_20 z0)
  else
  if a1 = 1 then (
  fX4_needSide_20 z0)
  else
  some (.inl "java/lang/IllegalArgumentException", z0)
def fX4_order_110 (N : Nat) (z0 : SH) : Option ((String ⊕ Int32) × SH) :=
  some (.inl "java/lang/IllegalStateException", z0)
def fX4_order_187 (N : Nat) (x8 : Int32) (z0 : SH) : Option ((String ⊕ Int32) × SH) :=
  some (.inr x8, z0)
def fX4_order_155 (N : Nat) (k155 : Int32 → Int32 → Int32 → Int32 → SH → Option ((String ⊕ Int32) × SH)) (x2 : Int32) (x8 : Int32) (x9 : Int32) (x10 : Int32) (z0 : SH) : Option ((String ⊕ Int32) × SH) :=
  if 100 < x10 then (
  fX4_order_187 N x8 z0)
  else
  if x9 = (-1) then (
  fX4_order_187 N x8 z0)
  else
  bnd (fX4_actByKind N x9 z0) fun _ z1 =>
  bnd (fX4_wakeStop N x2 z1) fun v3 z2 =>
  k155 x2 x8 v3 (x10 + 1) z2
def fX4_order_155_L (N : Nat) : Nat → Int32 → Int32 → Int32 → Int32 → SH → Option ((String ⊕ Int32) × SH)
  | 0 => fun _ _ _ _ _ => none
  | n + 1 => fun x2 x8 x9 x10 z0 => fX4_order_155 N (fX4_order_155_L N n) x2 x8 x9 x10 z0
def fX4_order_58 (N : Nat) (x1 : Int32) (x2 : Int32) (x3 : Int32) (x4 : Int32) (x5 : Int32) (x6 : Int32) (x7 : Int32) (z0 : SH) : Option ((String ⊕ Int32) × SH) :=
  bnd (fX1_canHold x1 x2 x3 x5 x6 z0) fun v2 z1 =>
  if v2 = 0 then (
  some (.inl "java/lang/IllegalStateException", z1))
  else
  rdi z1 3 fun v3 =>
  if 100 ≤ v3 then (
  fX4_order_110 N z1)
  else
  rdi z1 2 fun v4 =>
  if v4 < 512 then (
  bnd (fX2_take x1 x2 x3 x4 x5 x6 x7 z1) fun v6 z5 =>
  bnd (fX4_hold v6 x6 z5) fun _ z7 =>
  fX4_order_155_L N N x2 v6 v6 0 z7)
  else
  fX4_order_110 N z1
def fX4_order_49 (N : Nat) (x1 : Int32) (x2 : Int32) (x3 : Int32) (x4 : Int32) (x5 : Int32) (x6 : Int32) (x7 : Int32) (z0 : SH) : Option ((String ⊕ Int32) × SH) :=
  bndX (fX4_needWithin x7 1 10000 z0) fun _ z1 =>
  fX4_order_58 N x1 x2 x3 x4 x5 x6 x7 z1
def fX4_order (N : Nat) (a1 : Int32) (a2 : Int32) (a3 : Int32) (a4 : Int32) (a5 : Int32) (a6 : Int32) (a7 : Int32) (z0 : SH) : Option ((String ⊕ Int32) × SH) :=
  bndX (fX4_needAccount a1 z0) fun _ z1 =>
  bndX (fX4_needSymbol a2 z1) fun _ z2 =>
  bndX (fX4_needSide a3 z2) fun _ z3 =>
  bndX (fX4_needWithin a4 0 5 z3) fun _ z4 =>
  bndX (fX4_needWithin a5 1 10000 z4) fun _ z5 =>
  bndX (fX4_needWithin a6 1 10000 z5) fun _ z6 =>
  if a4 = 4 then (
  fX4_order_49 N a1 a2 a3 a4 a5 a6 a7 z6)
  else
  if a4 = 5 then (
  fX4_order_49 N a1 a2 a3 a4 a5 a6 a7 z6)
  else
  fX4_order_58 N a1 a2 a3 a4 a5 a6 a7 z6
def fX4_needOrder_15 (z0 : SH) : Option ((String ⊕ Unit) × SH) :=
  some (.inl "java/lang/IndexOutOfBoundsException", z0)
def fX4_needOrder (a1 : Int32) (z0 : SH) : Option ((String ⊕ Unit) × SH) :=
  if a1 < 0 then (
  fX4_needOrder_15 z0)
  else
  rdi z0 2 fun v1 =>
  if a1 < v1 then (
  some (.inr (()), z0))
  else
  fX4_needOrder_15 z0
def fX4_needOwnOrder (a1 : Int32) (a2 : Int32) (z0 : SH) : Option ((String ⊕ Unit) × SH) :=
  bndX (fX4_needAccount a1 z0) fun _ z1 =>
  bndX (fX4_needOrder a2 z1) fun _ z2 =>
  rda z2 12 512 a2 fun v3 =>
  if v3 = a1 then (
  some (.inr (()), z2))
  else
  some (.inl "java/lang/IllegalArgumentException", z2)
def fX4_needThere (a1 : Int32) (z0 : SH) : Option ((String ⊕ Unit) × SH) :=
  bnd (fX2_isThere a1 z0) fun v2 z1 =>
  if v2 = 0 then (
  some (.inl "java/lang/IllegalStateException", z1))
  else
  some (.inr (()), z1)
def fX4_cancel (N : Nat) (a1 : Int32) (a2 : Int32) (z0 : SH) : Option ((String ⊕ Int32) × SH) :=
  bndX (fX4_needOwnOrder a1 a2 z0) fun _ z1 =>
  bndX (fX4_needThere a2 z1) fun _ z2 =>
  rda z2 18 512 a2 fun v3 =>
  bnd (fX4_takeAway N a2 z2) fun _ z4 =>
  some (.inr v3, z4)
def fX4_reduce (a1 : Int32) (a2 : Int32) (a3 : Int32) (z0 : SH) : Option ((String ⊕ Int32) × SH) :=
  bndX (fX4_needOwnOrder a1 a2 z0) fun _ z1 =>
  if 1 ≤ a3 then (
  bndX (fX4_needThere a2 z1) fun _ z2 =>
  rda z2 18 512 a2 fun v3 =>
  if a3 < v3 then (
  rda z2 18 512 a2 fun v4 =>
  wra z2 18 512 a2 (v4 - a3) fun z5 =>
  rda z5 19 512 a2 fun v6 =>
  rda z5 18 512 a2 fun v7 =>
  wra z5 19 512 a2 (if v7 < v6 then v7 else v6) fun z8 =>
  bnd (fX4_hold a2 (-a3) z8) fun _ z9 =>
  rda z9 18 512 a2 fun v10 =>
  some (.inr v10, z9))
  else
  some (.inl "java/lang/IllegalStateException", z2))
  else
  some (.inl "java/lang/IllegalArgumentException", z1)
def fX4_until_47 (x2 : Int32) (x3 : Int32) (z0 : SH) : Option ((String ⊕ Unit) × SH) :=
  wra z0 21 512 x2 x3 fun z1 =>
  some (.inr (()), z1)
def fX4_until (a1 : Int32) (a2 : Int32) (a3 : Int32) (z0 : SH) : Option ((String ⊕ Unit) × SH) :=
  bndX (fX4_needOwnOrder a1 a2 z0) fun _ z1 =>
  if 0 ≤ a3 then (
  bndX (fX4_needThere a2 z1) fun _ z2 =>
  if a3 = 0 then (
  fX4_until_47 a2 a3 z2)
  else
  rdi z2 0 fun v3 =>
  if v3 < a3 then (
  fX4_until_47 a2 a3 z2)
  else
  some (.inl "java/lang/IllegalStateException", z2))
  else
  some (.inl "java/lang/IllegalArgumentException", z1)
def fX4_pass_79 (N : Nat) (k21 : Int32 → Int32 → SH → Option ((String ⊕ Int32) × SH)) (x2 : Int32) (x3 : Int32) (z0 : SH) : Option ((String ⊕ Int32) × SH) :=
  k21 x2 (x3 + 1) z0
def fX4_pass_21 (N : Nat) (k21 : Int32 → Int32 → SH → Option ((String ⊕ Int32) × SH)) (x2 : Int32) (x3 : Int32) (z0 : SH) : Option ((String ⊕ Int32) × SH) :=
  rdi z0 2 fun v1 =>
  if v1 ≤ x3 then (
  some (.inr x2, z0))
  else
  bnd (fX2_isThere x3 z0) fun v3 z2 =>
  if v3 = 0 then (
  fX4_pass_79 N k21 x2 x3 z2)
  else
  rda z2 21 512 x3 fun v4 =>
  if v4 = 0 then (
  fX4_pass_79 N k21 x2 x3 z2)
  else
  rda z2 21 512 x3 fun v5 =>
  rdi z2 0 fun v6 =>
  if v6 < v5 then (
  fX4_pass_79 N k21 x2 x3 z2)
  else
  bnd (fX4_takeAway N x3 z2) fun _ z7 =>
  fX4_pass_79 N k21 (x2 + 1) x3 z7
def fX4_pass_21_L (N : Nat) : Nat → Int32 → Int32 → SH → Option ((String ⊕ Int32) × SH)
  | 0 => fun _ _ _ => none
  | n + 1 => fun x2 x3 z0 => fX4_pass_21 N (fX4_pass_21_L N n) x2 x3 z0
def fX4_pass (N : Nat) (a1 : Int32) (z0 : SH) : Option ((String ⊕ Int32) × SH) :=
  bndX (fX4_needWithin a1 0 1000000 z0) fun _ z1 =>
  rdi z1 0 fun v2 =>
  wri z1 0 (v2 + a1) fun z3 =>
  fX4_pass_21_L N N 0 0 z3
def fX4_best (a1 : Int32) (a2 : Int32) (z0 : SH) : Option ((String ⊕ Int32) × SH) :=
  bndX (fX4_needSymbol a1 z0) fun _ z1 =>
  bndX (fX4_needSide a2 z1) fun _ z2 =>
  bnd (fX0_bookOf a1 a2 z2) fun v4 z3 =>
  bnd (fX0_orderAt v4 0 z3) fun v6 z5 =>
  if v6 = (-1) then (
  some (.inl "java/util/NoSuchElementException", z5))
  else
  rda z5 16 512 v6 fun v7 =>
  some (.inr v7, z5)
def fX4_depth_50 (N : Nat) (t0 : Int32) (z0 : SH) : Option ((String ⊕ Int32) × SH) :=
  some (.inr t0, z0)
def fX4_depth (N : Nat) (a1 : Int32) (a2 : Int32) (a3 : Int32) (z0 : SH) : Option ((String ⊕ Int32) × SH) :=
  bndX (fX4_needSymbol a1 z0) fun _ z1 =>
  bndX (fX4_needSide a2 z1) fun _ z2 =>
  bndX (fX4_needWithin a3 0 10000 z2) fun _ z3 =>
  bnd (fX0_bookOf a1 a2 z3) fun v5 z4 =>
  if a3 = 0 then (
  bnd (fX0_countPrices N v5 z4) fun v9 z8 =>
  fX4_depth_50 N v9 z8)
  else
  bnd (fX0_sumShown N v5 a3 ((-1)) z4) fun v7 z6 =>
  fX4_depth_50 N v7 z6
def fX4_level (N : Nat) (a1 : Int32) (a2 : Int32) (a3 : Int32) (a4 : Int32) (z0 : SH) : Option ((String ⊕ Int32) × SH) :=
  bndX (fX4_needSymbol a1 z0) fun _ z1 =>
  if 0 ≤ a3 then (
  bndX (fX4_needSide a2 z1) fun _ z2 =>
  bnd (fX0_bookOf a1 a2 z2) fun v4 z3 =>
  bnd (fX0_priceOfLevel N v4 a3 z3) fun v6 z5 =>
  if v6 = (-1) then (
  some (.inl "java/lang/IndexOutOfBoundsException", z5))
  else
  if a4 = 0 then (
  some (.inr v6, z5))
  else
  if a4 = 1 then (
  bnd (fX0_countOrders N v4 v6 z5) fun v8 z7 =>
  some (.inr v8, z7))
  else
  if a4 = 2 then (
  bnd (fX0_sumLeft N v4 v6 z5) fun v10 z9 =>
  some (.inr v10, z9))
  else
  some (.inl "java/lang/IllegalArgumentException", z5))
  else
  some (.inl "java/lang/IndexOutOfBoundsException", z1)
def fX4_about (a1 : Int32) (a2 : Int32) (z0 : SH) : Option ((String ⊕ Int32) × SH) :=
  bndX (fX4_needOrder a1 z0) fun _ z1 =>
  if a2 = 0 then (
  rda z1 12 512 a1 fun v2 =>
  some (.inr v2, z1))
  else
  if a2 = 1 then (
  rda z1 18 512 a1 fun v3 =>
  some (.inr v3, z1))
  else
  if a2 = 2 then (
  rda z1 19 512 a1 fun v4 =>
  some (.inr v4, z1))
  else
  if a2 = 3 then (
  rda z1 20 512 a1 fun v5 =>
  some (.inr v5, z1))
  else
  if a2 = 4 then (
  rda z1 21 512 a1 fun v6 =>
  some (.inr v6, z1))
  else
  if a2 = 5 then (
  rda z1 22 512 a1 fun v7 =>
  some (.inr v7, z1))
  else
  some (.inl "java/lang/IllegalArgumentException", z1)
def fX4_ahead (N : Nat) (a1 : Int32) (z0 : SH) : Option ((String ⊕ Int32) × SH) :=
  bndX (fX4_needOrder a1 z0) fun _ z1 =>
  rda z1 20 512 a1 fun v2 =>
  if v2 = 0 then (
  rda z1 13 512 a1 fun v3 =>
  rda z1 14 512 a1 fun v4 =>
  bnd (fX0_bookOf v3 v4 z1) fun v6 z5 =>
  rda z5 16 512 a1 fun v7 =>
  bnd (fX0_sumShown N v6 v7 a1 z5) fun v9 z8 =>
  some (.inr v9, z8))
  else
  some (.inl "java/util/NoSuchElementException", z1)
def fX4_cash (a1 : Int32) (a2 : Int32) (z0 : SH) : Option ((String ⊕ Int64) × SH) :=
  bndX (fX4_needAccount a1 z0) fun _ z1 =>
  if a2 = 0 then (
  rdl z1 5 512 a1 fun v2 =>
  some (.inr v2, z1))
  else
  if a2 = 1 then (
  rdl z1 6 512 a1 fun v3 =>
  some (.inr v3, z1))
  else
  some (.inl "java/lang/IllegalArgumentException", z1)
def fX4_shares (a1 : Int32) (a2 : Int32) (a3 : Int32) (z0 : SH) : Option ((String ⊕ Int32) × SH) :=
  bndX (fX4_needAccount a1 z0) fun _ z1 =>
  bndX (fX4_needSymbol a2 z1) fun _ z2 =>
  bnd (fX1_placeOf a1 a2 z2) fun v4 z3 =>
  if a3 = 0 then (
  rda z3 7 2048 v4 fun v5 =>
  some (.inr v5, z3))
  else
  if a3 = 1 then (
  rda z3 8 2048 v4 fun v6 =>
  some (.inr v6, z3))
  else
  if a3 = 2 then (
  rda z3 9 2048 v4 fun v7 =>
  some (.inr v7, z3))
  else
  if a3 = 3 then (
  rda z3 10 2048 v4 fun v8 =>
  some (.inr v8, z3))
  else
  some (.inl "java/lang/IllegalArgumentException", z3)
def fX4_count (a1 : Int32) (z0 : SH) : Option ((String ⊕ Int32) × SH) :=
  if a1 = 0 then (
  rdi z0 4 fun v1 =>
  some (.inr v1, z0))
  else
  if a1 = 1 then (
  rdi z0 2 fun v2 =>
  some (.inr v2, z0))
  else
  if a1 = 2 then (
  rdi z0 3 fun v3 =>
  some (.inr v3, z0))
  else
  if a1 = 3 then (
  rdi z0 1 fun v4 =>
  some (.inr v4, z0))
  else
  if a1 = 4 then (
  rdi z0 0 fun v5 =>
  some (.inr v5, z0))
  else
  some (.inl "java/lang/IllegalArgumentException", z0)
def fX4_trade_22 (z0 : SH) : Option ((String ⊕ Int32) × SH) :=
  some (.inl "java/lang/IndexOutOfBoundsException", z0)
def fX4_trade (a1 : Int32) (a2 : Int32) (z0 : SH) : Option ((String ⊕ Int32) × SH) :=
  if a1 < 0 then (
  fX4_trade_22 z0)
  else
  rdi z0 4 fun v1 =>
  if v1 ≤ a1 then (
  fX4_trade_22 z0)
  else
  if a1 < 300 then (
  if a2 = 0 then (
  rda z0 25 300 a1 fun v2 =>
  some (.inr v2, z0))
  else
  if a2 = 1 then (
  rda z0 26 300 a1 fun v3 =>
  some (.inr v3, z0))
  else
  if a2 = 2 then (
  rda z0 27 300 a1 fun v4 =>
  some (.inr v4, z0))
  else
  if a2 = 3 then (
  rda z0 28 300 a1 fun v5 =>
  some (.inr v5, z0))
  else
  some (.inl "java/lang/IllegalArgumentException", z0))
  else
  fX4_trade_22 z0
def fX4_symbol (a1 : Int32) (a2 : Int32) (z0 : SH) : Option ((String ⊕ Int32) × SH) :=
  bndX (fX4_needSymbol a1 z0) fun _ z1 =>
  if a2 = 0 then (
  rda z1 29 4 a1 fun v2 =>
  some (.inr v2, z1))
  else
  if a2 = 1 then (
  rda z1 30 4 a1 fun v3 =>
  some (.inr v3, z1))
  else
  if a2 = 2 then (
  rda z1 31 4 a1 fun v4 =>
  some (.inr v4, z1))
  else
  if a2 = 3 then (
  rda z1 32 4 a1 fun v5 =>
  some (.inr v5, z1))
  else
  some (.inl "java/lang/IllegalArgumentException", z1)
def fX4_busiest_40 (N : Nat) (k6 : Int32 → Int32 → Int32 → SH → Option ((String ⊕ Int32) × SH)) (x1 : Int32) (x2 : Int32) (x3 : Int32) (z0 : SH) : Option ((String ⊕ Int32) × SH) :=
  k6 x1 x2 (x3 + 1) z0
def fX4_busiest_6 (N : Nat) (k6 : Int32 → Int32 → Int32 → SH → Option ((String ⊕ Int32) × SH)) (x1 : Int32) (x2 : Int32) (x3 : Int32) (z0 : SH) : Option ((String ⊕ Int32) × SH) :=
  if 512 ≤ x3 then (
  some (.inl "java/lang/IndexOutOfBoundsException", z0))
  else
  bnd (fX1_turnover x3 x1 z0) fun v2 z1 =>
  if v2 ≤ 0 then (
  fX4_busiest_40 N k6 x1 x2 x3 z1)
  else
  bnd (fX1_countBusier N x3 x1 z1) fun v4 z3 =>
  if v4 = x2 then (
  some (.inr x3, z3))
  else
  fX4_busiest_40 N k6 x1 x2 x3 z3
def fX4_busiest_6_L (N : Nat) : Nat → Int32 → Int32 → Int32 → SH → Option ((String ⊕ Int32) × SH)
  | 0 => fun _ _ _ _ => none
  | n + 1 => fun x1 x2 x3 z0 => fX4_busiest_6 N (fX4_busiest_6_L N n) x1 x2 x3 z0
def fX4_busiest (N : Nat) (a1 : Int32) (a2 : Int32) (z0 : SH) : Option ((String ⊕ Int32) × SH) :=
  bndX (fX4_needSymbol a1 z0) fun _ z1 =>
  fX4_busiest_6_L N N a1 a2 0 z1
