def fX5_thrown (z0 : SH) : Option (Int32 × SH) :=
  rdi z0 0 fun v1 =>
  some (v1, z0)
def fX5_isIn_15 (t0 : Int32) (z0 : SH) : Option (Int32 × SH) :=
  gdb (isB t0) (some (t0, z0))
def fX5_isIn_14 (z0 : SH) : Option (Int32 × SH) :=
  fX5_isIn_15 0 z0
def fX5_isIn (a1 : Int32) (a2 : Int32) (a3 : Int32) (z0 : SH) : Option (Int32 × SH) :=
  if a1 < a2 then (
  fX5_isIn_14 z0)
  else
  if a3 < a1 then (
  fX5_isIn_14 z0)
  else
  fX5_isIn_15 1 z0
def fX5_isAccount (a1 : Int32) (z0 : SH) : Option (Int32 × SH) :=
  bnd (fX5_isIn a1 0 511 z0) fun v2 z1 =>
  gdb (isB v2) (some (v2, z1))
def fX5_isSymbol (a1 : Int32) (z0 : SH) : Option (Int32 × SH) :=
  bnd (fX5_isIn a1 0 3 z0) fun v2 z1 =>
  gdb (isB v2) (some (v2, z1))
def fX5_deposit_47 (x1 : Int32) (x2 : Int32) (t0 : Int32) (z0 : SH) : Option (Int64 × SH) :=
  wri z0 0 t0 fun z1 =>
  rdi z1 0 fun v2 =>
  if v2 ≤ 0 then (
  rdl z1 1 512 x1 fun v3 =>
  wrl z1 1 512 x1 (v3 + (x2.toInt64)) fun z4 =>
  wra z4 7 512 x1 (vp_nar .boolean 1) fun z5 =>
  rdl z5 1 512 x1 fun v6 =>
  some (v6, z5))
  else
  some (0, z1)
def fX5_deposit (a1 : Int32) (a2 : Int32) (z0 : SH) : Option (Int64 × SH) :=
  bnd (fX5_isAccount a1 z0) fun v2 z1 =>
  if v2 = 0 then (
  fX5_deposit_47 a1 a2 1 z1)
  else
  bnd (fX5_isIn a2 1 1000000000 z1) fun v4 z3 =>
  if v4 = 0 then (
  fX5_deposit_47 a1 a2 2 z3)
  else
  rdl z3 1 512 a1 fun v5 =>
  if lg_cmp (v5 + (a2.toInt64)) 1000000000000000 ≤ 0 then (
  fX5_deposit_47 a1 a2 0 z3)
  else
  fX5_deposit_47 a1 a2 3 z3
def fX5_withdraw_50 (x1 : Int32) (x2 : Int32) (t0 : Int32) (z0 : SH) : Option (Int64 × SH) :=
  wri z0 0 t0 fun z1 =>
  rdi z1 0 fun v2 =>
  if v2 ≤ 0 then (
  rdl z1 1 512 x1 fun v3 =>
  wrl z1 1 512 x1 (v3 - (x2.toInt64)) fun z4 =>
  rdl z4 1 512 x1 fun v5 =>
  some (v5, z4))
  else
  some (0, z1)
def fX5_withdraw (a1 : Int32) (a2 : Int32) (z0 : SH) : Option (Int64 × SH) :=
  bnd (fX5_isAccount a1 z0) fun v2 z1 =>
  if v2 = 0 then (
  fX5_withdraw_50 a1 a2 1 z1)
  else
  bnd (fX5_isIn a2 1 1000000000 z1) fun v4 z3 =>
  if v4 = 0 then (
  fX5_withdraw_50 a1 a2 2 z3)
  else
  rdl z3 1 512 a1 fun v5 =>
  rdl z3 2 512 a1 fun v6 =>
  if 0 ≤ lg_cmp (v5 - v6) (a2.toInt64) then (
  fX5_withdraw_50 a1 a2 0 z3)
  else
  fX5_withdraw_50 a1 a2 3 z3
def fX5_cell (a1 : Int32) (a2 : Int32) (z0 : SH) : Option (Int32 × SH) :=
  some ((4 * a1) + a2, z0)
def fX5_grant_67 (x1 : Int32) (x2 : Int32) (x3 : Int32) (t0 : Int32) (z0 : SH) : Option (Int32 × SH) :=
  wri z0 0 t0 fun z1 =>
  rdi z1 0 fun v2 =>
  if v2 ≤ 0 then (
  bnd (fX5_cell x1 x2 z1) fun v4 z3 =>
  rda z3 3 2048 v4 fun v5 =>
  wra z3 3 2048 v4 (v5 + x3) fun z6 =>
  wra z6 7 512 x1 (vp_nar .boolean 1) fun z7 =>
  bnd (fX5_cell x1 x2 z7) fun v9 z8 =>
  rda z8 3 2048 v9 fun v10 =>
  some (v10, z8))
  else
  some (0, z1)
def fX5_grant_19 (x1 : Int32) (x2 : Int32) (x3 : Int32) (t0 : Int32) (z0 : SH) : Option (Int32 × SH) :=
  if t0 = 0 then (
  fX5_grant_67 x1 x2 x3 1 z0)
  else
  bnd (fX5_isIn x3 1 1000000 z0) fun v2 z1 =>
  if v2 = 0 then (
  fX5_grant_67 x1 x2 x3 2 z1)
  else
  bnd (fX5_cell x1 x2 z1) fun v4 z3 =>
  rda z3 3 2048 v4 fun v5 =>
  if v5 + x3 ≤ 1000000000 then (
  fX5_grant_67 x1 x2 x3 0 z3)
  else
  fX5_grant_67 x1 x2 x3 3 z3
def fX5_grant_18 (x1 : Int32) (x2 : Int32) (x3 : Int32) (z0 : SH) : Option (Int32 × SH) :=
  fX5_grant_19 x1 x2 x3 0 z0
def fX5_grant (a1 : Int32) (a2 : Int32) (a3 : Int32) (z0 : SH) : Option (Int32 × SH) :=
  bnd (fX5_isAccount a1 z0) fun v2 z1 =>
  if v2 = 0 then (
  fX5_grant_18 a1 a2 a3 z1)
  else
  bnd (fX5_isSymbol a2 z1) fun v4 z3 =>
  if v4 = 0 then (
  fX5_grant_18 a1 a2 a3 z3)
  else
  fX5_grant_19 a1 a2 a3 1 z3
def fX5_isThere_24 (t0 : Int32) (z0 : SH) : Option (Int32 × SH) :=
  gdb (isB t0) (some (t0, z0))
def fX5_isThere_19 (z0 : SH) : Option (Int32 × SH) :=
  fX5_isThere_24 1 z0
def fX5_isThere (a1 : Int32) (z0 : SH) : Option (Int32 × SH) :=
  rda z0 16 520 a1 fun v1 =>
  if v1 = 0 then (
  fX5_isThere_19 z0)
  else
  rda z0 16 520 a1 fun v2 =>
  if v2 = 1 then (
  fX5_isThere_19 z0)
  else
  fX5_isThere_24 0 z0
def fX5_there_27 (N : Nat) (k4 : Int32 → Int32 → SH → Option (Int32 × SH)) (x2 : Int32) (t0 : Int32) (z0 : SH) : Option (Int32 × SH) :=
  k4 t0 (x2 + 1) z0
def fX5_there_4 (N : Nat) (k4 : Int32 → Int32 → SH → Option (Int32 × SH)) (x1 : Int32) (x2 : Int32) (z0 : SH) : Option (Int32 × SH) :=
  rdi z0 2 fun v1 =>
  if v1 ≤ x2 then (
  some (x1, z0))
  else
  bnd (fX5_isThere x2 z0) fun v3 z2 =>
  if v3 = 0 then (
  fX5_there_27 N k4 x2 x1 z2)
  else
  fX5_there_27 N k4 x2 (x1 + 1) z2
def fX5_there_4_L (N : Nat) : Nat → Int32 → Int32 → SH → Option (Int32 × SH)
  | 0 => fun _ _ _ => none
  | n + 1 => fun x1 x2 z0 => fX5_there_4 N (fX5_there_4_L N n) x1 x2 z0
def fX5_there (N : Nat) (z0 : SH) : Option (Int32 × SH) :=
  fX5_there_4_L N N 0 0 z0
def fX5_rests_34 (t0 : Int32) (z0 : SH) : Option (Int32 × SH) :=
  gdb (isB t0) (some (t0, z0))
def fX5_rests_33 (z0 : SH) : Option (Int32 × SH) :=
  fX5_rests_34 0 z0
def fX5_rests (a1 : Int32) (a2 : Int32) (a3 : Int32) (z0 : SH) : Option (Int32 × SH) :=
  rda z0 16 520 a1 fun v1 =>
  if v1 = 0 then (
  rda z0 9 520 a1 fun v2 =>
  if v2 = a2 then (
  rda z0 10 520 a1 fun v3 =>
  if v3 = a3 then (
  fX5_rests_34 1 z0)
  else
  fX5_rests_33 z0)
  else
  fX5_rests_33 z0)
  else
  fX5_rests_33 z0
def fX5_isBetter_27 (t0 : Int32) (z0 : SH) : Option (Int32 × SH) :=
  gdb (isB t0) (some (t0, z0))
def fX5_isBetter (a1 : Int32) (a2 : Int32) (a3 : Int32) (z0 : SH) : Option (Int32 × SH) :=
  if a1 = 0 then (
  if a2 ≤ a3 then (
  fX5_isBetter_27 0 z0)
  else
  fX5_isBetter_27 1 z0)
  else
  if a3 ≤ a2 then (
  fX5_isBetter_27 0 z0)
  else
  fX5_isBetter_27 1 z0
def fX5_first_85 (N : Nat) (k5 : Int32 → Int32 → Int32 → Int32 → SH → Option (Int32 × SH)) (x1 : Int32) (x2 : Int32) (x3 : Int32) (x4 : Int32) (z0 : SH) : Option (Int32 × SH) :=
  k5 x1 x2 x3 (x4 + 1) z0
def fX5_first_82 (N : Nat) (k5 : Int32 → Int32 → Int32 → Int32 → SH → Option (Int32 × SH)) (x1 : Int32) (x2 : Int32) (x4 : Int32) (z0 : SH) : Option (Int32 × SH) :=
  fX5_first_85 N k5 x1 x2 x4 x4 z0
def fX5_first_5 (N : Nat) (k5 : Int32 → Int32 → Int32 → Int32 → SH → Option (Int32 × SH)) (x1 : Int32) (x2 : Int32) (x3 : Int32) (x4 : Int32) (z0 : SH) : Option (Int32 × SH) :=
  rdi z0 2 fun v1 =>
  if v1 ≤ x4 then (
  some (x3, z0))
  else
  bnd (fX5_rests x4 x1 x2 z0) fun v3 z2 =>
  if v3 = 0 then (
  fX5_first_85 N k5 x1 x2 x3 x4 z2)
  else
  if x3 = (-1) then (
  fX5_first_82 N k5 x1 x2 x4 z2)
  else
  rda z2 12 520 x4 fun v4 =>
  rda z2 12 520 x3 fun v5 =>
  bnd (fX5_isBetter x2 v4 v5 z2) fun v7 z6 =>
  if v7 = 0 then (
  rda z6 12 520 x4 fun v8 =>
  rda z6 12 520 x3 fun v9 =>
  if v8 = v9 then (
  rda z6 19 520 x4 fun v10 =>
  rda z6 19 520 x3 fun v11 =>
  if v11 ≤ v10 then (
  fX5_first_85 N k5 x1 x2 x3 x4 z6)
  else
  fX5_first_82 N k5 x1 x2 x4 z6)
  else
  fX5_first_85 N k5 x1 x2 x3 x4 z6)
  else
  fX5_first_82 N k5 x1 x2 x4 z6
def fX5_first_5_L (N : Nat) : Nat → Int32 → Int32 → Int32 → Int32 → SH → Option (Int32 × SH)
  | 0 => fun _ _ _ _ _ => none
  | n + 1 => fun x1 x2 x3 x4 z0 => fX5_first_5 N (fX5_first_5_L N n) x1 x2 x3 x4 z0
def fX5_first (N : Nat) (a1 : Int32) (a2 : Int32) (z0 : SH) : Option (Int32 × SH) :=
  fX5_first_5_L N N a1 a2 ((-1)) 0 z0
def fX5_allows_52 (t0 : Int32) (z0 : SH) : Option (Int32 × SH) :=
  gdb (isB t0) (some (t0, z0))
def fX5_allows (a1 : Int32) (a2 : Int32) (z0 : SH) : Option (Int32 × SH) :=
  rda z0 10 520 a1 fun v1 =>
  if v1 = 0 then (
  rda z0 12 520 a2 fun v4 =>
  rda z0 12 520 a1 fun v5 =>
  if v5 < v4 then (
  fX5_allows_52 0 z0)
  else
  fX5_allows_52 1 z0)
  else
  rda z0 12 520 a2 fun v2 =>
  rda z0 12 520 a1 fun v3 =>
  if v2 < v3 then (
  fX5_allows_52 0 z0)
  else
  fX5_allows_52 1 z0
def fX5_free_57 (z0 : SH) : Option (Unit × SH) :=
  some ((), z0)
def fX5_free (a1 : Int32) (a2 : Int32) (z0 : SH) : Option (Unit × SH) :=
  rda z0 8 520 a1 fun v1 =>
  rda z0 10 520 a1 fun v2 =>
  if v2 = 0 then (
  rdl z0 2 512 v1 fun v8 =>
  rda z0 12 520 a1 fun v9 =>
  wrl z0 2 512 v1 (v8 - ((v9.toInt64) * (a2.toInt64))) fun z10 =>
  fX5_free_57 z10)
  else
  rda z0 9 520 a1 fun v3 =>
  bnd (fX5_cell v1 v3 z0) fun v5 z4 =>
  rda z4 4 2048 v5 fun v6 =>
  wra z4 4 2048 v5 (v6 - a2) fun z7 =>
  fX5_free_57 z7
def fX5_cancelled (a1 : Int32) (z0 : SH) : Option (Unit × SH) :=
  rda z0 13 520 a1 fun v1 =>
  bnd (fX5_free a1 v1 z0) fun _ z2 =>
  wra z2 13 520 a1 0 fun z3 =>
  wra z3 14 520 a1 0 fun z4 =>
  wra z4 16 520 a1 3 fun z5 =>
  some ((), z5)
def fX5_exchange_341 (x3 : Int32) (x4 : Int32) (t0 : Int32) (t1 : Int32) (z0 : SH) : Option (Unit × SH) :=
  wra z0 26 4 t1 t0 fun z1 =>
  rda z1 27 4 x4 fun v2 =>
  wra z1 27 4 x4 (v2 + x3) fun z3 =>
  some ((), z3)
def fX5_exchange_329 (x3 : Int32) (x4 : Int32) (x5 : Int32) (t0 : Int32) (z0 : SH) : Option (Unit × SH) :=
  fX5_exchange_341 x3 x4 x5 t0 z0
def fX5_exchange_300 (x3 : Int32) (x4 : Int32) (x5 : Int32) (t0 : Int32) (t1 : Int32) (z0 : SH) : Option (Unit × SH) :=
  wra z0 25 4 t1 t0 fun z1 =>
  rda z1 26 4 x4 fun v2 =>
  if v2 = 0 then (
  fX5_exchange_329 x3 x4 x5 x4 z1)
  else
  rda z1 26 4 x4 fun v3 =>
  if v3 ≤ x5 then (
  rda z1 26 4 x4 fun v4 =>
  fX5_exchange_341 x3 x4 v4 x4 z1)
  else
  fX5_exchange_329 x3 x4 x5 x4 z1
def fX5_exchange_288 (x3 : Int32) (x4 : Int32) (x5 : Int32) (t0 : Int32) (z0 : SH) : Option (Unit × SH) :=
  fX5_exchange_300 x3 x4 x5 x5 t0 z0
def fX5_exchange_241 (x3 : Int32) (x4 : Int32) (x5 : Int32) (z0 : SH) : Option (Unit × SH) :=
  rdi z0 4 fun v1 =>
  wri z0 4 (v1 + 1) fun z2 =>
  wra z2 24 4 x4 x5 fun z3 =>
  rda z3 25 4 x4 fun v4 =>
  if v4 = 0 then (
  fX5_exchange_288 x3 x4 x5 x4 z3)
  else
  rda z3 25 4 x4 fun v5 =>
  if x5 ≤ v5 then (
  rda z3 25 4 x4 fun v6 =>
  fX5_exchange_300 x3 x4 x5 v6 x4 z3)
  else
  fX5_exchange_288 x3 x4 x5 x4 z3
def fX5_exchange_66 (x1 : Int32) (x2 : Int32) (x3 : Int32) (x4 : Int32) (x5 : Int32) (x6 : Int32) (t0 : Int32) (z0 : SH) : Option (Unit × SH) :=
  bnd (fX5_free x1 x3 z0) fun _ z1 =>
  bnd (fX5_free x2 x3 z1) fun _ z2 =>
  rdl z2 1 512 x6 fun v3 =>
  wrl z2 1 512 x6 (v3 - ((x5.toInt64) * (x3.toInt64))) fun z4 =>
  rdl z4 1 512 t0 fun v5 =>
  wrl z4 1 512 t0 (v5 + ((x5.toInt64) * (x3.toInt64))) fun z6 =>
  bnd (fX5_cell x6 x4 z6) fun v8 z7 =>
  rda z7 3 2048 v8 fun v9 =>
  wra z7 3 2048 v8 (v9 + x3) fun z10 =>
  bnd (fX5_cell t0 x4 z10) fun v12 z11 =>
  rda z11 3 2048 v12 fun v13 =>
  wra z11 3 2048 v12 (v13 - x3) fun z14 =>
  bnd (fX5_cell x6 x4 z14) fun v16 z15 =>
  rda z15 5 2048 v16 fun v17 =>
  wra z15 5 2048 v16 (v17 + x3) fun z18 =>
  bnd (fX5_cell t0 x4 z18) fun v20 z19 =>
  rda z19 6 2048 v20 fun v21 =>
  wra z19 6 2048 v20 (v21 + x3) fun z22 =>
  rdi z22 4 fun v23 =>
  if 300 ≤ v23 then (
  fX5_exchange_241 x3 x4 x5 z22)
  else
  rdi z22 4 fun v24 =>
  wra z22 23 1200 (4 * v24) x1 fun z25 =>
  rdi z25 4 fun v26 =>
  wra z25 23 1200 ((4 * v26) + 1) x2 fun z27 =>
  rdi z27 4 fun v28 =>
  wra z27 23 1200 ((4 * v28) + 2) x5 fun z29 =>
  rdi z29 4 fun v30 =>
  wra z29 23 1200 ((4 * v30) + 3) x3 fun z31 =>
  fX5_exchange_241 x3 x4 x5 z31
def fX5_exchange_40 (x1 : Int32) (x2 : Int32) (x3 : Int32) (x4 : Int32) (x5 : Int32) (t0 : Int32) (z0 : SH) : Option (Unit × SH) :=
  rda z0 10 520 x1 fun v1 =>
  if v1 = 0 then (
  rda z0 8 520 x2 fun v3 =>
  fX5_exchange_66 x1 x2 x3 x4 x5 t0 v3 z0)
  else
  rda z0 8 520 x1 fun v2 =>
  fX5_exchange_66 x1 x2 x3 x4 x5 t0 v2 z0
def fX5_exchange (a1 : Int32) (a2 : Int32) (a3 : Int32) (z0 : SH) : Option (Unit × SH) :=
  rda z0 9 520 a1 fun v1 =>
  rda z0 12 520 a2 fun v2 =>
  rda z0 10 520 a1 fun v3 =>
  if v3 = 0 then (
  rda z0 8 520 a1 fun v5 =>
  fX5_exchange_40 a1 a2 a3 v1 v2 v5 z0)
  else
  rda z0 8 520 a2 fun v4 =>
  fX5_exchange_40 a1 a2 a3 v1 v2 v4 z0
def fX5_match_274 (N : Nat) (x2 : Int32) (z0 : SH) : Option (Int32 × SH) :=
  gdb (isB x2) (some (x2, z0))
def fX5_match_252 (N : Nat) (k21 : Int32 → Int32 → Int32 → SH → Option (Int32 × SH)) (x1 : Int32) (x2 : Int32) (z0 : SH) : Option (Int32 × SH) :=
  rda z0 9 520 x1 fun v1 =>
  rda z0 10 520 x1 fun v2 =>
  bnd (fX5_first N v1 (1 - v2) z0) fun v4 z3 =>
  k21 x1 x2 v4 z3
def fX5_match_231 (N : Nat) (k21 : Int32 → Int32 → Int32 → SH → Option (Int32 × SH)) (x1 : Int32) (x2 : Int32) (x3 : Int32) (t0 : Int32) (t1 : Int32) (z0 : SH) : Option (Int32 × SH) :=
  wra z0 14 520 t1 t0 fun z1 =>
  rdi z1 3 fun v2 =>
  wra z1 19 520 x3 v2 fun z3 =>
  rdi z3 3 fun v4 =>
  wri z3 3 (v4 + 1) fun z5 =>
  fX5_match_252 N k21 x1 x2 z5
def fX5_match_103 (N : Nat) (k21 : Int32 → Int32 → Int32 → SH → Option (Int32 × SH)) (x1 : Int32) (x2 : Int32) (x3 : Int32) (t0 : Int32) (z0 : SH) : Option (Int32 × SH) :=
  bnd (fX5_exchange x1 x3 t0 z0) fun _ z1 =>
  rda z1 13 520 x1 fun v2 =>
  wra z1 13 520 x1 (v2 - t0) fun z3 =>
  rda z3 18 520 x1 fun v4 =>
  wra z3 18 520 x1 (v4 + t0) fun z5 =>
  rda z5 13 520 x3 fun v6 =>
  wra z5 13 520 x3 (v6 - t0) fun z7 =>
  rda z7 14 520 x3 fun v8 =>
  wra z7 14 520 x3 (v8 - t0) fun z9 =>
  rda z9 18 520 x3 fun v10 =>
  wra z9 18 520 x3 (v10 + t0) fun z11 =>
  rda z11 13 520 x3 fun v12 =>
  if v12 = 0 then (
  wra z11 16 520 x3 2 fun z18 =>
  fX5_match_252 N k21 x1 x2 z18)
  else
  rda z11 14 520 x3 fun v13 =>
  if v13 = 0 then (
  rda z11 13 520 x3 fun v14 =>
  rda z11 15 520 x3 fun v15 =>
  if v15 ≤ v14 then (
  rda z11 15 520 x3 fun v16 =>
  fX5_match_231 N k21 x1 x2 x3 v16 x3 z11)
  else
  rda z11 13 520 x3 fun v17 =>
  fX5_match_231 N k21 x1 x2 x3 v17 x3 z11)
  else
  fX5_match_252 N k21 x1 x2 z11
def fX5_match_68 (N : Nat) (k21 : Int32 → Int32 → Int32 → SH → Option (Int32 × SH)) (x1 : Int32) (x3 : Int32) (t0 : Int32) (z0 : SH) : Option (Int32 × SH) :=
  if t0 = 0 then (
  rda z0 13 520 x1 fun v1 =>
  rda z0 14 520 x3 fun v2 =>
  if v2 ≤ v1 then (
  rda z0 14 520 x3 fun v3 =>
  fX5_match_103 N k21 x1 t0 x3 v3 z0)
  else
  rda z0 13 520 x1 fun v4 =>
  fX5_match_103 N k21 x1 t0 x3 v4 z0)
  else
  k21 x1 t0 x3 z0
def fX5_match_21 (N : Nat) (k21 : Int32 → Int32 → Int32 → SH → Option (Int32 × SH)) (x1 : Int32) (x2 : Int32) (x3 : Int32) (z0 : SH) : Option (Int32 × SH) :=
  rda z0 13 520 x1 fun v1 =>
  if v1 ≤ 0 then (
  fX5_match_274 N x2 z0)
  else
  if x2 = 0 then (
  if x3 = (-1) then (
  fX5_match_274 N x2 z0)
  else
  bnd (fX5_allows x1 x3 z0) fun v3 z2 =>
  if v3 = 0 then (
  fX5_match_274 N x2 z2)
  else
  rda z2 8 520 x3 fun v4 =>
  rda z2 8 520 x1 fun v5 =>
  if v4 = v5 then (
  fX5_match_68 N k21 x1 x3 1 z2)
  else
  fX5_match_68 N k21 x1 x3 0 z2)
  else
  fX5_match_274 N x2 z0
def fX5_match_21_L (N : Nat) : Nat → Int32 → Int32 → Int32 → SH → Option (Int32 × SH)
  | 0 => fun _ _ _ _ => none
  | n + 1 => fun x1 x2 x3 z0 => fX5_match_21 N (fX5_match_21_L N n) x1 x2 x3 z0
def fX5_match (N : Nat) (a1 : Int32) (z0 : SH) : Option (Int32 × SH) :=
  rda z0 9 520 a1 fun v1 =>
  rda z0 10 520 a1 fun v2 =>
  bnd (fX5_first N v1 (1 - v2) z0) fun v4 z3 =>
  fX5_match_21_L N N a1 0 v4 z3
def fX5_wouldTrade_237 (N : Nat) (z0 : SH) : Option (Int32 × SH) :=
  gdb (isB 0) (some (0, z0))
def fX5_wouldTrade_354 (N : Nat) (k64 : Int32 → Int32 → Int32 → SH → Option (Int32 × SH)) (x1 : Int32) (x2 : Int32) (x3 : Int32) (z0 : SH) : Option (Int32 × SH) :=
  k64 x1 x2 x3 z0
def fX5_wouldTrade_342 (N : Nat) (k64 : Int32 → Int32 → Int32 → SH → Option (Int32 × SH)) (x1 : Int32) (x2 : Int32) (x3 : Int32) (x4 : Int32) (t0 : Int32) (t1 : Int32) (z0 : SH) : Option (Int32 × SH) :=
  wra z0 21 520 t1 t0 fun z1 =>
  wra z1 22 520 x4 x3 fun z2 =>
  fX5_wouldTrade_354 N k64 x1 x2 (x3 + 1) z2
def fX5_wouldTrade_261 (N : Nat) (k64 : Int32 → Int32 → Int32 → SH → Option (Int32 × SH)) (x1 : Int32) (x2 : Int32) (x3 : Int32) (x4 : Int32) (t0 : Int32) (z0 : SH) : Option (Int32 × SH) :=
  rda z0 20 520 x4 fun v1 =>
  wra z0 20 520 x4 (v1 - t0) fun z2 =>
  rda z2 21 520 x4 fun v3 =>
  wra z2 21 520 x4 (v3 - t0) fun z4 =>
  rda z4 21 520 x4 fun v5 =>
  if v5 = 0 then (
  rda z4 20 520 x4 fun v6 =>
  rda z4 15 520 x4 fun v7 =>
  if v7 ≤ v6 then (
  rda z4 15 520 x4 fun v8 =>
  fX5_wouldTrade_342 N k64 x1 (x2 - t0) x3 x4 v8 x4 z4)
  else
  rda z4 20 520 x4 fun v9 =>
  fX5_wouldTrade_342 N k64 x1 (x2 - t0) x3 x4 v9 x4 z4)
  else
  fX5_wouldTrade_354 N k64 x1 (x2 - t0) x3 z4
def fX5_wouldTrade_199 (N : Nat) (k64 : Int32 → Int32 → Int32 → SH → Option (Int32 × SH)) (k74 : Int32 → Int32 → Int32 → Int32 → Int32 → SH → Option (Int32 × SH)) (x1 : Int32) (x2 : Int32) (x3 : Int32) (x4 : Int32) (x5 : Int32) (z0 : SH) : Option (Int32 × SH) :=
  k74 x1 x2 x3 x4 (x5 + 1) z0
def fX5_wouldTrade_195 (N : Nat) (k64 : Int32 → Int32 → Int32 → SH → Option (Int32 × SH)) (k74 : Int32 → Int32 → Int32 → Int32 → Int32 → SH → Option (Int32 × SH)) (x1 : Int32) (x2 : Int32) (x3 : Int32) (x5 : Int32) (z0 : SH) : Option (Int32 × SH) :=
  fX5_wouldTrade_199 N k64 k74 x1 x2 x3 x5 x5 z0
def fX5_wouldTrade_121 (N : Nat) (k64 : Int32 → Int32 → Int32 → SH → Option (Int32 × SH)) (k74 : Int32 → Int32 → Int32 → Int32 → Int32 → SH → Option (Int32 × SH)) (x1 : Int32) (x2 : Int32) (x3 : Int32) (x4 : Int32) (x5 : Int32) (t0 : Int32) (z0 : SH) : Option (Int32 × SH) :=
  if t0 = 0 then (
  fX5_wouldTrade_199 N k64 k74 x1 x2 x3 x4 x5 z0)
  else
  if x4 = (-1) then (
  fX5_wouldTrade_195 N k64 k74 x1 x2 x3 x5 z0)
  else
  rda z0 10 520 x5 fun v1 =>
  rda z0 12 520 x5 fun v2 =>
  rda z0 12 520 x4 fun v3 =>
  bnd (fX5_isBetter v1 v2 v3 z0) fun v5 z4 =>
  if v5 = 0 then (
  rda z4 12 520 x5 fun v6 =>
  rda z4 12 520 x4 fun v7 =>
  if v6 = v7 then (
  rda z4 22 520 x5 fun v8 =>
  rda z4 22 520 x4 fun v9 =>
  if v9 ≤ v8 then (
  fX5_wouldTrade_199 N k64 k74 x1 x2 x3 x4 x5 z4)
  else
  fX5_wouldTrade_195 N k64 k74 x1 x2 x3 x5 z4)
  else
  fX5_wouldTrade_199 N k64 k74 x1 x2 x3 x4 x5 z4)
  else
  fX5_wouldTrade_195 N k64 k74 x1 x2 x3 x5 z4
def fX5_wouldTrade_120 (N : Nat) (k64 : Int32 → Int32 → Int32 → SH → Option (Int32 × SH)) (k74 : Int32 → Int32 → Int32 → Int32 → Int32 → SH → Option (Int32 × SH)) (x1 : Int32) (x2 : Int32) (x3 : Int32) (x4 : Int32) (x5 : Int32) (z0 : SH) : Option (Int32 × SH) :=
  fX5_wouldTrade_121 N k64 k74 x1 x2 x3 x4 x5 0 z0
def fX5_wouldTrade_74 (N : Nat) (k64 : Int32 → Int32 → Int32 → SH → Option (Int32 × SH)) (k74 : Int32 → Int32 → Int32 → Int32 → Int32 → SH → Option (Int32 × SH)) (x1 : Int32) (x2 : Int32) (x3 : Int32) (x4 : Int32) (x5 : Int32) (z0 : SH) : Option (Int32 × SH) :=
  rdi z0 2 fun v1 =>
  if v1 ≤ x5 then (
  if x4 = (-1) then (
  fX5_wouldTrade_237 N z0)
  else
  bnd (fX5_allows x1 x4 z0) fun v3 z2 =>
  if v3 = 0 then (
  fX5_wouldTrade_237 N z2)
  else
  rda z2 8 520 x4 fun v4 =>
  rda z2 8 520 x1 fun v5 =>
  if v4 = v5 then (
  fX5_wouldTrade_237 N z2)
  else
  rda z2 21 520 x4 fun v6 =>
  if v6 ≤ x2 then (
  rda z2 21 520 x4 fun v7 =>
  fX5_wouldTrade_261 N k64 x1 x2 x3 x4 v7 z2)
  else
  fX5_wouldTrade_261 N k64 x1 x2 x3 x4 x2 z2)
  else
  rda z0 9 520 x1 fun v8 =>
  rda z0 10 520 x1 fun v9 =>
  bnd (fX5_rests x5 v8 (1 - v9) z0) fun v11 z10 =>
  if v11 = 0 then (
  fX5_wouldTrade_120 N k64 k74 x1 x2 x3 x4 x5 z10)
  else
  rda z10 20 520 x5 fun v12 =>
  if v12 ≤ 0 then (
  fX5_wouldTrade_120 N k64 k74 x1 x2 x3 x4 x5 z10)
  else
  fX5_wouldTrade_121 N k64 k74 x1 x2 x3 x4 x5 1 z10
def fX5_wouldTrade_74_L (N : Nat) (k64 : Int32 → Int32 → Int32 → SH → Option (Int32 × SH)) : Nat → Int32 → Int32 → Int32 → Int32 → Int32 → SH → Option (Int32 × SH)
  | 0 => fun _ _ _ _ _ _ => none
  | n + 1 => fun x1 x2 x3 x4 x5 z0 => fX5_wouldTrade_74 N k64 (fX5_wouldTrade_74_L N k64 n) x1 x2 x3 x4 x5 z0
def fX5_wouldTrade_64 (N : Nat) (k64 : Int32 → Int32 → Int32 → SH → Option (Int32 × SH)) (x1 : Int32) (x2 : Int32) (x3 : Int32) (z0 : SH) : Option (Int32 × SH) :=
  if x2 ≤ 0 then (
  gdb (isB 1) (some (1, z0)))
  else
  fX5_wouldTrade_74_L N k64 N x1 x2 x3 ((-1)) 0 z0
def fX5_wouldTrade_64_L (N : Nat) : Nat → Int32 → Int32 → Int32 → SH → Option (Int32 × SH)
  | 0 => fun _ _ _ _ => none
  | n + 1 => fun x1 x2 x3 z0 => fX5_wouldTrade_64 N (fX5_wouldTrade_64_L N n) x1 x2 x3 z0
def fX5_wouldTrade_2 (N : Nat) (k2 : Int32 → Int32 → SH → Option (Int32 × SH)) (x1 : Int32) (x2 : Int32) (z0 : SH) : Option (Int32 × SH) :=
  rdi z0 2 fun v1 =>
  if v1 ≤ x2 then (
  rda z0 13 520 x1 fun v2 =>
  rdi z0 3 fun v3 =>
  fX5_wouldTrade_64_L N N x1 v2 v3 z0)
  else
  rda z0 13 520 x2 fun v4 =>
  wra z0 20 520 x2 v4 fun z5 =>
  rda z5 14 520 x2 fun v6 =>
  wra z5 21 520 x2 v6 fun z7 =>
  rda z7 19 520 x2 fun v8 =>
  wra z7 22 520 x2 v8 fun z9 =>
  k2 x1 (x2 + 1) z9
def fX5_wouldTrade_2_L (N : Nat) : Nat → Int32 → Int32 → SH → Option (Int32 × SH)
  | 0 => fun _ _ _ => none
  | n + 1 => fun x1 x2 z0 => fX5_wouldTrade_2 N (fX5_wouldTrade_2_L N n) x1 x2 z0
def fX5_wouldTrade (N : Nat) (a1 : Int32) (z0 : SH) : Option (Int32 × SH) :=
  fX5_wouldTrade_2_L N N a1 0 z0
def fX5_rest_52 (x1 : Int32) (t0 : Int32) (t1 : Int32) (z0 : SH) : Option (Unit × SH) :=
  wra z0 14 520 t1 t0 fun z1 =>
  rdi z1 3 fun v2 =>
  wra z1 19 520 x1 v2 fun z3 =>
  rdi z3 3 fun v4 =>
  wri z3 3 (v4 + 1) fun z5 =>
  some ((), z5)
def fX5_rest_46 (x1 : Int32) (t0 : Int32) (z0 : SH) : Option (Unit × SH) :=
  rda z0 13 520 x1 fun v1 =>
  fX5_rest_52 x1 v1 t0 z0
def fX5_rest (a1 : Int32) (z0 : SH) : Option (Unit × SH) :=
  wra z0 16 520 a1 0 fun z1 =>
  rda z1 11 520 a1 fun v2 =>
  if v2 = 4 then (
  rda z1 15 520 a1 fun v3 =>
  rda z1 13 520 a1 fun v4 =>
  if v4 ≤ v3 then (
  fX5_rest_46 a1 a1 z1)
  else
  rda z1 15 520 a1 fun v5 =>
  fX5_rest_52 a1 v5 a1 z1)
  else
  fX5_rest_46 a1 a1 z1
def fX5_finish_36 (z0 : SH) : Option (Unit × SH) :=
  some ((), z0)
def fX5_finish (a1 : Int32) (a2 : Int32) (z0 : SH) : Option (Unit × SH) :=
  rda z0 13 520 a1 fun v1 =>
  if v1 = 0 then (
  wra z0 16 520 a1 2 fun z4 =>
  fX5_finish_36 z4)
  else
  if a2 = 0 then (
  bnd (fX5_cancelled a1 z0) fun _ z2 =>
  fX5_finish_36 z2)
  else
  bnd (fX5_rest a1 z0) fun _ z3 =>
  fX5_finish_36 z3
def fX5_act_125 (N : Nat) (z0 : SH) : Option (Unit × SH) :=
  some ((), z0)
def fX5_act_122 (N : Nat) (t0 : Int32) (t1 : Int32) (z0 : SH) : Option (Unit × SH) :=
  bnd (fX5_finish t1 t0 z0) fun _ z1 =>
  fX5_act_125 N z1
def fX5_act_121 (N : Nat) (t0 : Int32) (z0 : SH) : Option (Unit × SH) :=
  fX5_act_122 N 0 t0 z0
def fX5_act_117 (N : Nat) (t0 : Int32) (z0 : SH) : Option (Unit × SH) :=
  fX5_act_122 N 1 t0 z0
def fX5_act_94 (N : Nat) (x1 : Int32) (x2 : Int32) (z0 : SH) : Option (Unit × SH) :=
  bnd (fX5_match N x1 z0) fun v2 z1 =>
  if v2 = 0 then (
  if x2 = 0 then (
  fX5_act_117 N x1 z1)
  else
  if x2 = 4 then (
  fX5_act_117 N x1 z1)
  else
  fX5_act_121 N x1 z1)
  else
  fX5_act_121 N x1 z1
def fX5_act_67 (N : Nat) (t0 : Int32) (t1 : Int32) (z0 : SH) : Option (Unit × SH) :=
  bnd (fX5_finish t1 t0 z0) fun _ z1 =>
  fX5_act_125 N z1
def fX5_act_62 (N : Nat) (t0 : Int32) (z0 : SH) : Option (Unit × SH) :=
  fX5_act_67 N 1 t0 z0
def fX5_act (N : Nat) (a1 : Int32) (z0 : SH) : Option (Unit × SH) :=
  rda z0 11 520 a1 fun v1 =>
  rda z0 9 520 a1 fun v2 =>
  rda z0 10 520 a1 fun v3 =>
  bnd (fX5_first N v2 (1 - v3) z0) fun v5 z4 =>
  if v1 = 5 then (
  wra z4 16 520 a1 1 fun z11 =>
  fX5_act_125 N z11)
  else
  if v1 = 3 then (
  if v5 = (-1) then (
  fX5_act_62 N a1 z4)
  else
  bnd (fX5_allows a1 v5 z4) fun v10 z9 =>
  if v10 = 0 then (
  fX5_act_62 N a1 z9)
  else
  fX5_act_67 N 0 a1 z9)
  else
  if v1 = 2 then (
  bnd (fX5_wouldTrade N a1 z4) fun v7 z6 =>
  if v7 = 0 then (
  bnd (fX5_cancelled a1 z6) fun _ z8 =>
  fX5_act_125 N z8)
  else
  fX5_act_94 N a1 v1 z6)
  else
  fX5_act_94 N a1 v1 z4
def fX5_ready_93 (N : Nat) (k2 : Int32 → Int32 → SH → Option (Int32 × SH)) (x1 : Int32) (x2 : Int32) (z0 : SH) : Option (Int32 × SH) :=
  k2 x1 (x2 + 1) z0
def fX5_ready_91 (N : Nat) (x2 : Int32) (z0 : SH) : Option (Int32 × SH) :=
  some (x2, z0)
def fX5_ready_44 (N : Nat) (k2 : Int32 → Int32 → SH → Option (Int32 × SH)) (x1 : Int32) (x2 : Int32) (t0 : Int32) (z0 : SH) : Option (Int32 × SH) :=
  if t0 = 0 then (
  fX5_ready_93 N k2 x1 x2 z0)
  else
  rda z0 10 520 x2 fun v1 =>
  if v1 = 0 then (
  rda z0 24 4 x1 fun v4 =>
  rda z0 15 520 x2 fun v5 =>
  if v4 < v5 then (
  fX5_ready_93 N k2 x1 x2 z0)
  else
  fX5_ready_91 N x2 z0)
  else
  rda z0 24 4 x1 fun v2 =>
  rda z0 15 520 x2 fun v3 =>
  if v3 < v2 then (
  fX5_ready_93 N k2 x1 x2 z0)
  else
  fX5_ready_91 N x2 z0
def fX5_ready_43 (N : Nat) (k2 : Int32 → Int32 → SH → Option (Int32 × SH)) (x1 : Int32) (x2 : Int32) (z0 : SH) : Option (Int32 × SH) :=
  fX5_ready_44 N k2 x1 x2 0 z0
def fX5_ready_2 (N : Nat) (k2 : Int32 → Int32 → SH → Option (Int32 × SH)) (x1 : Int32) (x2 : Int32) (z0 : SH) : Option (Int32 × SH) :=
  rdi z0 2 fun v1 =>
  if v1 ≤ x2 then (
  some ((-1), z0))
  else
  rda z0 16 520 x2 fun v2 =>
  if v2 = 1 then (
  rda z0 9 520 x2 fun v3 =>
  if v3 = x1 then (
  rda z0 24 4 x1 fun v4 =>
  if v4 ≤ 0 then (
  fX5_ready_43 N k2 x1 x2 z0)
  else
  fX5_ready_44 N k2 x1 x2 1 z0)
  else
  fX5_ready_43 N k2 x1 x2 z0)
  else
  fX5_ready_43 N k2 x1 x2 z0
def fX5_ready_2_L (N : Nat) : Nat → Int32 → Int32 → SH → Option (Int32 × SH)
  | 0 => fun _ _ _ => none
  | n + 1 => fun x1 x2 z0 => fX5_ready_2 N (fX5_ready_2_L N n) x1 x2 z0
def fX5_ready (N : Nat) (a1 : Int32) (z0 : SH) : Option (Int32 × SH) :=
  fX5_ready_2_L N N a1 0 z0
def fX5_order_319 (N : Nat) (k319 : Int32 → Int32 → Int32 → SH → Option (Int32 × SH)) (x2 : Int32) (x11 : Int32) (x12 : Int32) (z0 : SH) : Option (Int32 × SH) :=
  if x12 = (-1) then (
  some (x11, z0))
  else
  wra z0 11 520 x12 0 fun z1 =>
  wra z1 16 520 x12 3 fun z2 =>
  bnd (fX5_act N x12 z2) fun _ z3 =>
  bnd (fX5_ready N x2 z3) fun v5 z4 =>
  k319 x2 x11 v5 z4
def fX5_order_319_L (N : Nat) : Nat → Int32 → Int32 → Int32 → SH → Option (Int32 × SH)
  | 0 => fun _ _ _ _ => none
  | n + 1 => fun x2 x11 x12 z0 => fX5_order_319 N (fX5_order_319_L N n) x2 x11 x12 z0
def fX5_order_201 (N : Nat) (x1 : Int32) (x2 : Int32) (x3 : Int32) (x4 : Int32) (x5 : Int32) (x6 : Int32) (x7 : Int32) (t0 : Int32) (z0 : SH) : Option (Int32 × SH) :=
  wri z0 0 t0 fun z1 =>
  rdi z1 0 fun v2 =>
  if v2 ≤ 0 then (
  rdi z1 2 fun v3 =>
  rdi z1 2 fun v4 =>
  wri z1 2 (v4 + 1) fun z5 =>
  wra z5 8 520 v3 x1 fun z6 =>
  wra z6 9 520 v3 x2 fun z7 =>
  wra z7 10 520 v3 x3 fun z8 =>
  wra z8 11 520 v3 x4 fun z9 =>
  wra z9 12 520 v3 x5 fun z10 =>
  wra z10 13 520 v3 x6 fun z11 =>
  wra z11 15 520 v3 x7 fun z12 =>
  wra z12 16 520 v3 3 fun z13 =>
  bnd (fX5_free v3 (-x6) z13) fun _ z14 =>
  bnd (fX5_act N v3 z14) fun _ z15 =>
  bnd (fX5_ready N x2 z15) fun v17 z16 =>
  fX5_order_319_L N N x2 v3 v17 z16)
  else
  some (0, z1)
def fX5_order_170 (N : Nat) (x1 : Int32) (x2 : Int32) (x3 : Int32) (x4 : Int32) (x5 : Int32) (x6 : Int32) (x7 : Int32) (x8 : Int32) (x9 : Int32) (t0 : Int32) (z0 : SH) : Option (Int32 × SH) :=
  if x8 = 0 then (
  fX5_order_201 N x1 x2 x3 x4 x5 x6 x7 1 z0)
  else
  if x9 = 0 then (
  fX5_order_201 N x1 x2 x3 x4 x5 x6 x7 2 z0)
  else
  if t0 = 0 then (
  fX5_order_201 N x1 x2 x3 x4 x5 x6 x7 3 z0)
  else
  fX5_order_201 N x1 x2 x3 x4 x5 x6 x7 0 z0
def fX5_order_169 (N : Nat) (x1 : Int32) (x2 : Int32) (x3 : Int32) (x4 : Int32) (x5 : Int32) (x6 : Int32) (x7 : Int32) (x8 : Int32) (x9 : Int32) (z0 : SH) : Option (Int32 × SH) :=
  fX5_order_170 N x1 x2 x3 x4 x5 x6 x7 x8 x9 0 z0
def fX5_order_165 (N : Nat) (x1 : Int32) (x2 : Int32) (x3 : Int32) (x4 : Int32) (x5 : Int32) (x6 : Int32) (x7 : Int32) (x8 : Int32) (x9 : Int32) (z0 : SH) : Option (Int32 × SH) :=
  fX5_order_170 N x1 x2 x3 x4 x5 x6 x7 x8 x9 1 z0
def fX5_order_87 (N : Nat) (x1 : Int32) (x2 : Int32) (x3 : Int32) (x4 : Int32) (x5 : Int32) (x6 : Int32) (x7 : Int32) (x8 : Int32) (t0 : Int32) (z0 : SH) : Option (Int32 × SH) :=
  if x8 = 0 then (
  fX5_order_169 N x1 x2 x3 x4 x5 x6 x7 x8 t0 z0)
  else
  if t0 = 0 then (
  fX5_order_169 N x1 x2 x3 x4 x5 x6 x7 x8 t0 z0)
  else
  bnd (fX5_there N z0) fun v2 z1 =>
  if 100 ≤ v2 then (
  fX5_order_169 N x1 x2 x3 x4 x5 x6 x7 x8 t0 z1)
  else
  if x3 = 0 then (
  rdl z1 1 512 x1 fun v9 =>
  rdl z1 2 512 x1 fun v10 =>
  if lg_cmp (v9 - v10) ((x5.toInt64) * (x6.toInt64)) < 0 then (
  fX5_order_169 N x1 x2 x3 x4 x5 x6 x7 x8 t0 z1)
  else
  fX5_order_165 N x1 x2 x3 x4 x5 x6 x7 x8 t0 z1)
  else
  bnd (fX5_cell x1 x2 z1) fun v4 z3 =>
  rda z3 3 2048 v4 fun v5 =>
  bnd (fX5_cell x1 x2 z3) fun v7 z6 =>
  rda z6 4 2048 v7 fun v8 =>
  if v5 - v8 < x6 then (
  fX5_order_169 N x1 x2 x3 x4 x5 x6 x7 x8 t0 z6)
  else
  fX5_order_165 N x1 x2 x3 x4 x5 x6 x7 x8 t0 z6
def fX5_order_86 (N : Nat) (x1 : Int32) (x2 : Int32) (x3 : Int32) (x4 : Int32) (x5 : Int32) (x6 : Int32) (x7 : Int32) (x8 : Int32) (z0 : SH) : Option (Int32 × SH) :=
  fX5_order_87 N x1 x2 x3 x4 x5 x6 x7 x8 0 z0
def fX5_order_82 (N : Nat) (x1 : Int32) (x2 : Int32) (x3 : Int32) (x4 : Int32) (x5 : Int32) (x6 : Int32) (x7 : Int32) (x8 : Int32) (z0 : SH) : Option (Int32 × SH) :=
  fX5_order_87 N x1 x2 x3 x4 x5 x6 x7 x8 1 z0
def fX5_order_19 (N : Nat) (x1 : Int32) (x2 : Int32) (x3 : Int32) (x4 : Int32) (x5 : Int32) (x6 : Int32) (x7 : Int32) (t0 : Int32) (z0 : SH) : Option (Int32 × SH) :=
  bnd (fX5_isIn x3 0 1 z0) fun v2 z1 =>
  if v2 = 0 then (
  fX5_order_86 N x1 x2 x3 x4 x5 x6 x7 t0 z1)
  else
  bnd (fX5_isIn x4 0 5 z1) fun v4 z3 =>
  if v4 = 0 then (
  fX5_order_86 N x1 x2 x3 x4 x5 x6 x7 t0 z3)
  else
  bnd (fX5_isIn x5 1 10000 z3) fun v6 z5 =>
  if v6 = 0 then (
  fX5_order_86 N x1 x2 x3 x4 x5 x6 x7 t0 z5)
  else
  bnd (fX5_isIn x6 1 10000 z5) fun v8 z7 =>
  if v8 = 0 then (
  fX5_order_86 N x1 x2 x3 x4 x5 x6 x7 t0 z7)
  else
  if x4 < 4 then (
  fX5_order_82 N x1 x2 x3 x4 x5 x6 x7 t0 z7)
  else
  bnd (fX5_isIn x7 1 10000 z7) fun v10 z9 =>
  if v10 = 0 then (
  fX5_order_86 N x1 x2 x3 x4 x5 x6 x7 t0 z9)
  else
  fX5_order_82 N x1 x2 x3 x4 x5 x6 x7 t0 z9
def fX5_order_18 (N : Nat) (x1 : Int32) (x2 : Int32) (x3 : Int32) (x4 : Int32) (x5 : Int32) (x6 : Int32) (x7 : Int32) (z0 : SH) : Option (Int32 × SH) :=
  fX5_order_19 N x1 x2 x3 x4 x5 x6 x7 0 z0
def fX5_order (N : Nat) (a1 : Int32) (a2 : Int32) (a3 : Int32) (a4 : Int32) (a5 : Int32) (a6 : Int32) (a7 : Int32) (z0 : SH) : Option (Int32 × SH) :=
  bnd (fX5_isAccount a1 z0) fun v2 z1 =>
  if v2 = 0 then (
  fX5_order_18 N a1 a2 a3 a4 a5 a6 a7 z1)
  else
  bnd (fX5_isSymbol a2 z1) fun v4 z3 =>
  if v4 = 0 then (
  fX5_order_18 N a1 a2 a3 a4 a5 a6 a7 z3)
  else
  fX5_order_19 N a1 a2 a3 a4 a5 a6 a7 1 z3
def fX5_refusal_21 (z0 : SH) : Option (Int32 × SH) :=
  some (1, z0)
def fX5_refusal_54 (t0 : Int32) (z0 : SH) : Option (Int32 × SH) :=
  some (t0, z0)
def fX5_refusal_37 (z0 : SH) : Option (Int32 × SH) :=
  fX5_refusal_54 2 z0
def fX5_refusal (a1 : Int32) (a2 : Int32) (a3 : Int32) (z0 : SH) : Option (Int32 × SH) :=
  bnd (fX5_isAccount a1 z0) fun v2 z1 =>
  if v2 = 0 then (
  fX5_refusal_21 z1)
  else
  rdi z1 2 fun v3 =>
  bnd (fX5_isIn a2 0 (v3 - 1) z1) fun v5 z4 =>
  if v5 = 0 then (
  fX5_refusal_21 z4)
  else
  rda z4 8 520 a2 fun v6 =>
  if v6 = a1 then (
  if a3 = 0 then (
  fX5_refusal_37 z4)
  else
  bnd (fX5_isThere a2 z4) fun v8 z7 =>
  if v8 = 0 then (
  fX5_refusal_54 3 z7)
  else
  fX5_refusal_54 0 z7)
  else
  fX5_refusal_37 z4
def fX5_cancel (a1 : Int32) (a2 : Int32) (z0 : SH) : Option (Int32 × SH) :=
  bnd (fX5_refusal a1 a2 1 z0) fun v2 z1 =>
  wri z1 0 v2 fun z3 =>
  rdi z3 0 fun v4 =>
  if v4 ≤ 0 then (
  rda z3 13 520 a2 fun v5 =>
  bnd (fX5_cancelled a2 z3) fun _ z6 =>
  some (v5, z6))
  else
  some (0, z3)
def fX5_reduce_109 (x2 : Int32) (t0 : Int32) (t1 : Int32) (z0 : SH) : Option (Int32 × SH) :=
  wra z0 14 520 t1 t0 fun z1 =>
  rda z1 13 520 x2 fun v2 =>
  some (v2, z1)
def fX5_reduce_46 (x2 : Int32) (x3 : Int32) (t0 : Int32) (z0 : SH) : Option (Int32 × SH) :=
  wri z0 0 t0 fun z1 =>
  rdi z1 0 fun v2 =>
  if v2 ≤ 0 then (
  bnd (fX5_free x2 x3 z1) fun _ z3 =>
  rda z3 13 520 x2 fun v4 =>
  wra z3 13 520 x2 (v4 - x3) fun z5 =>
  rda z5 14 520 x2 fun v6 =>
  rda z5 13 520 x2 fun v7 =>
  if v6 ≤ v7 then (
  rda z5 14 520 x2 fun v8 =>
  fX5_reduce_109 x2 v8 x2 z5)
  else
  rda z5 13 520 x2 fun v9 =>
  fX5_reduce_109 x2 v9 x2 z5)
  else
  some (0, z1)
def fX5_reduce_42 (x2 : Int32) (x3 : Int32) (z0 : SH) : Option (Int32 × SH) :=
  rdi z0 0 fun v1 =>
  fX5_reduce_46 x2 x3 v1 z0
def fX5_reduce_14 (x2 : Int32) (x3 : Int32) (t0 : Int32) (t1 : Int32) (t2 : Int32) (z0 : SH) : Option (Int32 × SH) :=
  bnd (fX5_refusal t2 t1 t0 z0) fun v2 z1 =>
  wri z1 0 v2 fun z3 =>
  rdi z3 0 fun v4 =>
  if v4 = 0 then (
  rda z3 13 520 x2 fun v5 =>
  if x3 < v5 then (
  fX5_reduce_42 x2 x3 z3)
  else
  fX5_reduce_46 x2 x3 3 z3)
  else
  fX5_reduce_42 x2 x3 z3
def fX5_reduce (a1 : Int32) (a2 : Int32) (a3 : Int32) (z0 : SH) : Option (Int32 × SH) :=
  if a3 < 1 then (
  fX5_reduce_14 a2 a3 0 a2 a1 z0)
  else
  fX5_reduce_14 a2 a3 1 a2 a1 z0
def fX5_until_64 (z0 : SH) : Option (Unit × SH) :=
  some ((), z0)
def fX5_until_47 (x2 : Int32) (x3 : Int32) (t0 : Int32) (z0 : SH) : Option (Unit × SH) :=
  wri z0 0 t0 fun z1 =>
  rdi z1 0 fun v2 =>
  if v2 = 0 then (
  wra z1 17 520 x2 x3 fun z3 =>
  fX5_until_64 z3)
  else
  fX5_until_64 z1
def fX5_until_43 (x2 : Int32) (x3 : Int32) (z0 : SH) : Option (Unit × SH) :=
  rdi z0 0 fun v1 =>
  fX5_until_47 x2 x3 v1 z0
def fX5_until_13 (x2 : Int32) (x3 : Int32) (t0 : Int32) (t1 : Int32) (t2 : Int32) (z0 : SH) : Option (Unit × SH) :=
  bnd (fX5_refusal t2 t1 t0 z0) fun v2 z1 =>
  wri z1 0 v2 fun z3 =>
  rdi z3 0 fun v4 =>
  if v4 = 0 then (
  if x3 = 0 then (
  fX5_until_43 x2 x3 z3)
  else
  rdi z3 1 fun v5 =>
  if v5 < x3 then (
  fX5_until_43 x2 x3 z3)
  else
  fX5_until_47 x2 x3 3 z3)
  else
  fX5_until_43 x2 x3 z3
def fX5_until (a1 : Int32) (a2 : Int32) (a3 : Int32) (z0 : SH) : Option (Unit × SH) :=
  if a3 < 0 then (
  fX5_until_13 a2 a3 0 a2 a1 z0)
  else
  fX5_until_13 a2 a3 1 a2 a1 z0
def fX5_pass_88 (N : Nat) (k42 : Int32 → Int32 → SH → Option (Int32 × SH)) (x2 : Int32) (x3 : Int32) (z0 : SH) : Option (Int32 × SH) :=
  k42 x2 (x3 + 1) z0
def fX5_pass_42 (N : Nat) (k42 : Int32 → Int32 → SH → Option (Int32 × SH)) (x2 : Int32) (x3 : Int32) (z0 : SH) : Option (Int32 × SH) :=
  rdi z0 2 fun v1 =>
  if v1 ≤ x3 then (
  some (x2, z0))
  else
  bnd (fX5_isThere x3 z0) fun v3 z2 =>
  if v3 = 0 then (
  fX5_pass_88 N k42 x2 x3 z2)
  else
  rda z2 17 520 x3 fun v4 =>
  if v4 ≤ 0 then (
  fX5_pass_88 N k42 x2 x3 z2)
  else
  rda z2 17 520 x3 fun v5 =>
  rdi z2 1 fun v6 =>
  if v6 < v5 then (
  fX5_pass_88 N k42 x2 x3 z2)
  else
  bnd (fX5_cancelled x3 z2) fun _ z7 =>
  fX5_pass_88 N k42 (x2 + 1) x3 z7
def fX5_pass_42_L (N : Nat) : Nat → Int32 → Int32 → SH → Option (Int32 × SH)
  | 0 => fun _ _ _ => none
  | n + 1 => fun x2 x3 z0 => fX5_pass_42 N (fX5_pass_42_L N n) x2 x3 z0
def fX5_pass_16 (N : Nat) (x1 : Int32) (t0 : Int32) (z0 : SH) : Option (Int32 × SH) :=
  wri z0 0 t0 fun z1 =>
  rdi z1 0 fun v2 =>
  if v2 ≤ 0 then (
  rdi z1 1 fun v3 =>
  wri z1 1 (v3 + x1) fun z4 =>
  fX5_pass_42_L N N 0 0 z4)
  else
  some (0, z1)
def fX5_pass (N : Nat) (a1 : Int32) (z0 : SH) : Option (Int32 × SH) :=
  bnd (fX5_isIn a1 0 1000000 z0) fun v2 z1 =>
  if v2 = 0 then (
  fX5_pass_16 N a1 1 z1)
  else
  fX5_pass_16 N a1 0 z1
def fX5_best_82 (N : Nat) (t0 : Int32) (z0 : SH) : Option (Int32 × SH) :=
  some (t0, z0)
def fX5_best_62 (N : Nat) (x3 : Int32) (t0 : Int32) (z0 : SH) : Option (Int32 × SH) :=
  wri z0 0 t0 fun z1 =>
  rdi z1 0 fun v2 =>
  if v2 ≤ 0 then (
  rda z1 12 520 x3 fun v3 =>
  fX5_best_82 N v3 z1)
  else
  fX5_best_82 N 0 z1
def fX5_best_26 (N : Nat) (x1 : Int32) (x2 : Int32) (t0 : Int32) (z0 : SH) : Option (Int32 × SH) :=
  bnd (fX5_isSymbol x1 z0) fun v2 z1 =>
  if v2 = 0 then (
  fX5_best_62 N t0 1 z1)
  else
  bnd (fX5_isIn x2 0 1 z1) fun v4 z3 =>
  if v4 = 0 then (
  fX5_best_62 N t0 2 z3)
  else
  if t0 = (-1) then (
  fX5_best_62 N t0 3 z3)
  else
  fX5_best_62 N t0 0 z3
def fX5_best_25 (N : Nat) (x1 : Int32) (x2 : Int32) (z0 : SH) : Option (Int32 × SH) :=
  fX5_best_26 N x1 x2 ((-1)) z0
def fX5_best (N : Nat) (a1 : Int32) (a2 : Int32) (z0 : SH) : Option (Int32 × SH) :=
  bnd (fX5_isSymbol a1 z0) fun v2 z1 =>
  if v2 = 0 then (
  fX5_best_25 N a1 a2 z1)
  else
  bnd (fX5_isIn a2 0 1 z1) fun v4 z3 =>
  if v4 = 0 then (
  fX5_best_25 N a1 a2 z3)
  else
  bnd (fX5_first N a1 a2 z3) fun v6 z5 =>
  fX5_best_26 N a1 a2 v6 z5
def fX5_priceAt_106 (N : Nat) (k6 : Int32 → Int32 → Int32 → Int32 → Int32 → SH → Option (Int32 × SH)) (k18 : Int32 → Int32 → Int32 → Int32 → Int32 → Int32 → Int32 → SH → Option (Int32 × SH)) (x1 : Int32) (x2 : Int32) (x3 : Int32) (x4 : Int32) (x5 : Int32) (x7 : Int32) (t0 : Int32) (z0 : SH) : Option (Int32 × SH) :=
  k18 x1 x2 x3 x4 x5 t0 (x7 + 1) z0
def fX5_priceAt_104 (N : Nat) (k6 : Int32 → Int32 → Int32 → Int32 → Int32 → SH → Option (Int32 × SH)) (k18 : Int32 → Int32 → Int32 → Int32 → Int32 → Int32 → Int32 → SH → Option (Int32 × SH)) (x1 : Int32) (x2 : Int32) (x3 : Int32) (x4 : Int32) (x5 : Int32) (x6 : Int32) (x7 : Int32) (z0 : SH) : Option (Int32 × SH) :=
  fX5_priceAt_106 N k6 k18 x1 x2 x3 x4 x5 x7 x6 z0
def fX5_priceAt_94 (N : Nat) (k6 : Int32 → Int32 → Int32 → Int32 → Int32 → SH → Option (Int32 × SH)) (k18 : Int32 → Int32 → Int32 → Int32 → Int32 → Int32 → Int32 → SH → Option (Int32 × SH)) (x1 : Int32) (x2 : Int32) (x3 : Int32) (x4 : Int32) (x5 : Int32) (x7 : Int32) (z0 : SH) : Option (Int32 × SH) :=
  rda z0 12 520 x7 fun v1 =>
  fX5_priceAt_106 N k6 k18 x1 x2 x3 x4 x5 x7 v1 z0
def fX5_priceAt_65 (N : Nat) (k6 : Int32 → Int32 → Int32 → Int32 → Int32 → SH → Option (Int32 × SH)) (k18 : Int32 → Int32 → Int32 → Int32 → Int32 → Int32 → Int32 → SH → Option (Int32 × SH)) (x1 : Int32) (x2 : Int32) (x3 : Int32) (x4 : Int32) (x5 : Int32) (x6 : Int32) (x7 : Int32) (t0 : Int32) (z0 : SH) : Option (Int32 × SH) :=
  if t0 = 0 then (
  fX5_priceAt_104 N k6 k18 x1 x2 x3 x4 x5 x6 x7 z0)
  else
  if x6 = (-1) then (
  fX5_priceAt_94 N k6 k18 x1 x2 x3 x4 x5 x7 z0)
  else
  rda z0 12 520 x7 fun v1 =>
  bnd (fX5_isBetter x2 v1 x6 z0) fun v3 z2 =>
  if v3 = 0 then (
  fX5_priceAt_104 N k6 k18 x1 x2 x3 x4 x5 x6 x7 z2)
  else
  fX5_priceAt_94 N k6 k18 x1 x2 x3 x4 x5 x7 z2
def fX5_priceAt_64 (N : Nat) (k6 : Int32 → Int32 → Int32 → Int32 → Int32 → SH → Option (Int32 × SH)) (k18 : Int32 → Int32 → Int32 → Int32 → Int32 → Int32 → Int32 → SH → Option (Int32 × SH)) (x1 : Int32) (x2 : Int32) (x3 : Int32) (x4 : Int32) (x5 : Int32) (x6 : Int32) (x7 : Int32) (z0 : SH) : Option (Int32 × SH) :=
  fX5_priceAt_65 N k6 k18 x1 x2 x3 x4 x5 x6 x7 0 z0
def fX5_priceAt_60 (N : Nat) (k6 : Int32 → Int32 → Int32 → Int32 → Int32 → SH → Option (Int32 × SH)) (k18 : Int32 → Int32 → Int32 → Int32 → Int32 → Int32 → Int32 → SH → Option (Int32 × SH)) (x1 : Int32) (x2 : Int32) (x3 : Int32) (x4 : Int32) (x5 : Int32) (x6 : Int32) (x7 : Int32) (z0 : SH) : Option (Int32 × SH) :=
  fX5_priceAt_65 N k6 k18 x1 x2 x3 x4 x5 x6 x7 1 z0
def fX5_priceAt_18 (N : Nat) (k6 : Int32 → Int32 → Int32 → Int32 → Int32 → SH → Option (Int32 × SH)) (k18 : Int32 → Int32 → Int32 → Int32 → Int32 → Int32 → Int32 → SH → Option (Int32 × SH)) (x1 : Int32) (x2 : Int32) (x3 : Int32) (x4 : Int32) (x5 : Int32) (x6 : Int32) (x7 : Int32) (z0 : SH) : Option (Int32 × SH) :=
  rdi z0 2 fun v1 =>
  if v1 ≤ x7 then (
  if x6 = (-1) then (
  some ((-1), z0))
  else
  k6 x1 x2 x3 x6 (x5 + 1) z0)
  else
  bnd (fX5_rests x7 x1 x2 z0) fun v3 z2 =>
  if v3 = 0 then (
  fX5_priceAt_64 N k6 k18 x1 x2 x3 x4 x5 x6 x7 z2)
  else
  if x4 = (-1) then (
  fX5_priceAt_60 N k6 k18 x1 x2 x3 x4 x5 x6 x7 z2)
  else
  rda z2 12 520 x7 fun v4 =>
  bnd (fX5_isBetter x2 x4 v4 z2) fun v6 z5 =>
  if v6 = 0 then (
  fX5_priceAt_64 N k6 k18 x1 x2 x3 x4 x5 x6 x7 z5)
  else
  fX5_priceAt_60 N k6 k18 x1 x2 x3 x4 x5 x6 x7 z5
def fX5_priceAt_18_L (N : Nat) (k6 : Int32 → Int32 → Int32 → Int32 → Int32 → SH → Option (Int32 × SH)) : Nat → Int32 → Int32 → Int32 → Int32 → Int32 → Int32 → Int32 → SH → Option (Int32 × SH)
  | 0 => fun _ _ _ _ _ _ _ _ => none
  | n + 1 => fun x1 x2 x3 x4 x5 x6 x7 z0 => fX5_priceAt_18 N k6 (fX5_priceAt_18_L N k6 n) x1 x2 x3 x4 x5 x6 x7 z0
def fX5_priceAt_6 (N : Nat) (k6 : Int32 → Int32 → Int32 → Int32 → Int32 → SH → Option (Int32 × SH)) (x1 : Int32) (x2 : Int32) (x3 : Int32) (x4 : Int32) (x5 : Int32) (z0 : SH) : Option (Int32 × SH) :=
  if x3 < x5 then (
  some (x4, z0))
  else
  fX5_priceAt_18_L N k6 N x1 x2 x3 x4 x5 ((-1)) 0 z0
def fX5_priceAt_6_L (N : Nat) : Nat → Int32 → Int32 → Int32 → Int32 → Int32 → SH → Option (Int32 × SH)
  | 0 => fun _ _ _ _ _ _ => none
  | n + 1 => fun x1 x2 x3 x4 x5 z0 => fX5_priceAt_6 N (fX5_priceAt_6_L N n) x1 x2 x3 x4 x5 z0
def fX5_priceAt (N : Nat) (a1 : Int32) (a2 : Int32) (a3 : Int32) (z0 : SH) : Option (Int32 × SH) :=
  fX5_priceAt_6_L N N a1 a2 a3 ((-1)) 0 z0
def fX5_priceCount_2 (N : Nat) (k2 : Int32 → Int32 → Int32 → SH → Option (Int32 × SH)) (x1 : Int32) (x2 : Int32) (x3 : Int32) (z0 : SH) : Option (Int32 × SH) :=
  bnd (fX5_priceAt N x1 x2 x3 z0) fun v2 z1 =>
  if v2 = (-1) then (
  some (x3, z1))
  else
  k2 x1 x2 (x3 + 1) z1
def fX5_priceCount_2_L (N : Nat) : Nat → Int32 → Int32 → Int32 → SH → Option (Int32 × SH)
  | 0 => fun _ _ _ _ => none
  | n + 1 => fun x1 x2 x3 z0 => fX5_priceCount_2 N (fX5_priceCount_2_L N n) x1 x2 x3 z0
def fX5_priceCount (N : Nat) (a1 : Int32) (a2 : Int32) (z0 : SH) : Option (Int32 × SH) :=
  fX5_priceCount_2_L N N a1 a2 0 z0
def fX5_depth_112 (N : Nat) (k66 : Int32 → Int32 → Int32 → Int32 → Int32 → SH → Option (Int32 × SH)) (x1 : Int32) (x2 : Int32) (x3 : Int32) (x5 : Int32) (t0 : Int32) (z0 : SH) : Option (Int32 × SH) :=
  k66 x1 x2 x3 t0 (x5 + 1) z0
def fX5_depth_110 (N : Nat) (k66 : Int32 → Int32 → Int32 → Int32 → Int32 → SH → Option (Int32 × SH)) (x1 : Int32) (x2 : Int32) (x3 : Int32) (x4 : Int32) (x5 : Int32) (z0 : SH) : Option (Int32 × SH) :=
  fX5_depth_112 N k66 x1 x2 x3 x5 x4 z0
def fX5_depth_66 (N : Nat) (k66 : Int32 → Int32 → Int32 → Int32 → Int32 → SH → Option (Int32 × SH)) (x1 : Int32) (x2 : Int32) (x3 : Int32) (x4 : Int32) (x5 : Int32) (z0 : SH) : Option (Int32 × SH) :=
  rdi z0 2 fun v1 =>
  if v1 ≤ x5 then (
  some (x4, z0))
  else
  bnd (fX5_rests x5 x1 x2 z0) fun v3 z2 =>
  if v3 = 0 then (
  fX5_depth_110 N k66 x1 x2 x3 x4 x5 z2)
  else
  rda z2 12 520 x5 fun v4 =>
  if v4 = x3 then (
  rda z2 14 520 x5 fun v5 =>
  fX5_depth_112 N k66 x1 x2 x3 x5 (x4 + v5) z2)
  else
  fX5_depth_110 N k66 x1 x2 x3 x4 x5 z2
def fX5_depth_66_L (N : Nat) : Nat → Int32 → Int32 → Int32 → Int32 → Int32 → SH → Option (Int32 × SH)
  | 0 => fun _ _ _ _ _ _ => none
  | n + 1 => fun x1 x2 x3 x4 x5 z0 => fX5_depth_66 N (fX5_depth_66_L N n) x1 x2 x3 x4 x5 z0
def fX5_depth_37 (N : Nat) (x1 : Int32) (x2 : Int32) (x3 : Int32) (t0 : Int32) (z0 : SH) : Option (Int32 × SH) :=
  wri z0 0 t0 fun z1 =>
  rdi z1 0 fun v2 =>
  if v2 ≤ 0 then (
  if x3 = 0 then (
  bnd (fX5_priceCount N x1 x2 z1) fun v4 z3 =>
  some (v4, z3))
  else
  fX5_depth_66_L N N x1 x2 x3 0 0 z1)
  else
  some (0, z1)
def fX5_depth_32 (N : Nat) (x1 : Int32) (x2 : Int32) (x3 : Int32) (z0 : SH) : Option (Int32 × SH) :=
  fX5_depth_37 N x1 x2 x3 2 z0
def fX5_depth (N : Nat) (a1 : Int32) (a2 : Int32) (a3 : Int32) (z0 : SH) : Option (Int32 × SH) :=
  bnd (fX5_isSymbol a1 z0) fun v2 z1 =>
  if v2 = 0 then (
  fX5_depth_37 N a1 a2 a3 1 z1)
  else
  bnd (fX5_isIn a2 0 1 z1) fun v4 z3 =>
  if v4 = 0 then (
  fX5_depth_32 N a1 a2 a3 z3)
  else
  bnd (fX5_isIn a3 0 10000 z3) fun v6 z5 =>
  if v6 = 0 then (
  fX5_depth_32 N a1 a2 a3 z5)
  else
  fX5_depth_37 N a1 a2 a3 0 z5
def fX5_level_112 (N : Nat) (t0 : Int32) (z0 : SH) : Option (Int32 × SH) :=
  some (t0, z0)
def fX5_level_99 (N : Nat) (x6 : Int32) (z0 : SH) : Option (Int32 × SH) :=
  rdi z0 0 fun v1 =>
  if v1 ≤ 0 then (
  fX5_level_112 N x6 z0)
  else
  fX5_level_112 N 0 z0
def fX5_level_188 (N : Nat) (k119 : Int32 → Int32 → Int32 → Int32 → Int32 → Int32 → SH → Option (Int32 × SH)) (x1 : Int32) (x2 : Int32) (x4 : Int32) (x6 : Int32) (x8 : Int32) (t0 : Int32) (z0 : SH) : Option (Int32 × SH) :=
  k119 x1 x2 x4 x6 t0 (x8 + 1) z0
def fX5_level_182 (N : Nat) (k119 : Int32 → Int32 → Int32 → Int32 → Int32 → Int32 → SH → Option (Int32 × SH)) (x1 : Int32) (x2 : Int32) (x4 : Int32) (x6 : Int32) (x8 : Int32) (t0 : Int32) (t1 : Int32) (z0 : SH) : Option (Int32 × SH) :=
  fX5_level_188 N k119 x1 x2 x4 x6 x8 (t1 + t0) z0
def fX5_level_156 (N : Nat) (k119 : Int32 → Int32 → Int32 → Int32 → Int32 → Int32 → SH → Option (Int32 × SH)) (x1 : Int32) (x2 : Int32) (x4 : Int32) (x6 : Int32) (x7 : Int32) (x8 : Int32) (t0 : Int32) (z0 : SH) : Option (Int32 × SH) :=
  if t0 = 0 then (
  fX5_level_188 N k119 x1 x2 x4 x6 x8 x7 z0)
  else
  if x4 = 1 then (
  fX5_level_182 N k119 x1 x2 x4 x6 x8 1 x7 z0)
  else
  rda z0 13 520 x8 fun v1 =>
  fX5_level_182 N k119 x1 x2 x4 x6 x8 v1 x7 z0
def fX5_level_155 (N : Nat) (k119 : Int32 → Int32 → Int32 → Int32 → Int32 → Int32 → SH → Option (Int32 × SH)) (x1 : Int32) (x2 : Int32) (x4 : Int32) (x6 : Int32) (x7 : Int32) (x8 : Int32) (z0 : SH) : Option (Int32 × SH) :=
  fX5_level_156 N k119 x1 x2 x4 x6 x7 x8 0 z0
def fX5_level_119 (N : Nat) (k119 : Int32 → Int32 → Int32 → Int32 → Int32 → Int32 → SH → Option (Int32 × SH)) (x1 : Int32) (x2 : Int32) (x4 : Int32) (x6 : Int32) (x7 : Int32) (x8 : Int32) (z0 : SH) : Option (Int32 × SH) :=
  rdi z0 2 fun v1 =>
  if v1 ≤ x8 then (
  some (x7, z0))
  else
  bnd (fX5_rests x8 x1 x2 z0) fun v3 z2 =>
  if v3 = 0 then (
  fX5_level_155 N k119 x1 x2 x4 x6 x7 x8 z2)
  else
  rda z2 12 520 x8 fun v4 =>
  if v4 = x6 then (
  fX5_level_156 N k119 x1 x2 x4 x6 x7 x8 1 z2)
  else
  fX5_level_155 N k119 x1 x2 x4 x6 x7 x8 z2
def fX5_level_119_L (N : Nat) : Nat → Int32 → Int32 → Int32 → Int32 → Int32 → Int32 → SH → Option (Int32 × SH)
  | 0 => fun _ _ _ _ _ _ _ => none
  | n + 1 => fun x1 x2 x4 x6 x7 x8 z0 => fX5_level_119 N (fX5_level_119_L N n) x1 x2 x4 x6 x7 x8 z0
def fX5_level_84 (N : Nat) (x1 : Int32) (x2 : Int32) (x4 : Int32) (x6 : Int32) (t0 : Int32) (z0 : SH) : Option (Int32 × SH) :=
  wri z0 0 t0 fun z1 =>
  rdi z1 0 fun v2 =>
  if 0 < v2 then (
  fX5_level_99 N x6 z1)
  else
  if x4 = 0 then (
  fX5_level_99 N x6 z1)
  else
  fX5_level_119_L N N x1 x2 x4 x6 0 0 z1
def fX5_level_60 (N : Nat) (x1 : Int32) (x2 : Int32) (x4 : Int32) (x6 : Int32) (z0 : SH) : Option (Int32 × SH) :=
  fX5_level_84 N x1 x2 x4 x6 1 z0
def fX5_level_79 (N : Nat) (x1 : Int32) (x2 : Int32) (x4 : Int32) (x6 : Int32) (z0 : SH) : Option (Int32 × SH) :=
  fX5_level_84 N x1 x2 x4 x6 2 z0
def fX5_level_64 (N : Nat) (x1 : Int32) (x2 : Int32) (x4 : Int32) (x5 : Int32) (x6 : Int32) (z0 : SH) : Option (Int32 × SH) :=
  if x5 = 0 then (
  fX5_level_79 N x1 x2 x4 x6 z0)
  else
  bnd (fX5_isIn x4 0 2 z0) fun v2 z1 =>
  if v2 = 0 then (
  fX5_level_79 N x1 x2 x4 x6 z1)
  else
  fX5_level_84 N x1 x2 x4 x6 0 z1
def fX5_level_35 (N : Nat) (x1 : Int32) (x2 : Int32) (x3 : Int32) (x4 : Int32) (x5 : Int32) (t0 : Int32) (z0 : SH) : Option (Int32 × SH) :=
  bnd (fX5_isSymbol x1 z0) fun v2 z1 =>
  if v2 = 0 then (
  fX5_level_60 N x1 x2 x4 t0 z1)
  else
  if x3 < 0 then (
  fX5_level_60 N x1 x2 x4 t0 z1)
  else
  if x5 = 0 then (
  fX5_level_64 N x1 x2 x4 x5 t0 z1)
  else
  if t0 = (-1) then (
  fX5_level_60 N x1 x2 x4 t0 z1)
  else
  fX5_level_64 N x1 x2 x4 x5 t0 z1
def fX5_level_34 (N : Nat) (x1 : Int32) (x2 : Int32) (x3 : Int32) (x4 : Int32) (x5 : Int32) (z0 : SH) : Option (Int32 × SH) :=
  fX5_level_35 N x1 x2 x3 x4 x5 ((-1)) z0
def fX5_level (N : Nat) (a1 : Int32) (a2 : Int32) (a3 : Int32) (a4 : Int32) (z0 : SH) : Option (Int32 × SH) :=
  bnd (fX5_isIn a2 0 1 z0) fun v2 z1 =>
  bnd (fX5_isSymbol a1 z1) fun v4 z3 =>
  if v4 = 0 then (
  fX5_level_34 N a1 a2 a3 a4 v2 z3)
  else
  if v2 = 0 then (
  fX5_level_34 N a1 a2 a3 a4 v2 z3)
  else
  if a3 < 0 then (
  fX5_level_34 N a1 a2 a3 a4 v2 z3)
  else
  bnd (fX5_priceAt N a1 a2 a3 z3) fun v6 z5 =>
  fX5_level_35 N a1 a2 a3 a4 v2 v6 z5
def fX5_about_133 (t0 : Int32) (z0 : SH) : Option (Int32 × SH) :=
  some (t0, z0)
def fX5_about_33 (x1 : Int32) (x2 : Int32) (t0 : Int32) (z0 : SH) : Option (Int32 × SH) :=
  wri z0 0 t0 fun z1 =>
  rdi z1 0 fun v2 =>
  if v2 ≤ 0 then (
  if x2 = 0 then (
  rda z1 8 520 x1 fun v9 =>
  fX5_about_133 v9 z1)
  else
  if x2 = 1 then (
  rda z1 13 520 x1 fun v8 =>
  fX5_about_133 v8 z1)
  else
  if x2 = 2 then (
  rda z1 16 520 x1 fun v6 =>
  if v6 = 0 then (
  rda z1 14 520 x1 fun v7 =>
  fX5_about_133 v7 z1)
  else
  fX5_about_133 0 z1)
  else
  if x2 = 3 then (
  rda z1 16 520 x1 fun v5 =>
  fX5_about_133 v5 z1)
  else
  if x2 = 4 then (
  rda z1 17 520 x1 fun v4 =>
  fX5_about_133 v4 z1)
  else
  rda z1 18 520 x1 fun v3 =>
  fX5_about_133 v3 z1)
  else
  some (0, z1)
def fX5_about (a1 : Int32) (a2 : Int32) (z0 : SH) : Option (Int32 × SH) :=
  rdi z0 2 fun v1 =>
  bnd (fX5_isIn a1 0 (v1 - 1) z0) fun v3 z2 =>
  if v3 = 0 then (
  fX5_about_33 a1 a2 1 z2)
  else
  bnd (fX5_isIn a2 0 5 z2) fun v5 z4 =>
  if v5 = 0 then (
  fX5_about_33 a1 a2 2 z4)
  else
  fX5_about_33 a1 a2 0 z4
def fX5_ahead_124 (N : Nat) (x2 : Int32) (z0 : SH) : Option (Int32 × SH) :=
  some (x2, z0)
def fX5_ahead_117 (N : Nat) (k40 : Int32 → Int32 → Int32 → SH → Option (Int32 × SH)) (x1 : Int32) (x3 : Int32) (t0 : Int32) (z0 : SH) : Option (Int32 × SH) :=
  k40 x1 t0 (x3 + 1) z0
def fX5_ahead_116 (N : Nat) (k40 : Int32 → Int32 → Int32 → SH → Option (Int32 × SH)) (x1 : Int32) (x2 : Int32) (x3 : Int32) (z0 : SH) : Option (Int32 × SH) :=
  fX5_ahead_117 N k40 x1 x3 x2 z0
def fX5_ahead_40 (N : Nat) (k40 : Int32 → Int32 → Int32 → SH → Option (Int32 × SH)) (x1 : Int32) (x2 : Int32) (x3 : Int32) (z0 : SH) : Option (Int32 × SH) :=
  rdi z0 2 fun v1 =>
  if v1 ≤ x3 then (
  fX5_ahead_124 N x2 z0)
  else
  rdi z0 0 fun v2 =>
  if v2 = 0 then (
  rda z0 9 520 x1 fun v3 =>
  rda z0 10 520 x1 fun v4 =>
  bnd (fX5_rests x3 v3 v4 z0) fun v6 z5 =>
  if v6 = 0 then (
  fX5_ahead_116 N k40 x1 x2 x3 z5)
  else
  rda z5 12 520 x3 fun v7 =>
  rda z5 12 520 x1 fun v8 =>
  if v7 = v8 then (
  rda z5 19 520 x3 fun v9 =>
  rda z5 19 520 x1 fun v10 =>
  if v10 ≤ v9 then (
  fX5_ahead_116 N k40 x1 x2 x3 z5)
  else
  rda z5 14 520 x3 fun v11 =>
  fX5_ahead_117 N k40 x1 x3 (x2 + v11) z5)
  else
  fX5_ahead_116 N k40 x1 x2 x3 z5)
  else
  fX5_ahead_124 N x2 z0
def fX5_ahead_40_L (N : Nat) : Nat → Int32 → Int32 → Int32 → SH → Option (Int32 × SH)
  | 0 => fun _ _ _ _ => none
  | n + 1 => fun x1 x2 x3 z0 => fX5_ahead_40 N (fX5_ahead_40_L N n) x1 x2 x3 z0
def fX5_ahead_33 (N : Nat) (x1 : Int32) (t0 : Int32) (z0 : SH) : Option (Int32 × SH) :=
  wri z0 0 t0 fun z1 =>
  fX5_ahead_40_L N N x1 0 0 z1
def fX5_ahead (N : Nat) (a1 : Int32) (z0 : SH) : Option (Int32 × SH) :=
  rdi z0 2 fun v1 =>
  bnd (fX5_isIn a1 0 (v1 - 1) z0) fun v3 z2 =>
  if v3 = 0 then (
  fX5_ahead_33 N a1 1 z2)
  else
  rda z2 16 520 a1 fun v4 =>
  if v4 = 0 then (
  fX5_ahead_33 N a1 0 z2)
  else
  fX5_ahead_33 N a1 2 z2
def fX5_cash_59 (t0 : Int64) (z0 : SH) : Option (Int64 × SH) :=
  some (t0, z0)
def fX5_cash_26 (x1 : Int32) (x2 : Int32) (t0 : Int32) (z0 : SH) : Option (Int64 × SH) :=
  wri z0 0 t0 fun z1 =>
  rdi z1 0 fun v2 =>
  if v2 ≤ 0 then (
  if x2 = 0 then (
  rdl z1 1 512 x1 fun v4 =>
  fX5_cash_59 v4 z1)
  else
  rdl z1 2 512 x1 fun v3 =>
  fX5_cash_59 v3 z1)
  else
  fX5_cash_59 0 z1
def fX5_cash (a1 : Int32) (a2 : Int32) (z0 : SH) : Option (Int64 × SH) :=
  bnd (fX5_isAccount a1 z0) fun v2 z1 =>
  if v2 = 0 then (
  fX5_cash_26 a1 a2 1 z1)
  else
  bnd (fX5_isIn a2 0 1 z1) fun v4 z3 =>
  if v4 = 0 then (
  fX5_cash_26 a1 a2 2 z3)
  else
  fX5_cash_26 a1 a2 0 z3
def fX5_shares_103 (t0 : Int32) (z0 : SH) : Option (Int32 × SH) :=
  some (t0, z0)
def fX5_shares_33 (x1 : Int32) (x2 : Int32) (x3 : Int32) (t0 : Int32) (z0 : SH) : Option (Int32 × SH) :=
  wri z0 0 t0 fun z1 =>
  rdi z1 0 fun v2 =>
  if v2 ≤ 0 then (
  bnd (fX5_cell x1 x2 z1) fun v4 z3 =>
  if x3 = 0 then (
  rda z3 3 2048 v4 fun v8 =>
  fX5_shares_103 v8 z3)
  else
  if x3 = 1 then (
  rda z3 4 2048 v4 fun v7 =>
  fX5_shares_103 v7 z3)
  else
  if x3 = 2 then (
  rda z3 5 2048 v4 fun v6 =>
  fX5_shares_103 v6 z3)
  else
  rda z3 6 2048 v4 fun v5 =>
  fX5_shares_103 v5 z3)
  else
  some (0, z1)
def fX5_shares_15 (x1 : Int32) (x2 : Int32) (x3 : Int32) (z0 : SH) : Option (Int32 × SH) :=
  fX5_shares_33 x1 x2 x3 1 z0
def fX5_shares (a1 : Int32) (a2 : Int32) (a3 : Int32) (z0 : SH) : Option (Int32 × SH) :=
  bnd (fX5_isAccount a1 z0) fun v2 z1 =>
  if v2 = 0 then (
  fX5_shares_15 a1 a2 a3 z1)
  else
  bnd (fX5_isSymbol a2 z1) fun v4 z3 =>
  if v4 = 0 then (
  fX5_shares_15 a1 a2 a3 z3)
  else
  bnd (fX5_isIn a3 0 3 z3) fun v6 z5 =>
  if v6 = 0 then (
  fX5_shares_33 a1 a2 a3 2 z5)
  else
  fX5_shares_33 a1 a2 a3 0 z5
def fX5_count_80 (N : Nat) (t0 : Int32) (z0 : SH) : Option (Int32 × SH) :=
  some (t0, z0)
def fX5_count_30 (N : Nat) (x1 : Int32) (z0 : SH) : Option (Int32 × SH) :=
  rdi z0 0 fun v1 =>
  if v1 ≤ 0 then (
  if x1 = 0 then (
  rdi z0 4 fun v6 =>
  fX5_count_80 N v6 z0)
  else
  if x1 = 1 then (
  rdi z0 2 fun v5 =>
  fX5_count_80 N v5 z0)
  else
  if x1 = 2 then (
  bnd (fX5_there N z0) fun v4 z3 =>
  fX5_count_80 N v4 z3)
  else
  rdi z0 1 fun v2 =>
  fX5_count_80 N v2 z0)
  else
  fX5_count_80 N 0 z0
def fX5_count_108 (N : Nat) (k85 : Int32 → Int32 → SH → Option (Int32 × SH)) (x3 : Int32) (t0 : Int32) (z0 : SH) : Option (Int32 × SH) :=
  k85 t0 (x3 + 1) z0
def fX5_count_85 (N : Nat) (k85 : Int32 → Int32 → SH → Option (Int32 × SH)) (x2 : Int32) (x3 : Int32) (z0 : SH) : Option (Int32 × SH) :=
  if 512 ≤ x3 then (
  some (x2, z0))
  else
  rda z0 7 512 x3 fun v1 =>
  if v1 = 0 then (
  fX5_count_108 N k85 x3 x2 z0)
  else
  fX5_count_108 N k85 x3 (x2 + 1) z0
def fX5_count_85_L (N : Nat) : Nat → Int32 → Int32 → SH → Option (Int32 × SH)
  | 0 => fun _ _ _ => none
  | n + 1 => fun x2 x3 z0 => fX5_count_85 N (fX5_count_85_L N n) x2 x3 z0
def fX5_count_15 (N : Nat) (x1 : Int32) (t0 : Int32) (z0 : SH) : Option (Int32 × SH) :=
  wri z0 0 t0 fun z1 =>
  rdi z1 0 fun v2 =>
  if 0 < v2 then (
  fX5_count_30 N x1 z1)
  else
  if x1 = 3 then (
  fX5_count_85_L N N 0 0 z1)
  else
  fX5_count_30 N x1 z1
def fX5_count (N : Nat) (a1 : Int32) (z0 : SH) : Option (Int32 × SH) :=
  bnd (fX5_isIn a1 0 4 z0) fun v2 z1 =>
  if v2 = 0 then (
  fX5_count_15 N a1 1 z1)
  else
  fX5_count_15 N a1 0 z1
def fX5_trade_62 (t0 : Int32) (z0 : SH) : Option (Int32 × SH) :=
  some (t0, z0)
def fX5_trade_38 (x1 : Int32) (x2 : Int32) (t0 : Int32) (z0 : SH) : Option (Int32 × SH) :=
  wri z0 0 t0 fun z1 =>
  rdi z1 0 fun v2 =>
  if v2 ≤ 0 then (
  rda z1 23 1200 ((4 * x1) + x2) fun v3 =>
  fX5_trade_62 v3 z1)
  else
  fX5_trade_62 0 z1
def fX5_trade_20 (x1 : Int32) (x2 : Int32) (z0 : SH) : Option (Int32 × SH) :=
  fX5_trade_38 x1 x2 1 z0
def fX5_trade (a1 : Int32) (a2 : Int32) (z0 : SH) : Option (Int32 × SH) :=
  if a1 < 0 then (
  fX5_trade_20 a1 a2 z0)
  else
  rdi z0 4 fun v1 =>
  if v1 ≤ a1 then (
  fX5_trade_20 a1 a2 z0)
  else
  if a1 < 300 then (
  bnd (fX5_isIn a2 0 3 z0) fun v3 z2 =>
  if v3 = 0 then (
  fX5_trade_38 a1 a2 2 z2)
  else
  fX5_trade_38 a1 a2 0 z2)
  else
  fX5_trade_20 a1 a2 z0
def fX5_symbol_87 (t0 : Int32) (z0 : SH) : Option (Int32 × SH) :=
  some (t0, z0)
def fX5_symbol_26 (x1 : Int32) (x2 : Int32) (t0 : Int32) (z0 : SH) : Option (Int32 × SH) :=
  wri z0 0 t0 fun z1 =>
  rdi z1 0 fun v2 =>
  if v2 ≤ 0 then (
  if x2 = 0 then (
  rda z1 24 4 x1 fun v6 =>
  fX5_symbol_87 v6 z1)
  else
  if x2 = 1 then (
  rda z1 25 4 x1 fun v5 =>
  fX5_symbol_87 v5 z1)
  else
  if x2 = 2 then (
  rda z1 26 4 x1 fun v4 =>
  fX5_symbol_87 v4 z1)
  else
  rda z1 27 4 x1 fun v3 =>
  fX5_symbol_87 v3 z1)
  else
  fX5_symbol_87 0 z1
def fX5_symbol (a1 : Int32) (a2 : Int32) (z0 : SH) : Option (Int32 × SH) :=
  bnd (fX5_isSymbol a1 z0) fun v2 z1 =>
  if v2 = 0 then (
  fX5_symbol_26 a1 a2 1 z1)
  else
  bnd (fX5_isIn a2 0 3 z1) fun v4 z3 =>
  if v4 = 0 then (
  fX5_symbol_26 a1 a2 2 z3)
  else
  fX5_symbol_26 a1 a2 0 z3
def fX5_business (a1 : Int32) (a2 : Int32) (z0 : SH) : Option (Int32 × SH) :=
  bnd (fX5_cell a1 a2 z0) fun v2 z1 =>
  rda z1 5 2048 v2 fun v3 =>
  bnd (fX5_cell a1 a2 z1) fun v5 z4 =>
  rda z4 6 2048 v5 fun v6 =>
  some (v3 + v6, z4)
def fX5_busiest_137 (N : Nat) (z0 : SH) : Option (Int32 × SH) :=
  wri z0 0 1 fun z1 =>
  some (0, z1)
def fX5_busiest_131 (N : Nat) (k22 : Int32 → Int32 → Int32 → SH → Option (Int32 × SH)) (x1 : Int32) (x2 : Int32) (x3 : Int32) (z0 : SH) : Option (Int32 × SH) :=
  k22 x1 x2 (x3 + 1) z0
def fX5_busiest_114 (N : Nat) (k22 : Int32 → Int32 → Int32 → SH → Option (Int32 × SH)) (x1 : Int32) (x2 : Int32) (x3 : Int32) (x4 : Int32) (z0 : SH) : Option (Int32 × SH) :=
  bnd (fX5_business x3 x1 z0) fun v2 z1 =>
  if v2 ≤ 0 then (
  fX5_busiest_131 N k22 x1 x2 x3 z1)
  else
  if x4 = x2 then (
  some (x3, z1))
  else
  fX5_busiest_131 N k22 x1 x2 x3 z1
def fX5_busiest_106 (N : Nat) (k22 : Int32 → Int32 → Int32 → SH → Option (Int32 × SH)) (k42 : Int32 → Int32 → Int32 → Int32 → Int32 → SH → Option (Int32 × SH)) (x1 : Int32) (x2 : Int32) (x3 : Int32) (x5 : Int32) (t0 : Int32) (z0 : SH) : Option (Int32 × SH) :=
  k42 x1 x2 x3 t0 (x5 + 1) z0
def fX5_busiest_97 (N : Nat) (k22 : Int32 → Int32 → Int32 → SH → Option (Int32 × SH)) (k42 : Int32 → Int32 → Int32 → Int32 → Int32 → SH → Option (Int32 × SH)) (x1 : Int32) (x2 : Int32) (x3 : Int32) (x4 : Int32) (x5 : Int32) (z0 : SH) : Option (Int32 × SH) :=
  fX5_busiest_106 N k22 k42 x1 x2 x3 x5 (x4 + 1) z0
def fX5_busiest_104 (N : Nat) (k22 : Int32 → Int32 → Int32 → SH → Option (Int32 × SH)) (k42 : Int32 → Int32 → Int32 → Int32 → Int32 → SH → Option (Int32 × SH)) (x1 : Int32) (x2 : Int32) (x3 : Int32) (x4 : Int32) (x5 : Int32) (z0 : SH) : Option (Int32 × SH) :=
  fX5_busiest_106 N k22 k42 x1 x2 x3 x5 x4 z0
def fX5_busiest_42 (N : Nat) (k22 : Int32 → Int32 → Int32 → SH → Option (Int32 × SH)) (k42 : Int32 → Int32 → Int32 → Int32 → Int32 → SH → Option (Int32 × SH)) (x1 : Int32) (x2 : Int32) (x3 : Int32) (x4 : Int32) (x5 : Int32) (z0 : SH) : Option (Int32 × SH) :=
  if 512 ≤ x5 then (
  fX5_busiest_114 N k22 x1 x2 x3 x4 z0)
  else
  bnd (fX5_business x3 x1 z0) fun v2 z1 =>
  if v2 ≤ 0 then (
  fX5_busiest_114 N k22 x1 x2 x3 x4 z1)
  else
  bnd (fX5_business x5 x1 z1) fun v4 z3 =>
  bnd (fX5_business x3 x1 z3) fun v6 z5 =>
  if v6 < v4 then (
  fX5_busiest_97 N k22 k42 x1 x2 x3 x4 x5 z5)
  else
  bnd (fX5_business x5 x1 z5) fun v8 z7 =>
  bnd (fX5_business x3 x1 z7) fun v10 z9 =>
  if v8 = v10 then (
  if x3 ≤ x5 then (
  fX5_busiest_104 N k22 k42 x1 x2 x3 x4 x5 z9)
  else
  fX5_busiest_97 N k22 k42 x1 x2 x3 x4 x5 z9)
  else
  fX5_busiest_104 N k22 k42 x1 x2 x3 x4 x5 z9
def fX5_busiest_42_L (N : Nat) (k22 : Int32 → Int32 → Int32 → SH → Option (Int32 × SH)) : Nat → Int32 → Int32 → Int32 → Int32 → Int32 → SH → Option (Int32 × SH)
  | 0 => fun _ _ _ _ _ _ => none
  | n + 1 => fun x1 x2 x3 x4 x5 z0 => fX5_busiest_42 N k22 (fX5_busiest_42_L N k22 n) x1 x2 x3 x4 x5 z0
def fX5_busiest_22 (N : Nat) (k22 : Int32 → Int32 → Int32 → SH → Option (Int32 × SH)) (x1 : Int32) (x2 : Int32) (x3 : Int32) (z0 : SH) : Option (Int32 × SH) :=
  if 512 ≤ x3 then (
  fX5_busiest_137 N z0)
  else
  rdi z0 0 fun v1 =>
  if v1 = 0 then (
  fX5_busiest_42_L N k22 N x1 x2 x3 0 0 z0)
  else
  fX5_busiest_137 N z0
def fX5_busiest_22_L (N : Nat) : Nat → Int32 → Int32 → Int32 → SH → Option (Int32 × SH)
  | 0 => fun _ _ _ _ => none
  | n + 1 => fun x1 x2 x3 z0 => fX5_busiest_22 N (fX5_busiest_22_L N n) x1 x2 x3 z0
def fX5_busiest_17 (N : Nat) (x1 : Int32) (x2 : Int32) (t0 : Int32) (z0 : SH) : Option (Int32 × SH) :=
  wri z0 0 t0 fun z1 =>
  fX5_busiest_22_L N N x1 x2 0 z1
def fX5_busiest_16 (N : Nat) (x1 : Int32) (x2 : Int32) (z0 : SH) : Option (Int32 × SH) :=
  fX5_busiest_17 N x1 x2 1 z0
def fX5_busiest (N : Nat) (a1 : Int32) (a2 : Int32) (z0 : SH) : Option (Int32 × SH) :=
  bnd (fX5_isSymbol a1 z0) fun v2 z1 =>
  if v2 = 0 then (
  fX5_busiest_16 N a1 a2 z1)
  else
  if a2 < 0 then (
  fX5_busiest_16 N a1 a2 z1)
  else
  fX5_busiest_17 N a1 a2 0 z1
