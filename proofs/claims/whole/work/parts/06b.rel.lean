/-! ===== how a state of the class and one of the reference belong together =====
  q f k: field f of order k: 0 account 1 symbol 2 side 3 kind 4 price 5 left 6 shown 7 state (the reference's) 8 turn 9 extra (of a layered one) 10 end
  Q b: the book b (2 * symbol + side), the best one first; n orders; nt the next turn; B bounds what grows; o the order that acts (n or more: none) -/
def qbet (q : Nat → Nat → Nat) (d i j : Nat) : Bool := if d = 0 then decide (q 4 j < q 4 i) else decide (q 4 i < q 4 j)
def qlt (q : Nat → Nat → Nat) (d i j : Nat) : Bool := qbet q d i j || (decide (q 4 i = q 4 j) && decide (q 8 i < q 8 j))
/-- what is not taken yet is 0 -/
def Zr (h t : SH) (n : Nat) : Prop := ∀ k, n ≤ k → k < 512 → (gA h 19 k = 0 ∧ gA h 21 k = 0 ∧ gA h 22 k = 0) ∧ gA t 14 k = 0 ∧ gA t 17 k = 0 ∧ gA t 18 k = 0
def RelS (h t : SH) (n nt B : Nat) : Prop :=
  n ≤ 64 ∧ B ≤ 64000000 ∧ gi h 2 = nI n ∧ gi t 2 = nI n ∧ gi t 3 = nI nt ∧ (nt ≤ B ∧ Zr h t n) ∧ (∃ τ, τ ≤ B ∧ gi h 0 = nI τ ∧ gi t 1 = nI τ) ∧
  ∃ T, T ≤ B ∧ gi h 4 = nI T ∧ gi t 4 = nI T ∧ ∀ i, i < T → i < 300 → gA h 25 i = gA t 23 (4 * i) ∧ gA h 26 i = gA t 23 (4 * i + 1) ∧ gA h 27 i = gA t 23 (4 * i + 2) ∧ gA h 28 i = gA t 23 (4 * i + 3)
def RelC (h t : SH) : Prop :=
  (∀ a, a < 512 → gL h 5 a = gL t 1 a ∧ gL h 6 a = gL t 2 a ∧ gA h 11 a = gA t 7 a ∧ (gA t 7 a = 0 ∨ gA t 7 a = 1)) ∧ gi h 1 = nI (cnt (fun a => decide (gA t 7 a = 1)) 512)
def RelH (h t : SH) (B : Nat) : Prop :=
  ∀ i, i < 2048 → gA h 7 i = gA t 3 i ∧ gA h 8 i = gA t 4 i ∧ gA h 9 i = gA t 5 i ∧ gA h 10 i = gA t 6 i ∧ -(B : Int) ≤ (gA t 3 i).toInt ∧ (gA t 3 i).toInt ≤ B
def RelP (h t : SH) : Prop :=
  ∀ s, s < 4 → gA h 29 s = gA t 24 s ∧ gA h 30 s = gA t 25 s ∧ gA h 31 s = gA t 26 s ∧ gA h 32 s = gA t 27 s ∧
    ∃ l g m, l ≤ 10000 ∧ g ≤ 10000 ∧ m ≤ 10000 ∧ gA t 24 s = nI l ∧ gA t 25 s = nI g ∧ gA t 26 s = nI m ∧ (l = 0 ↔ m = 0) ∧ (l = 0 ↔ g = 0)
def RelO1 (h t : SH) (q : Nat → Nat → Nat) (nt o k : Nat) : Prop :=
  (gA h 12 k = nI (q 0 k) ∧ gA t 8 k = nI (q 0 k) ∧ q 0 k < 512) ∧ (gA h 13 k = nI (q 1 k) ∧ gA t 9 k = nI (q 1 k) ∧ q 1 k < 4) ∧ (gA h 14 k = nI (q 2 k) ∧ gA t 10 k = nI (q 2 k) ∧ q 2 k < 2) ∧
  (gA h 15 k = nI (q 3 k) ∧ gA t 11 k = nI (q 3 k) ∧ q 3 k ≤ 5) ∧ (gA h 16 k = nI (q 4 k) ∧ gA t 12 k = nI (q 4 k) ∧ 1 ≤ q 4 k ∧ q 4 k ≤ 10000) ∧ (gA h 18 k = nI (q 5 k) ∧ gA t 13 k = nI (q 5 k) ∧ q 5 k ≤ 10000) ∧
  (gA h 19 k = nI (q 6 k) ∧ gA t 14 k = nI (q 6 k) ∧ q 6 k ≤ q 5 k) ∧ (gA h 20 k = nI (if k = o then 1 else q 7 k) ∧ gA t 16 k = nI (q 7 k) ∧ q 7 k ≤ 3) ∧ (gA h 17 k = gA t 15 k ∧ ((q 3 k = 4 ∨ q 3 k = 5) → gA t 15 k = nI (q 9 k) ∧ 1 ≤ q 9 k ∧ q 9 k ≤ 10000)) ∧
  (gA h 21 k = nI (q 10 k) ∧ gA t 17 k = nI (q 10 k) ∧ q 10 k < 2 ^ 31) ∧ gA h 22 k = gA t 18 k ∧ (q 7 k = 0 → gA t 19 k = nI (q 8 k) ∧ q 8 k < nt ∧ 1 ≤ q 6 k ∧ (q 3 k ≠ 4 → q 6 k = q 5 k)) ∧ (q 7 k = 1 → q 3 k = 5 ∧ 1 ≤ q 5 k ∧ q 6 k = 0) ∧ (2 ≤ q 7 k → q 6 k = 0 ∧ (k ≠ o → q 5 k = 0)) ∧ (k = o → q 7 k = 3)
def RelO (h t : SH) (q : Nat → Nat → Nat) (n nt o : Nat) : Prop := ∀ k, k < n → RelO1 h t q nt o k
def isThereQ (q : Nat → Nat → Nat) (o k : Nat) : Bool := decide (k = o) || decide (q 7 k = 0) || decide (q 7 k = 1)
def inBook (q : Nat → Nat → Nat) (b k : Nat) : Bool := decide (q 7 k = 0) && decide (2 * q 1 k + q 2 k = b)
def RelB (h : SH) (q : Nat → Nat → Nat) (Q : Nat → List Nat) (n : Nat) : Prop :=
  ∀ b, b < 8 → gA h 24 b = nI (Q b).length ∧ (∀ i, i < (Q b).length → gA h 23 (100 * b + ((Q b).length - 1 - i)) = nI ((Q b).getD i 0)) ∧ holdsAll (inBook q b) n (Q b) ∧ (Q b).Pairwise (fun i j => qlt q (b % 2) i j = true)
def Rel (h t : SH) (q : Nat → Nat → Nat) (Q : Nat → List Nat) (n nt B o : Nat) : Prop :=
  RelS h t n nt B ∧ RelC h t ∧ RelH h t B ∧ RelP h t ∧ RelO h t q n nt o ∧ RelB h q Q n ∧ gi h 3 = nI (cnt (isThereQ q o) n)
/-! what a change leaves as it was: the rows, fields and long rows that are not listed -/
def Sm (h h' : SH) (A I L : List Nat) : Prop := (∀ k j, k ∉ A → gA h' k j = gA h k j) ∧ (∀ k, k ∉ I → gi h' k = gi h k) ∧ ∀ k j, k ∉ L → gL h' k j = gL h k j
theorem Sm.rf {h : SH} : Sm h h [] [] [] := ⟨fun _ _ _ => rfl, fun _ _ => rfl, fun _ _ _ => rfl⟩
theorem Sm.tr {a b c : SH} {A A' I I' L L' : List Nat} (h1 : Sm a b A I L) (h2 : Sm b c A' I' L') : Sm a c (A ++ A') (I ++ I') (L ++ L') :=
  ⟨fun k j hk => (h2.1 k j (fun h => hk (List.mem_append_right _ h))).trans (h1.1 k j (fun h => hk (List.mem_append_left _ h))),
   fun k hk => (h2.2.1 k (fun h => hk (List.mem_append_right _ h))).trans (h1.2.1 k (fun h => hk (List.mem_append_left _ h))),
   fun k j hk => (h2.2.2 k j (fun h => hk (List.mem_append_right _ h))).trans (h1.2.2 k j (fun h => hk (List.mem_append_left _ h)))⟩
theorem Sm_uA {h : SH} {k j : Nat} {v : Int32} : Sm h (uA h k j v) [k] [] [] := ⟨fun k' j' hk => by rw [gA_uA, if_neg (fun e => hk (by rw [e.1]; exact List.mem_cons_self))], fun _ _ => rfl, fun _ _ _ => rfl⟩
theorem Sm_uL {h : SH} {k j : Nat} {v : Int64} : Sm h (uL h k j v) [] [] [k] := ⟨fun _ _ _ => rfl, fun _ _ => rfl, fun k' j' hk => by rw [gL_uL, if_neg (fun e => hk (by rw [e.1]; exact List.mem_cons_self))]⟩
theorem Sm_si {h : SH} {k : Nat} {v : Int32} : Sm h (si h k v) [] [k] [] := ⟨fun _ _ _ => rfl, fun k' hk => by rw [gi_si, if_neg (fun e => hk (by rw [e]; exact List.mem_cons_self))], fun _ _ _ => rfl⟩
section SmRel
variable {h h' t t' : SH} {q : Nat → Nat → Nat} {Q : Nat → List Nat} {n nt B o : Nat} {A I L : List Nat}
theorem RelS.hz_ (R : RelS h t n nt B) (S : Sm h h' A I L) (hA : [25, 26, 27, 28].all (fun k => decide (k ∉ A)) = true) (hI : [0, 2, 4].all (fun k => decide (k ∉ I)) = true) (hz : ∀ j, n ≤ j → gA h' 19 j = gA h 19 j ∧ gA h' 21 j = gA h 21 j ∧ gA h' 22 j = gA h 22 j) : RelS h' t n nt B := by
  simp only [List.all_cons, List.all_nil, Bool.and_true, Bool.and_eq_true, decide_eq_true_eq] at hA hI
  obtain ⟨a1, a2, a3, a4, a5, ⟨a6, a7⟩, ⟨τ, b1, b2, b3⟩, T, c1, c2, c3, c4⟩ := R
  refine ⟨a1, a2, by rw [S.2.1 _ hI.2.1]; exact a3, a4, a5, ⟨a6, fun j h1 h2 => ?_⟩, ⟨τ, b1, by rw [S.2.1 _ hI.1]; exact b2, b3⟩, T, c1, by rw [S.2.1 _ hI.2.2]; exact c2, c3, fun i h1 h2 => ?_⟩
  · obtain ⟨z1, z2, z3⟩ := hz j h1
    rw [z1, z2, z3]
    exact a7 j h1 h2
  · rw [S.1 _ _ hA.1, S.1 _ _ hA.2.1, S.1 _ _ hA.2.2.1, S.1 _ _ hA.2.2.2]
    exact c4 i h1 h2
theorem RelS.tz_ (R : RelS h t n nt B) (S : Sm t t' A I L) (hA : 23 ∉ A) (hI : [1, 2, 3, 4].all (fun k => decide (k ∉ I)) = true) (hz : ∀ j, n ≤ j → gA t' 14 j = gA t 14 j ∧ gA t' 17 j = gA t 17 j ∧ gA t' 18 j = gA t 18 j) : RelS h t' n nt B := by
  simp only [List.all_cons, List.all_nil, Bool.and_true, Bool.and_eq_true, decide_eq_true_eq] at hI
  obtain ⟨a1, a2, a3, a4, a5, ⟨a6, a7⟩, ⟨τ, b1, b2, b3⟩, T, c1, c2, c3, c4⟩ := R
  refine ⟨a1, a2, a3, by rw [S.2.1 _ hI.2.1]; exact a4, by rw [S.2.1 _ hI.2.2.1]; exact a5, ⟨a6, fun j h1 h2 => ?_⟩, ⟨τ, b1, b2, by rw [S.2.1 _ hI.1]; exact b3⟩, T, c1, c2, by rw [S.2.1 _ hI.2.2.2]; exact c3, fun i h1 h2 => ?_⟩
  · obtain ⟨z1, z2, z3⟩ := hz j h1
    rw [z1, z2, z3]
    exact a7 j h1 h2
  · rw [S.1 _ _ hA, S.1 _ _ hA, S.1 _ _ hA, S.1 _ _ hA]
    exact c4 i h1 h2
theorem RelS.h_ (R : RelS h t n nt B) (S : Sm h h' A I L) (hA : [25, 26, 27, 28, 19, 21, 22].all (fun k => decide (k ∉ A)) = true) (hI : [0, 2, 4].all (fun k => decide (k ∉ I)) = true) : RelS h' t n nt B := by
  simp only [List.all_cons, List.all_nil, Bool.and_true, Bool.and_eq_true, decide_eq_true_eq] at hA
  refine R.hz_ S (by simp only [List.all_cons, List.all_nil, Bool.and_true, Bool.and_eq_true, decide_eq_true_eq]; exact ⟨hA.1, hA.2.1, hA.2.2.1, hA.2.2.2.1⟩) hI (fun j _ => ⟨S.1 _ _ hA.2.2.2.2.1, S.1 _ _ hA.2.2.2.2.2.1, S.1 _ _ hA.2.2.2.2.2.2⟩)
theorem RelS.t_ (R : RelS h t n nt B) (S : Sm t t' A I L) (hA : [23, 14, 17, 18].all (fun k => decide (k ∉ A)) = true) (hI : [1, 2, 3, 4].all (fun k => decide (k ∉ I)) = true) : RelS h t' n nt B := by
  simp only [List.all_cons, List.all_nil, Bool.and_true, Bool.and_eq_true, decide_eq_true_eq] at hA
  exact R.tz_ S hA.1 hI (fun j _ => ⟨S.1 _ _ hA.2.1, S.1 _ _ hA.2.2.1, S.1 _ _ hA.2.2.2⟩)
theorem RelS.B_ {B' : Nat} (R : RelS h t n nt B) (hB : B ≤ B') (hm : B' ≤ 64000000) : RelS h t n nt B' := by
  obtain ⟨a1, a2, a3, a4, a5, ⟨a6, a7⟩, ⟨τ, b1, b2⟩, T, c1, c2⟩ := R
  exact ⟨a1, hm, a3, a4, a5, ⟨by omega, a7⟩, ⟨τ, by omega, b2⟩, T, by omega, c2⟩
theorem RelC.h_ (R : RelC h t) (S : Sm h h' A I L) (hA : 11 ∉ A) (hI : 1 ∉ I) (hL : 5 ∉ L ∧ 6 ∉ L) : RelC h' t := by
  refine ⟨fun a ha => ?_, by rw [S.2.1 _ hI]; exact R.2⟩
  rw [S.1 _ _ hA, S.2.2 _ _ hL.1, S.2.2 _ _ hL.2]
  exact R.1 a ha
theorem RelC.t_ (R : RelC h t) (S : Sm t t' A I L) (hA : 7 ∉ A) (hL : 1 ∉ L ∧ 2 ∉ L) : RelC h t' := by
  refine ⟨fun a ha => ?_, ?_⟩
  · rw [S.1 _ _ hA, S.2.2 _ _ hL.1, S.2.2 _ _ hL.2]
    exact R.1 a ha
  · rw [R.2]
    exact congrArg nI (cnt_congr (fun k hk => by rw [S.1 _ _ hA]))
theorem RelH.h_ (R : RelH h t B) (S : Sm h h' A I L) (hA : [7, 8, 9, 10].all (fun k => decide (k ∉ A)) = true) : RelH h' t B := by
  simp only [List.all_cons, List.all_nil, Bool.and_true, Bool.and_eq_true, decide_eq_true_eq] at hA
  intro i hi
  rw [S.1 _ _ hA.1, S.1 _ _ hA.2.1, S.1 _ _ hA.2.2.1, S.1 _ _ hA.2.2.2]
  exact R i hi
theorem RelH.t_ (R : RelH h t B) (S : Sm t t' A I L) (hA : [3, 4, 5, 6].all (fun k => decide (k ∉ A)) = true) : RelH h t' B := by
  simp only [List.all_cons, List.all_nil, Bool.and_true, Bool.and_eq_true, decide_eq_true_eq] at hA
  intro i hi
  rw [S.1 _ _ hA.1, S.1 _ _ hA.2.1, S.1 _ _ hA.2.2.1, S.1 _ _ hA.2.2.2]
  exact R i hi
theorem RelH.B_ {B' : Nat} (R : RelH h t B) (hB : B ≤ B') : RelH h t B' := fun i hi => by
  obtain ⟨a, b, c, d, e, f⟩ := R i hi
  exact ⟨a, b, c, d, by omega, by omega⟩
theorem RelP.h_ (R : RelP h t) (S : Sm h h' A I L) (hA : [29, 30, 31, 32].all (fun k => decide (k ∉ A)) = true) : RelP h' t := by
  simp only [List.all_cons, List.all_nil, Bool.and_true, Bool.and_eq_true, decide_eq_true_eq] at hA
  intro i hi
  rw [S.1 _ _ hA.1, S.1 _ _ hA.2.1, S.1 _ _ hA.2.2.1, S.1 _ _ hA.2.2.2]
  exact R i hi
theorem RelP.t_ (R : RelP h t) (S : Sm t t' A I L) (hA : [24, 25, 26, 27].all (fun k => decide (k ∉ A)) = true) : RelP h t' := by
  simp only [List.all_cons, List.all_nil, Bool.and_true, Bool.and_eq_true, decide_eq_true_eq] at hA
  intro i hi
  rw [S.1 _ _ hA.1, S.1 _ _ hA.2.1, S.1 _ _ hA.2.2.1, S.1 _ _ hA.2.2.2]
  exact R i hi
theorem RelO.h_ (R : RelO h t q n nt o) (S : Sm h h' A I L) (hA : [12, 13, 14, 15, 16, 17, 18, 19, 20, 21, 22].all (fun k => decide (k ∉ A)) = true) : RelO h' t q n nt o := by
  simp only [List.all_cons, List.all_nil, Bool.and_true, Bool.and_eq_true, decide_eq_true_eq] at hA
  obtain ⟨a1, a2, a3, a4, a5, a6, a7, a8, a9, a10, a11⟩ := hA
  intro k hk
  unfold RelO1
  rw [S.1 _ _ a1, S.1 _ _ a2, S.1 _ _ a3, S.1 _ _ a4, S.1 _ _ a5, S.1 _ _ a6, S.1 _ _ a7, S.1 _ _ a8, S.1 _ _ a9, S.1 _ _ a10, S.1 _ _ a11]
  exact R k hk
theorem RelO.t_ (R : RelO h t q n nt o) (S : Sm t t' A I L) (hA : [8, 9, 10, 11, 12, 13, 14, 15, 16, 17, 18, 19].all (fun k => decide (k ∉ A)) = true) : RelO h t' q n nt o := by
  simp only [List.all_cons, List.all_nil, Bool.and_true, Bool.and_eq_true, decide_eq_true_eq] at hA
  obtain ⟨a1, a2, a3, a4, a5, a6, a7, a8, a9, a10, a11, a12⟩ := hA
  intro k hk
  unfold RelO1
  rw [S.1 _ _ a1, S.1 _ _ a2, S.1 _ _ a3, S.1 _ _ a4, S.1 _ _ a5, S.1 _ _ a6, S.1 _ _ a7, S.1 _ _ a8, S.1 _ _ a9, S.1 _ _ a10, S.1 _ _ a11, S.1 _ _ a12]
  exact R k hk
theorem RelB.h_ (R : RelB h q Q n) (S : Sm h h' A I L) (hA : 23 ∉ A ∧ 24 ∉ A) : RelB h' q Q n := by
  intro b hb
  obtain ⟨r1, r2, r3⟩ := R b hb
  exact ⟨by rw [S.1 _ _ hA.2]; exact r1, fun i hi => by rw [S.1 _ _ hA.1]; exact r2 i hi, r3⟩
end SmRel
/-! the small tests -/
def eIdx : String := "java/lang/IndexOutOfBoundsException"
def eArg : String := "java/lang/IllegalArgumentException"
def eSta : String := "java/lang/IllegalStateException"
def eNo : String := "java/util/NoSuchElementException"
theorem isIn_eq (v a b : Int32) (t : SH) : fX5_isIn v a b t = some ((if a ≤ v ∧ v ≤ b then 1 else 0), t) := by
  unfold fX5_isIn fX5_isIn_14 fX5_isIn_15
  by_cases h1 : v < a
  · have h3 : ¬ a ≤ v := Int32.not_le.mpr h1
    simp [h1, h3, gdb_0]
  · by_cases h2 : b < v
    · have h3 : ¬ v ≤ b := Int32.not_le.mpr h2
      simp [h1, h2, h3, gdb_0]
    · have h3 : a ≤ v := Int32.not_lt.mp h1
      have h4 : v ≤ b := Int32.not_lt.mp h2
      simp [h1, h2, h3, h4, gdb_1]
theorem isAcc_eq (v : Int32) (t : SH) : fX5_isAccount v t = some ((if 0 ≤ v ∧ v ≤ 511 then 1 else 0), t) := by
  unfold fX5_isAccount
  rw [isIn_eq, bnd_some]
  by_cases h : 0 ≤ v ∧ v ≤ 511 <;> simp [h, gdb_0, gdb_1]
theorem isSym_eq (v : Int32) (t : SH) : fX5_isSymbol v t = some ((if 0 ≤ v ∧ v ≤ 3 then 1 else 0), t) := by
  unfold fX5_isSymbol
  rw [isIn_eq, bnd_some]
  by_cases h : 0 ≤ v ∧ v ≤ 3 <;> simp [h, gdb_0, gdb_1]
theorem i32_range (x : Int32) : x.toInt < 2147483648 ∧ -2147483648 ≤ x.toInt := ⟨by have := x.toInt_lt; simpa using this, by have := x.le_toInt; simpa using this⟩
theorem between {x : Int32} {lo hi : Int32} {a b : Nat} (ha : lo.toInt = a) (hb : hi.toInt = b) (h1 : lo ≤ x) (h2 : x ≤ hi) : ∃ j : Nat, a ≤ j ∧ j ≤ b ∧ x = nI j := by
  rw [Int32.le_iff_toInt_le] at h1 h2
  have hr := i32_range hi
  refine ⟨x.toInt.toNat, by omega, by omega, ?_⟩
  apply Int32.toInt_inj.mp
  rw [nI_toInt (by omega)]
  omega
theorem needAcc_eq (v : Int32) (h : SH) : fX4_needAccount v h = if 0 ≤ v ∧ v ≤ 511 then some (.inr (), h) else some (.inl eIdx, h) := by
  unfold fX4_needAccount fX4_needAccount_11
  have e : (v < 512) = (v ≤ 511) := propext (by rw [Int32.lt_iff_toInt_lt, Int32.le_iff_toInt_le]; have h1 : (512 : Int32).toInt = 512 := (by decide); have h2 : (511 : Int32).toInt = 511 := (by decide); omega)
  by_cases h1 : v < 0
  · have h3 : ¬ 0 ≤ v := Int32.not_le.mpr h1
    simp [h1, h3, eIdx]
  · have h3 : 0 ≤ v := Int32.not_lt.mp h1
    simp only [e]
    by_cases h2 : v ≤ 511 <;> simp [h1, h2, h3, eIdx]
theorem needSym_eq (v : Int32) (h : SH) : fX4_needSymbol v h = if 0 ≤ v ∧ v ≤ 3 then some (.inr (), h) else some (.inl eIdx, h) := by
  unfold fX4_needSymbol fX4_needSymbol_9
  have e : (v < 4) = (v ≤ 3) := propext (by rw [Int32.lt_iff_toInt_lt, Int32.le_iff_toInt_le]; have h1 : (4 : Int32).toInt = 4 := (by decide); have h2 : (3 : Int32).toInt = 3 := (by decide); omega)
  by_cases h1 : v < 0
  · have h3 : ¬ 0 ≤ v := Int32.not_le.mpr h1
    simp [h1, h3, eIdx]
  · have h3 : 0 ≤ v := Int32.not_lt.mp h1
    simp only [e]
    by_cases h2 : v ≤ 3 <;> simp [h1, h2, h3, eIdx]
theorem needWi_eq (v a b : Int32) (h : SH) : fX4_needWithin v a b h = if a ≤ v ∧ v ≤ b then some (.inr (), h) else some (.inl eArg, h) := by
  unfold fX4_needWithin fX4_needWithin_10
  by_cases h1 : v < a
  · have h3 : ¬ a ≤ v := Int32.not_le.mpr h1
    simp [h1, h3, eArg]
  · have h3 : a ≤ v := Int32.not_lt.mp h1
    by_cases h2 : v ≤ b <;> simp [h1, h2, h3, eArg]
theorem needSide_eq (v : Int32) (h : SH) : fX4_needSide v h = if 0 ≤ v ∧ v ≤ 1 then some (.inr (), h) else some (.inl eArg, h) := by
  unfold fX4_needSide fX4_needSide_20
  by_cases h1 : v = 0
  · subst h1
    simp
  · by_cases h2 : v = 1
    · subst h2
      simp
    · have h3 : ¬ (0 ≤ v ∧ v ≤ 1) := by
        rintro ⟨a, b⟩
        obtain ⟨j, j1, j2, e⟩ := between (a := 0) (b := 1) (by decide) (by decide) a b
        have hj : j = 0 ∨ j = 1 := by omega
        rcases hj with rfl | rfl
        · exact h1 (e.trans (by decide))
        · exact h2 (e.trans (by decide))
      simp [h1, h2, h3, eArg]
