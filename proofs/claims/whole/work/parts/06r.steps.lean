/-! ===== what becomes of the one that rested ===== -/
def tq (q : Nat → Nat → Nat) (o j y5 x5 x6 x7 x8 : Nat) : Nat → Nat → Nat := fun f k => if k = o then (if f = 5 then y5 else q f k) else if k = j then (if f = 5 then x5 else if f = 6 then x6 else if f = 7 then x7 else if f = 8 then x8 else q f k) else q f k
section Steps3
variable {h h' h1 h2 t t' t1 t2 : SH} {q q' : Nat → Nat → Nat} {Q Q' : Nat → List Nat} {n nt nt' B B' o o' k j a y5 x5 x6 x7 x8 : Nat}
theorem tq_o5 : tq q o j y5 x5 x6 x7 x8 5 o = y5 := by unfold tq; rw [if_pos rfl, if_pos rfl]
theorem tq_o {f : Nat} (hf : f ≠ 5) : tq q o j y5 x5 x6 x7 x8 f o = q f o := by unfold tq; rw [if_pos rfl, if_neg hf]
theorem tq_j5 (hne : j ≠ o) : tq q o j y5 x5 x6 x7 x8 5 j = x5 := by unfold tq; rw [if_neg hne, if_pos rfl, if_pos rfl]
theorem tq_j6 (hne : j ≠ o) : tq q o j y5 x5 x6 x7 x8 6 j = x6 := by unfold tq; rw [if_neg hne, if_pos rfl]; rfl
theorem tq_j7 (hne : j ≠ o) : tq q o j y5 x5 x6 x7 x8 7 j = x7 := by unfold tq; rw [if_neg hne, if_pos rfl]; rfl
theorem tq_j8 (hne : j ≠ o) : tq q o j y5 x5 x6 x7 x8 8 j = x8 := by unfold tq; rw [if_neg hne, if_pos rfl]; rfl
theorem tq_f {f k : Nat} (h5 : f ≠ 5) (h6 : f ≠ 6) (h7 : f ≠ 7) (h8 : f ≠ 8) : tq q o j y5 x5 x6 x7 x8 f k = q f k := by unfold tq; simp [h5, h6, h7, h8]
theorem tq_k {f k : Nat} (ho : k ≠ o) (hj : k ≠ j) : tq q o j y5 x5 x6 x7 x8 f k = q f k := by unfold tq; rw [if_neg ho, if_neg hj]
theorem RelB.rows (R : RelB h q Q n) (h24 : ∀ b, gA h' 24 b = gA h 24 b) (h23 : ∀ i, gA h' 23 i = gA h 23 i) : RelB h' q Q n := by
  intro b hb
  obtain ⟨r1, r2, r3⟩ := R b hb
  exact ⟨by rw [h24]; exact r1, fun i hi => by rw [h23]; exact r2 i hi, r3⟩
theorem RelS.nt_ (R : RelS h t n nt B) (hB : nt + 1 ≤ B) : RelS h (si t 3 (nI (nt + 1))) n (nt + 1) B := by
  obtain ⟨a1, a2, a3, a4, a5, ⟨a6, a7⟩, ⟨τ, b1, b2, b3⟩, T, c1, c2, c3, c4⟩ := R
  exact ⟨a1, a2, a3, a4, rfl, ⟨hB, a7⟩, ⟨τ, b1, b2, b3⟩, T, c1, c2, c3, c4⟩
theorem hldH_0 : hldH q h k (-nI 0) = h := by
  unfold hldH
  have e1 : (-nI 0 : Int32) = 0 := by decide
  have e0 : (0 : Int32).toInt64 = 0 := by decide
  by_cases c : q 2 k = 0
  · rw [if_pos c, e1, e0, Int64.mul_zero, Int64.add_zero]
    exact uL_self rfl
  · rw [if_neg c, e1, Int32.add_zero]
    exact uA_self rfl
/-- the end of a trade -/
theorem trade_fin (RO : RelO h t q n nt o) (F : TrF h t q n nt B o j a h1 t1) (ho : o < n) (hj : j < n) (hne : j ≠ o) (hB : B + a ≤ B') (hq7 : q 7 j = 0) (ha5 : a ≤ q 5 o)
    (RS : RelS h2 t2 n nt' (B + a)) (RC : RelC h2 t2) (RH : RelH h2 t2 (B + a)) (RP : RelP h2 t2) (hnt : nt ≤ nt')
    (H : ∀ r k, 12 ≤ r → r ≤ 22 → k ≠ j → gA h2 r k = gA h1 r k) (Hj : ∀ r, 12 ≤ r → r ≤ 22 → r ≠ 18 → r ≠ 19 → r ≠ 20 → gA h2 r j = gA h1 r j)
    (T : ∀ r k, 8 ≤ r → r ≤ 19 → k ≠ j → gA t2 r k = gA t1 r k) (Tj : ∀ r, 8 ≤ r → r ≤ 19 → r ≠ 13 → r ≠ 14 → r ≠ 16 → r ≠ 19 → gA t2 r j = gA t1 r j)
    (e5 : gA h2 18 j = nI x5 ∧ gA t2 13 j = nI x5 ∧ x5 ≤ 10000) (e6 : gA h2 19 j = nI x6 ∧ gA t2 14 j = nI x6 ∧ x6 ≤ x5) (e7 : gA h2 20 j = nI x7 ∧ gA t2 16 j = nI x7 ∧ (x7 = 0 ∨ x7 = 2))
    (e8 : x7 = 0 → gA t2 19 j = nI x8 ∧ x8 < nt' ∧ 1 ≤ x6 ∧ (q 3 j ≠ 4 → x6 = x5)) (e9 : x7 = 2 → x6 = 0 ∧ x5 = 0)
    (RB : RelB h2 (tq q o j (q 5 o - a) x5 x6 x7 x8) Q' n) (RT : gi h2 3 = nI (cnt (isThereQ (tq q o j (q 5 o - a) x5 x6 x7 x8) o) n)) : Rel h2 t2 (tq q o j (q 5 o - a) x5 x6 x7 x8) Q' n nt' (B + a) o := by
  obtain ⟨-, F1, F2, F3, F4, ⟨f1, f2, f3, f4⟩, ⟨g1, g2, g3, g4⟩, ⟨k1, k2⟩, -⟩ := F
  refine ⟨RS, RC, RH, RP, fun k hk => ?_, RB, RT⟩
  by_cases c1 : k = j
  · subst c1
    have r := RO k hk
    unfold RelO1 at r ⊢
    rw [if_neg hne] at r ⊢
    rw [tq_j5 hne, tq_j6 hne, tq_j7 hne, tq_j8 hne, tq_f (f := 0) (by decide) (by decide) (by decide) (by decide), tq_f (f := 1) (by decide) (by decide) (by decide) (by decide), tq_f (f := 2) (by decide) (by decide) (by decide) (by decide), tq_f (f := 3) (by decide) (by decide) (by decide) (by decide), tq_f (f := 4) (by decide) (by decide) (by decide) (by decide), tq_f (f := 9) (by decide) (by decide) (by decide) (by decide), tq_f (f := 10) (by decide) (by decide) (by decide) (by decide)]
    rw [Hj 12 (by omega) (by omega) (by decide) (by decide) (by decide), Hj 13 (by omega) (by omega) (by decide) (by decide) (by decide), Hj 14 (by omega) (by omega) (by decide) (by decide) (by decide), Hj 15 (by omega) (by omega) (by decide) (by decide) (by decide), Hj 16 (by omega) (by omega) (by decide) (by decide) (by decide), Hj 17 (by omega) (by omega) (by decide) (by decide) (by decide), Hj 21 (by omega) (by omega) (by decide) (by decide) (by decide), Hj 22 (by omega) (by omega) (by decide) (by decide) (by decide),
      Tj 8 (by omega) (by omega) (by decide) (by decide) (by decide) (by decide), Tj 9 (by omega) (by omega) (by decide) (by decide) (by decide) (by decide), Tj 10 (by omega) (by omega) (by decide) (by decide) (by decide) (by decide), Tj 11 (by omega) (by omega) (by decide) (by decide) (by decide) (by decide), Tj 12 (by omega) (by omega) (by decide) (by decide) (by decide) (by decide), Tj 15 (by omega) (by omega) (by decide) (by decide) (by decide) (by decide), Tj 17 (by omega) (by omega) (by decide) (by decide) (by decide) (by decide), Tj 18 (by omega) (by omega) (by decide) (by decide) (by decide) (by decide)]
    rw [F1 12 k (by omega) (by omega) (by decide) (by decide) (by decide), F1 13 k (by omega) (by omega) (by decide) (by decide) (by decide), F1 14 k (by omega) (by omega) (by decide) (by decide) (by decide), F1 15 k (by omega) (by omega) (by decide) (by decide) (by decide), F1 16 k (by omega) (by omega) (by decide) (by decide) (by decide), F1 17 k (by omega) (by omega) (by decide) (by decide) (by decide), F1 21 k (by omega) (by omega) (by decide) (by decide) (by decide),
      F3 8 k (by omega) (by omega) (by decide) (by decide) (by decide), F3 9 k (by omega) (by omega) (by decide) (by decide) (by decide), F3 10 k (by omega) (by omega) (by decide) (by decide) (by decide), F3 11 k (by omega) (by omega) (by decide) (by decide) (by decide), F3 12 k (by omega) (by omega) (by decide) (by decide) (by decide), F3 15 k (by omega) (by omega) (by decide) (by decide) (by decide), F3 17 k (by omega) (by omega) (by decide) (by decide) (by decide), k2]
    obtain ⟨r0, r1, r2, r3, r4, r5, r6, r7, r8, r9, r10, r11, r12, r13, r14⟩ := r
    refine ⟨r0, r1, r2, r3, r4, e5, e6, ⟨e7.1, e7.2.1, by omega⟩, r8, r9, rfl, e8, fun z => by omega, fun z => ?_, fun z => absurd z hne⟩
    have := e9 (by omega)
    exact ⟨this.1, fun _ => this.2⟩
  · by_cases c2 : k = o
    · subst c2
      have r := RO k hk
      unfold RelO1 at r ⊢
      rw [tq_o5, tq_o (f := 0) (by decide), tq_o (f := 1) (by decide), tq_o (f := 2) (by decide), tq_o (f := 3) (by decide), tq_o (f := 4) (by decide), tq_o (f := 6) (by decide), tq_o (f := 7) (by decide), tq_o (f := 8) (by decide), tq_o (f := 9) (by decide), tq_o (f := 10) (by decide)]
      rw [H 12 k (by omega) (by omega) c1, H 13 k (by omega) (by omega) c1, H 14 k (by omega) (by omega) c1, H 15 k (by omega) (by omega) c1, H 16 k (by omega) (by omega) c1, H 17 k (by omega) (by omega) c1, H 18 k (by omega) (by omega) c1, H 19 k (by omega) (by omega) c1, H 20 k (by omega) (by omega) c1, H 21 k (by omega) (by omega) c1, H 22 k (by omega) (by omega) c1,
        T 8 k (by omega) (by omega) c1, T 9 k (by omega) (by omega) c1, T 10 k (by omega) (by omega) c1, T 11 k (by omega) (by omega) c1, T 12 k (by omega) (by omega) c1, T 13 k (by omega) (by omega) c1, T 14 k (by omega) (by omega) c1, T 15 k (by omega) (by omega) c1, T 16 k (by omega) (by omega) c1, T 17 k (by omega) (by omega) c1, T 18 k (by omega) (by omega) c1]
      rw [F1 12 k (by omega) (by omega) (by decide) (by decide) (by decide), F1 13 k (by omega) (by omega) (by decide) (by decide) (by decide), F1 14 k (by omega) (by omega) (by decide) (by decide) (by decide), F1 15 k (by omega) (by omega) (by decide) (by decide) (by decide), F1 16 k (by omega) (by omega) (by decide) (by decide) (by decide), F1 17 k (by omega) (by omega) (by decide) (by decide) (by decide), F1 20 k (by omega) (by omega) (by decide) (by decide) (by decide), F1 21 k (by omega) (by omega) (by decide) (by decide) (by decide),
        F3 8 k (by omega) (by omega) (by decide) (by decide) (by decide), F3 9 k (by omega) (by omega) (by decide) (by decide) (by decide), F3 10 k (by omega) (by omega) (by decide) (by decide) (by decide), F3 11 k (by omega) (by omega) (by decide) (by decide) (by decide), F3 12 k (by omega) (by omega) (by decide) (by decide) (by decide), F3 15 k (by omega) (by omega) (by decide) (by decide) (by decide), F3 16 k (by omega) (by omega) (by decide) (by decide) (by decide), F3 17 k (by omega) (by omega) (by decide) (by decide) (by decide), f1, f3, g1, g3, k1]
      obtain ⟨r0, r1, r2, r3, r4, r5, r6, r7, r8, r9, r10, r11, r12, r13, r14⟩ := r
      have h7 : q 7 k = 3 := r14 rfl
      have h6 : q 6 k = 0 := (r13 (by omega)).1
      exact ⟨r0, r1, r2, r3, r4, ⟨rfl, rfl, by omega⟩, ⟨r6.1, r6.2.1, by omega⟩, r7, r8, r9, rfl, fun z => by omega, fun z => by omega, fun z => ⟨h6, fun y => absurd rfl y⟩, r14⟩
    · exact (RO k hk).same (fun r h1 h2 => (H r k h1 h2 c1).trans (F2 r k h1 (by omega) c2 c1)) (fun r h1 h2 => (T r k h1 h2 c1).trans (F4 r k h1 h2 c2 c1)) (fun f => tq_k c2 c1) hnt Iff.rfl
end Steps3
