/-! ===== one round of trading ===== -/
section Steps4
variable {h h' h1 h2 t t' t1 t2 : SH} {q q' : Nat → Nat → Nat} {Q Q' : Nat → List Nat} {n nt nt' B B' o o' k j a y5 x5 x6 x7 x8 : Nat}
theorem tq_there (hne : j ≠ o) (h7 : q 7 j = x7) : isThereQ (tq q o j y5 x5 x6 x7 x8) o = isThereQ q o := by
  funext k
  unfold isThereQ
  by_cases c1 : k = o
  · subst c1; rw [tq_o (by decide)]
  · by_cases c2 : k = j
    · subst c2; rw [tq_j7 hne, h7]
    · rw [tq_k c1 c2]
theorem tq_7 (hne : j ≠ o) (h7 : q 7 j = x7) : tq q o j y5 x5 x6 x7 x8 7 k = q 7 k := by
  by_cases c1 : k = o
  · subst c1; rw [tq_o (by decide)]
  · by_cases c2 : k = j
    · subst c2; rw [tq_j7 hne, h7]
    · rw [tq_k c1 c2]
theorem tq_8 (hne : j ≠ o) (h8 : q 8 j = x8) : tq q o j y5 x5 x6 x7 x8 8 k = q 8 k := by
  by_cases c1 : k = o
  · subst c1; rw [tq_o (by decide)]
  · by_cases c2 : k = j
    · subst c2; rw [tq_j8 hne, h8]
    · rw [tq_k c1 c2]
theorem tq_7n (hk : k ≠ j) : tq q o j y5 x5 x6 x7 x8 7 k = q 7 k := by
  by_cases c1 : k = o
  · subst c1; rw [tq_o (by decide)]
  · rw [tq_k c1 hk]
theorem tq_8n (hk : k ≠ j) : tq q o j y5 x5 x6 x7 x8 8 k = q 8 k := by
  by_cases c1 : k = o
  · subst c1; rw [tq_o (by decide)]
  · rw [tq_k c1 hk]
theorem tq_1248 (hne : j ≠ o) (h8 : q 8 j = x8) {f k : Nat} (hf : f = 1 ∨ f = 2 ∨ f = 4 ∨ f = 8) : tq q o j y5 x5 x6 x7 x8 f k = q f k := by
  rcases hf with rfl | rfl | rfl | rfl
  · exact tq_f (by decide) (by decide) (by decide) (by decide)
  · exact tq_f (by decide) (by decide) (by decide) (by decide)
  · exact tq_f (by decide) (by decide) (by decide) (by decide)
  · exact tq_8 hne h8
theorem tq_12478 (hne : j ≠ o) (h7 : q 7 j = x7) (h8 : q 8 j = x8) {f k : Nat} (hf : f = 1 ∨ f = 2 ∨ f = 4 ∨ f = 7 ∨ f = 8) : tq q o j y5 x5 x6 x7 x8 f k = q f k := by
  rcases hf with rfl | rfl | rfl | rfl | rfl
  · exact tq_f (by decide) (by decide) (by decide) (by decide)
  · exact tq_f (by decide) (by decide) (by decide) (by decide)
  · exact tq_f (by decide) (by decide) (by decide) (by decide)
  · exact tq_7 hne h7
  · exact tq_8 hne h8
theorem le0_n {x : Nat} (hx : x < 2 ^ 31) : (nI x ≤ 0) = (x = 0) := by
  rw [show (0 : Int32) = nI 0 by decide, nI_le' hx (by decide)]
  exact propext ⟨fun z => by omega, fun z => by omega⟩
theorem face_j (R : Rel h t q Q n nt B o) (ho : o < n) (hjQ : j ∈ Q (2 * q 1 o + (1 - q 2 o))) : j < n ∧ j ≠ o ∧ q 7 j = 0 ∧ q 1 j = q 1 o ∧ q 2 j = 1 - q 2 o ∧ 1 ≤ q 6 j ∧ q 6 j ≤ q 5 j := by
  obtain ⟨RS, RC, RH, RP, RO, RB, RT⟩ := R
  obtain ⟨-, ⟨-, -, o1⟩, ⟨-, -, o2⟩, -, -, -, -, -, -, -, -, -, -, -, o14⟩ := RO o ho
  obtain ⟨m1, m2, m3⟩ := RB.mem (by omega) hjQ
  obtain ⟨-, ⟨-, -, j1⟩, ⟨-, -, j2⟩, -, -, -, ⟨-, -, j6⟩, -, -, -, -, j11, -⟩ := RO j m1
  have := o14 rfl
  have k1 := j11 m2
  refine ⟨m1, fun z => by subst z; omega, m2, by omega, by omega, k1.2.2.1, j6⟩
theorem trade_step (N : Nat) (hN : 20000 ≤ N) (R : Rel h t q Q n nt B o) (ho : o < n) (hjQ : j ∈ Q (2 * q 1 o + (1 - q 2 o))) (hac : q 0 j ≠ q 0 o) (ha1 : 1 ≤ a) (ha5 : a ≤ q 5 o) (ha6 : a ≤ q 6 j) (hB : B + a ≤ 64000000) :
    ∃ hm h2 t2 x5 x6 x7 x8 Q' nt', fX4_makeTrade (nI o) (nI j) (nI a) h = some ((), hm) ∧ fX4_showLess N (nI j) (nI a) hm = some ((), h2) ∧ (∀ k21 x2, fX5_match_103 N k21 (nI o) x2 (nI j) (nI a) t = fX5_match_252 N k21 (nI o) x2 t2) ∧ Rel h2 t2 (tq q o j (q 5 o - a) x5 x6 x7 x8) Q' n nt' (B + a) o ∧ gi t2 0 = gi t 0 ∧ x5 = q 5 j - a ∧ ((x7 = 0 ∧ x8 = q 8 j ∧ x6 = q 6 j - a) ∨ (x7 = 2 ∧ x5 = 0) ∨ (x7 = 0 ∧ x8 = nt ∧ a = q 6 j)) := by
  obtain ⟨hj, hne, h7, h1', h2', h6', h65⟩ := face_j R ho hjQ
  obtain ⟨hm, tm, e1, e2, F⟩ := trade_facts R ho hj hne h1' hac ha1 ha5 ha6 hB
  obtain ⟨h1, hh1⟩ : ∃ h1, h1 = mA hm 19 j (nI a) := ⟨_, rfl⟩
  obtain ⟨t1, ht1⟩ : ∃ t1, t1 = t5 tm o j (nI a) := ⟨_, rfl⟩
  rw [← hh1, ← ht1] at F
  obtain ⟨RS, RC, RH, RP, RO, RB, RT⟩ := R
  have hn := RS.1
  have F0 := F
  obtain ⟨⟨FS, FC, FH, FP⟩, F1, F2, F3, F4, ⟨f1, f2, f3, f4⟩, ⟨g1, g2, g3, g4⟩, ⟨k1, k2⟩, k3, k0⟩ := F
  have RB1 : RelB h1 q Q n := RB.rows (fun b => F1 24 b (by omega) (by omega) (by decide) (by decide) (by decide)) (fun b => F1 23 b (by omega) (by omega) (by decide) (by decide) (by decide))
  obtain ⟨-, ⟨b1, -, b3⟩, ⟨c1, -, c3⟩, ⟨d1, d2, d3⟩, -, ⟨l1, l2, l3⟩, -, ⟨s1, s2, s3⟩, ⟨x1, x2⟩, -, -, j11, -⟩ := RO j hj
  rw [if_neg hne] at s1
  have hq5 := (j11 h7)
  have hj5 : j < 512 := by omega
  have hj6 : j < 520 := by omega
  -- the reference up to the test
  have hM : ∀ k21 x2, fX5_match_103 N k21 (nI o) x2 (nI j) (nI a) t = (if nI (q 5 j - a) = 0 then (
      wra t1 16 520 (nI j) 2 fun z18 => fX5_match_252 N k21 (nI o) x2 z18) else
      rda t1 14 520 (nI j) fun v13 => if v13 = 0 then (rda t1 13 520 (nI j) fun v14 => rda t1 15 520 (nI j) fun v15 => if v15 ≤ v14 then (rda t1 15 520 (nI j) fun v16 => fX5_match_231 N k21 (nI o) x2 (nI j) v16 (nI j) t1) else rda t1 13 520 (nI j) fun v17 => fX5_match_231 N k21 (nI o) x2 (nI j) v17 (nI j) t1) else fX5_match_252 N k21 (nI o) x2 t1) := by
    intro k21 x2
    unfold fX5_match_103
    rw [e2, bnd_some, mA_n (show o < 520 by omega), pA_n (show o < 520 by omega), mA_n hj6, mA_n hj6, pA_n hj6, show pA (mA (mA (pA (mA tm 13 o (nI a)) 18 o (nI a)) 13 j (nI a)) 14 j (nI a)) 18 j (nI a) = t1 from ht1.symm, rda_n hj6, g2]
  have hC : fX4_showLess N (nI j) (nI a) hm = (if q 6 j - a = 0 then (bnd (fX0_drop N (nI j) h1) fun _ z4 => rda z4 18 512 (nI j) fun v5 => if v5 = 0 then (bnd (fX4_close (nI j) 2 z4) fun _ z7 => fX4_showLess_60 N z7) else bnd (fX4_rest N (nI j) z4) fun _ z6 => fX4_showLess_60 N z6) else some ((), h1)) := by
    unfold fX4_showLess
    rw [mA_n hj5, ← hh1, rda_n hj5, f4]
    by_cases c : q 6 j - a = 0
    · rw [if_pos c, if_pos (by rw [le0_n (by omega)]; exact c)]
    · rw [if_neg c, if_neg (by rw [le0_n (by omega)]; exact c)]
  by_cases cA : q 6 j - a = 0
  · rw [if_pos cA] at hC
    obtain ⟨hd, i0, dd1, dd2, dd3, dd4, dd5, dd6⟩ := drop_eq N hN RB1 hn hj (by rw [F1 13 j (by omega) (by omega) (by decide) (by decide) (by decide)]; exact b1) (by rw [F1 14 j (by omega) (by omega) (by decide) (by decide) (by decide)]; exact c1) b3 c3 h7
    have hdr : ∀ r i, r ≠ 23 → r ≠ 24 → gA hd r i = gA h1 r i := fun r i z1 z2 => dd2.1 r i (by simp [z1, z2])
    rw [dd1, bnd_some, rda_n hj5, hdr 18 j (by decide) (by decide), f2] at hC
    by_cases cB : q 5 j - a = 0
    · -- traded wholly
      rw [if_pos (by rw [z_eq (by omega)]; exact cB)] at hC
      have A5 : At5 hd t1 q j := by
        have A0 := RO.at5 hn hj
        obtain ⟨w0, w1, w2, w3, w4⟩ := A0
        refine ⟨w0, ?_, ?_, ?_, ?_⟩
        · rw [hdr 12 j (by decide) (by decide), F1 12 j (by omega) (by omega) (by decide) (by decide) (by decide), F3 8 j (by omega) (by omega) (by decide) (by decide) (by decide)]; exact w1
        · rw [hdr 13 j (by decide) (by decide), F1 13 j (by omega) (by omega) (by decide) (by decide) (by decide), F3 9 j (by omega) (by omega) (by decide) (by decide) (by decide)]; exact w2
        · rw [hdr 14 j (by decide) (by decide), F1 14 j (by omega) (by omega) (by decide) (by decide) (by decide), F3 10 j (by omega) (by omega) (by decide) (by decide) (by decide)]; exact w3
        · rw [hdr 16 j (by decide) (by decide), F1 16 j (by omega) (by omega) (by decide) (by decide) (by decide), F3 12 j (by omega) (by omega) (by decide) (by decide) (by decide)]; exact w4
      rw [close_eq (left := 0) A5 (by rw [hdr 18 j (by decide) (by decide), f2, cB]), bnd_some] at hC
      have hcl : clH q hd j 0 2 = si (uA (uA (uA hd 18 j 0) 19 j 0) 20 j 2) 3 (gi hd 3 - 1) := by unfold clH; rw [hldH_0]
      have S1 : Sm h1 (clH q hd j 0 2) [23, 24, 18, 19, 20] [3] [] := by rw [hcl]; exact dd2.tr (((Sm_uA.tr Sm_uA).tr Sm_uA).tr Sm_si)
      have rH : ∀ r i, r ≠ 23 → r ≠ 24 → (i ≠ j ∨ (r ≠ 18 ∧ r ≠ 19 ∧ r ≠ 20)) → gA (clH q hd j 0 2) r i = gA h1 r i := by
        intro r i z1 z2 z3
        rw [hcl, gA_si, gA_uA, if_neg (by omega), gA_uA, if_neg (by omega), gA_uA, if_neg (by omega), hdr r i z1 z2]
      have RB2 := RelB_drop (q' := tq q o j (q 5 o - a) 0 0 2 (q 8 j)) RB1 hj rfl dd3 dd4 dd5 dd6 (fun f k' hf => tq_1248 hne rfl hf) (fun k' hk' => tq_7n hk') (by rw [tq_j7 hne]; decide)
      have RB3 := RB2.h_ (h' := clH q hd j 0 2) (by rw [hcl]; exact ((Sm_uA.tr Sm_uA).tr Sm_uA).tr Sm_si) (by decide)
      refine ⟨hm, _, uA t1 16 j 2, 0, 0, 2, q 8 j, _, nt, e1, hC, fun k21 x2 => ?_, trade_fin (x5 := 0) (x6 := 0) (x7 := 2) (x8 := q 8 j) (B' := B + a) RO F0 ho hj hne (Nat.le_refl _) h7 ha5 ?_ ?_ ?_ ?_ (Nat.le_refl _) ?_ ?_ ?_ ?_ ?_ ?_ ?_ ?_ ?_ RB3 ?_, k0, cB.symm, .inr (.inl ⟨rfl, rfl⟩)⟩
      · rw [hM, if_pos (by rw [z_eq (by omega)]; exact cB), wra_n hj6]
      · exact (FS.hz_ S1 (by decide) (by decide) (fun i hi => ⟨rH 19 i (by decide) (by decide) (by omega), rH 21 i (by decide) (by decide) (by omega), rH 22 i (by decide) (by decide) (by omega)⟩)).t_ Sm_uA (by decide) (by decide)
      · exact (FC.h_ S1 (by decide) (by decide) (by decide)).t_ Sm_uA (by decide) (by decide)
      · exact (FH.h_ S1 (by decide)).t_ Sm_uA (by decide)
      · exact (FP.h_ S1 (by decide)).t_ Sm_uA (by decide)
      · intro r i z1 z2 z3; exact rH r i (by omega) (by omega) (.inl z3)
      · intro r z1 z2 z3 z4 z5; exact rH r j (by omega) (by omega) (.inr ⟨z3, z4, z5⟩)
      · intro r i z1 z2 z3; exact gA_uA_ne z3
      · intro r z1 z2 z3 z4 z5 z6; exact gA_uA_nk z5
      · exact ⟨by rw [hcl, gA_si, gA_uA_nk (by decide), gA_uA_nk (by decide), gA_uA_eq]; rfl, by rw [gA_uA_nk (by decide), g2, cB], by omega⟩
      · exact ⟨by rw [hcl, gA_si, gA_uA_nk (by decide), gA_uA_eq]; rfl, by rw [gA_uA_nk (by decide), g4, cA], by omega⟩
      · exact ⟨by rw [hcl, gA_si, gA_uA_eq]; rfl, by rw [gA_uA_eq]; rfl, .inr rfl⟩
      · intro z; omega
      · intro _; exact ⟨rfl, rfl⟩
      · rw [hcl]
        show gi hd 3 - 1 = _
        have w1 := cnt_upd (p := isThereQ q o) (q := isThereQ (tq q o j (q 5 o - a) 0 0 2 (q 8 j)) o) hj (fun i hi hine => by
          unfold isThereQ
          rw [tq_7n hine])
        have w2 : isThereQ (tq q o j (q 5 o - a) 0 0 2 (q 8 j)) o j = false := by
          unfold isThereQ
          rw [tq_j7 hne]
          simp [hne]
        have w3 : isThereQ q o j = true := by unfold isThereQ; simp [h7]
        rw [w2, w3] at w1
        simp only [if_true, Bool.false_eq_true, if_false] at w1
        rw [dd2.2.1 _ (by decide), k3, RT, show (1 : Int32) = nI 1 by decide, pk_sub (by omega)]
        congr 1
        omega
    · -- shown anew
      rw [if_neg (by rw [z_eq (by omega)]; exact cB)] at hC
      have k4 : q 3 j = 4 := by
        by_cases z : q 3 j = 4
        · exact z
        · have := hq5.2.2.2 z
          omega
      obtain ⟨x9, y9, z9⟩ := x2 (.inl k4)
      obtain ⟨m, hm9⟩ : ∃ m, m = if q 5 j - a < q 9 j then q 5 j - a else q 9 j := ⟨_, rfl⟩
      have hm1 : 1 ≤ m ∧ m ≤ q 5 j - a := by rw [hm9]; split <;> omega
      have S3 : Sm hd (uA (uA hd 19 j (nI m)) 20 j 0) [19, 20] [] [] := Sm_uA.tr Sm_uA
      have RBd := RelB_drop (q' := tq q o j (q 5 o - a) (q 5 j - a) m 2 (q 8 j)) RB1 hj rfl dd3 dd4 dd5 dd6 (fun f k' hf => tq_1248 hne rfl hf) (fun k' hk' => tq_7n hk') (by rw [tq_j7 hne]; decide)
      have RBd2 := RBd.h_ S3 (by decide)
      have hS3 : ∀ r i, r ≠ 19 → r ≠ 20 → gA (uA (uA hd 19 j (nI m)) 20 j 0) r i = gA hd r i := fun r i z1 z2 => S3.1 r i (by simp [z1, z2])
      obtain ⟨hp, Qp, p1, p2, p3⟩ := putLast_eq (q' := tq q o j (q 5 o - a) (q 5 j - a) m 0 nt) (nt := nt) N hN RBd2 hn hj (fun i hi => by
          rw [hS3 16 i (by decide) (by decide), hdr 16 i (by decide) (by decide), F1 16 i (by omega) (by omega) (by decide) (by decide) (by decide), tq_f (by decide) (by decide) (by decide) (by decide)]
          obtain ⟨-, -, -, -, ⟨w1, -, w3⟩, -⟩ := RO i hi
          exact ⟨w1, w3⟩) (by rw [hS3 13 j (by decide) (by decide), hdr 13 j (by decide) (by decide), F1 13 j (by omega) (by omega) (by decide) (by decide) (by decide), tq_f (by decide) (by decide) (by decide) (by decide)]; exact b1)
        (by rw [hS3 14 j (by decide) (by decide), hdr 14 j (by decide) (by decide), F1 14 j (by omega) (by omega) (by decide) (by decide) (by decide), tq_f (by decide) (by decide) (by decide) (by decide)]; exact c1)
        (by rw [tq_f (by decide) (by decide) (by decide) (by decide)]; exact b3) (by rw [tq_f (by decide) (by decide) (by decide) (by decide)]; exact c3) (by rw [tq_j7 hne]; decide)
        (fun f k' hf => by rcases hf with rfl | rfl | rfl <;> rw [tq_f (by decide) (by decide) (by decide) (by decide), tq_f (by decide) (by decide) (by decide) (by decide)])
        (fun k' hk' => ⟨by rw [tq_7n hk', tq_7n hk'], by rw [tq_8n hk', tq_8n hk']⟩) (tq_j7 hne) (tq_j8 hne)
        (fun i hi hi7 => by
          by_cases z : i = j
          · subst z; rw [tq_j7 hne] at hi7; omega
          · rw [tq_7n z] at hi7
            rw [tq_8n z]
            obtain ⟨-, -, -, -, -, -, -, -, -, -, -, w11, -⟩ := RO i hi
            exact (w11 hi7).2.1)
      have hrest : fX4_rest N (nI j) hd = some ((), hp) := by
        unfold fX4_rest fX4_rest_48
        rw [rda_n hj5, hdr 18 j (by decide) (by decide), f2, rda_n hj5, hdr 15 j (by decide) (by decide), F1 15 j (by omega) (by omega) (by decide) (by decide) (by decide), d1, if_pos (by rw [k4]; decide), rda_n hj5, hdr 17 j (by decide) (by decide), F1 17 j (by omega) (by omega) (by decide) (by decide) (by decide), x1, x9]
        rw [show (if nI (q 5 j - a) < nI (q 9 j) then nI (q 5 j - a) else nI (q 9 j)) = nI m by
          rw [hm9]
          by_cases z : q 5 j - a < q 9 j
          · rw [if_pos z, if_pos (nI_lt z (by omega))]
          · rw [if_neg z, if_neg (nI_nlt (by omega) (by omega))]]
        rw [wra_n hj5, wra_n hj5, p1, bnd_some]
      rw [hrest, bnd_some] at hC
      have hpr : ∀ r i, r ≠ 23 → r ≠ 24 → (i ≠ j ∨ (r ≠ 19 ∧ r ≠ 20)) → gA hp r i = gA h1 r i := by
        intro r i z1 z2 z3
        rw [p2.1 r i (by simp [z1, z2]), gA_uA, if_neg (by omega), gA_uA, if_neg (by omega), hdr r i z1 z2]
      have S1 : Sm h1 hp [23, 24, 19, 20, 23, 24] [] [] := (dd2.tr S3).tr p2
      obtain ⟨t2, ht2⟩ : ∃ t2, t2 = si (uA (uA t1 14 j (nI m)) 19 j (nI nt)) 3 (nI (nt + 1)) := ⟨_, rfl⟩
      have S2 : Sm t1 (uA (uA t1 14 j (nI m)) 19 j (nI nt)) [14, 19] [] [] := Sm_uA.tr Sm_uA
      have ntB : nt ≤ B := RS.2.2.2.2.2.1.1
      have gt3 : gi t1 3 = nI nt := FS.2.2.2.2.1
      refine ⟨hm, hp, t2, q 5 j - a, m, 0, nt, Qp, nt + 1, e1, hC, fun k21 x2 => ?_, trade_fin (x5 := q 5 j - a) (x6 := m) (x7 := 0) (x8 := nt) (B' := B + a) RO F0 ho hj hne (Nat.le_refl _) h7 ha5 ?_ ?_ ?_ ?_ (by omega) ?_ ?_ ?_ ?_ ?_ ?_ ?_ ?_ ?_ p3 ?_, by rw [ht2]; exact k0, rfl, .inr (.inr ⟨rfl, rfl, by omega⟩)⟩
      · rw [hM, if_neg (by rw [z_eq (by omega)]; exact cB), rda_n hj6, g4, if_pos (by rw [z_eq (by omega)]; exact cA), rda_n hj6, g2, rda_n hj6, F3 15 j (by omega) (by omega) (by decide) (by decide) (by decide), x9]
        have e231 : fX5_match_231 N k21 (nI o) x2 (nI j) (nI m) (nI j) t1 = fX5_match_252 N k21 (nI o) x2 t2 := by
          unfold fX5_match_231
          rw [wra_n hj6, rdi_n, gi_uA, gt3, wra_n hj6, rdi_n, gi_uA, gi_uA, gt3, nI_1, wri_n, ht2]
        by_cases z : q 9 j ≤ q 5 j - a
        · rw [if_pos (nI_le z (by omega)), rda_n hj6, F3 15 j (by omega) (by omega) (by decide) (by decide) (by decide), x9, show nI (q 9 j) = nI m by rw [hm9, if_neg (by omega)]]
          exact e231
        · rw [if_neg (nI_ge (by omega) (by omega)), rda_n hj6, g2, show nI (q 5 j - a) = nI m by rw [hm9, if_pos (by omega)]]
          exact e231
      · rw [ht2]
        exact ((FS.hz_ S1 (by decide) (by decide) (fun i hi => ⟨hpr 19 i (by decide) (by decide) (by omega), hpr 21 i (by decide) (by decide) (by omega), hpr 22 i (by decide) (by decide) (by omega)⟩)).tz_ S2 (by decide) (by decide) (fun i hi => ⟨by rw [gA_uA_ne (by omega), gA_uA_ne (by omega)], by rw [gA_uA_ne (by omega), gA_uA_ne (by omega)], by rw [gA_uA_ne (by omega), gA_uA_ne (by omega)]⟩)).nt_ (by omega)
      · rw [ht2]; exact (FC.h_ S1 (by decide) (by decide) (by decide)).t_ (S2.tr Sm_si) (by decide) (by decide)
      · rw [ht2]; exact (FH.h_ S1 (by decide)).t_ (S2.tr Sm_si) (by decide)
      · rw [ht2]; exact (FP.h_ S1 (by decide)).t_ (S2.tr Sm_si) (by decide)
      · intro r i z1 z2 z3; exact hpr r i (by omega) (by omega) (.inl z3)
      · intro r z1 z2 z3 z4 z5; exact hpr r j (by omega) (by omega) (.inr ⟨z4, z5⟩)
      · intro r i z1 z2 z3; rw [ht2, gA_si, gA_uA_ne z3, gA_uA_ne z3]
      · intro r z1 z2 z3 z4 z5 z6; rw [ht2, gA_si, gA_uA_nk z6, gA_uA_nk z4]
      · exact ⟨by rw [hpr 18 j (by decide) (by decide) (.inr ⟨by decide, by decide⟩), f2], by rw [ht2, gA_si, gA_uA_nk (by decide), gA_uA_nk (by decide), g2], by omega⟩
      · exact ⟨by rw [p2.1 _ _ (by decide), gA_uA_nk (by decide), gA_uA_eq], by rw [ht2, gA_si, gA_uA_nk (by decide), gA_uA_eq], hm1.2⟩
      · exact ⟨by rw [p2.1 _ _ (by decide), gA_uA_eq]; rfl, by rw [ht2, gA_si, gA_uA_nk (by decide), gA_uA_nk (by decide), F3 16 j (by omega) (by omega) (by decide) (by decide) (by decide), s2, h7], .inl rfl⟩
      · intro _; exact ⟨by rw [ht2, gA_si, gA_uA_eq], by omega, hm1.1, fun z => absurd k4 z⟩
      · intro z; omega
      · rw [S1.2.1 _ (by decide), k3, RT, tq_there hne h7]
  · -- some is shown still
    rw [if_neg cA] at hC
    have cB : ¬ q 5 j - a = 0 := by omega
    refine ⟨hm, h1, t1, q 5 j - a, q 6 j - a, 0, q 8 j, Q, nt, e1, hC, fun k21 x2 => ?_, trade_fin (x5 := q 5 j - a) (x6 := q 6 j - a) (x7 := 0) (x8 := q 8 j) (B' := B + a) RO F0 ho hj hne (Nat.le_refl _) h7 ha5 FS FC FH FP (Nat.le_refl _) (fun _ _ _ _ _ => rfl) (fun _ _ _ _ _ _ => rfl) (fun _ _ _ _ _ => rfl) (fun _ _ _ _ _ _ _ => rfl) ⟨f2, g2, by omega⟩ ⟨f4, g4, by omega⟩ ⟨?_, ?_, .inl rfl⟩ (fun _ => ⟨?_, hq5.2.1, by omega, fun z => by have := hq5.2.2.2 z; omega⟩) (fun z => by omega) ?_ ?_, k0, rfl, .inl ⟨rfl, rfl, rfl⟩⟩
    · rw [hM, if_neg (by rw [z_eq (by omega)]; exact cB), rda_n hj6, g4, if_neg (by rw [z_eq (by omega)]; exact cA)]
    · rw [F1 20 j (by omega) (by omega) (by decide) (by decide) (by decide), s1, h7]
    · rw [F3 16 j (by omega) (by omega) (by decide) (by decide) (by decide), s2, h7]
    · rw [F3 19 j (by omega) (by omega) (by decide) (by decide) (by decide)]; exact hq5.1
    · exact RB1.q_ (fun f k hf => tq_12478 hne h7 rfl hf)
    · rw [k3, RT, tq_there hne h7]
end Steps4
