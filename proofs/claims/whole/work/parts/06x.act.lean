/-! ===== an order acts ===== -/
def rq (q : Nat → Nat → Nat) (o m nt : Nat) : Nat → Nat → Nat := fun f k => if k = o then (if f = 6 then m else if f = 7 then 0 else if f = 8 then nt else q f k) else q f k
section Act
variable {h h' h1 h2 t t' t1 t2 tt : SH} {q q' v : Nat → Nat → Nat} {Q Q' : Nat → List Nat} {n nt nt' B B' o o' k j a b d m : Nat} {s : Option Nat}
theorem rq_k {f : Nat} (hk : k ≠ o) : rq q o m nt f k = q f k := by unfold rq; rw [if_neg hk]
theorem rq_f {f : Nat} (h6 : f ≠ 6) (h7 : f ≠ 7) (h8 : f ≠ 8) : rq q o m nt f k = q f k := by unfold rq; simp [h6, h7, h8]
theorem rq_6 : rq q o m nt 6 o = m := by unfold rq; rw [if_pos rfl, if_pos rfl]
theorem rq_7 : rq q o m nt 7 o = 0 := by unfold rq; rw [if_pos rfl]; rfl
theorem rq_8 : rq q o m nt 8 o = nt := by unfold rq; rw [if_pos rfl]; rfl
theorem Rel.B_ (R : Rel h t q Q n nt B o) (hB : B ≤ B') (hm : B' ≤ 64000000) : Rel h t q Q n nt B' o := ⟨R.1.B_ hB hm, R.2.1, R.2.2.1.B_ hB, R.2.2.2⟩
/-- what is left rests -/
theorem rest_eq (N : Nat) (hN : 20000 ≤ N) (R : Rel h t q Q n nt B o) (ho : o < n) (h5 : 1 ≤ q 5 o) (hB : B + 1 ≤ 64000000) : ∃ h' t' q' Q', fX4_rest N (nI o) h = some ((), h') ∧ fX5_rest (nI o) t = some ((), t') ∧ Rel h' t' q' Q' n (nt + 1) (B + 1) n ∧ (∀ k, q' 3 k = q 3 k) ∧ gi t' 0 = gi t 0 := by
  obtain ⟨RS, RC, RH, RP, RO, RB, RT⟩ := R
  have hn := RS.1
  have r := RO o ho
  have gt3 : gi t 3 = nI nt := RS.2.2.2.2.1
  have ntB : nt ≤ B := RS.2.2.2.2.2.1.1
  unfold RelO1 at r
  obtain ⟨r0, r1, r2, r3, r4, r5, r6, r7, r8, r9, r10, r11, r12, r13, r14⟩ := r
  have o7 := r14 rfl
  have ho5 : o < 512 := by omega
  have ho6 : o < 520 := by omega
  obtain ⟨m, hm⟩ : ∃ m, m = if q 3 o = 4 then (if q 5 o < q 9 o then q 5 o else q 9 o) else q 5 o := ⟨_, rfl⟩
  have hm1 : 1 ≤ m ∧ m ≤ q 5 o ∧ (q 3 o ≠ 4 → m = q 5 o) := by
    rw [hm]
    by_cases c : q 3 o = 4
    · have := r8.2 (.inl c)
      rw [if_pos c]
      refine ⟨by split <;> omega, by split <;> omega, fun z => absurd c z⟩
    · rw [if_neg c]
      exact ⟨h5, Nat.le_refl _, fun _ => rfl⟩
  obtain ⟨h2, hh2⟩ : ∃ h2, h2 = uA (uA h 19 o (nI m)) 20 o 0 := ⟨_, rfl⟩
  have S2 : Sm h h2 [19, 20] [] [] := by rw [hh2]; exact Sm_uA.tr Sm_uA
  obtain ⟨hp, Qp, p1, p2, p3⟩ := putLast_eq (q' := rq q o m nt) (nt := nt) N hN (RB.h_ S2 (by decide)) hn ho (fun i hi => by
      obtain ⟨-, -, -, -, ⟨w1, -, w3⟩, -⟩ := RO i hi
      rw [S2.1 16 i (by decide)]
      exact ⟨w1, w3⟩) (by rw [S2.1 13 o (by decide)]; exact r1.1) (by rw [S2.1 14 o (by decide)]; exact r2.1) r1.2.2 r2.2.2 (by omega)
    (fun f k' hf => rq_f (by omega) (by omega) (by omega)) (fun k' hk' => ⟨rq_k hk', rq_k hk'⟩) rq_7 rq_8 (fun i hi hi7 => by
      obtain ⟨-, -, -, -, -, -, -, -, -, -, -, w11, -⟩ := RO i hi
      exact (w11 hi7).2.1)
  have hc : fX4_rest N (nI o) h = some ((), hp) := by
    unfold fX4_rest fX4_rest_48
    rw [rda_n ho5, r5.1, rda_n ho5, r3.1]
    by_cases c : q 3 o = 4
    · rw [if_pos (by rw [c]; decide), rda_n ho5, r8.1, (r8.2 (.inl c)).1]
      have e : (if nI (q 5 o) < nI (q 9 o) then nI (q 5 o) else nI (q 9 o)) = nI m := by
        have := r8.2 (.inl c)
        rw [hm, if_pos c]
        by_cases z : q 5 o < q 9 o
        · rw [if_pos z, if_pos (nI_lt z (by omega))]
        · rw [if_neg z, if_neg (nI_nlt (by omega) (by omega))]
      rw [e, wra_n ho5, wra_n ho5, ← hh2, p1, bnd_some]
    · have c4 : ¬ nI (q 3 o) = 4 := fun z => c (nI_inj (by omega) (by decide) (z.trans (by decide)))
      have e : nI (q 5 o) = nI m := by rw [hm, if_neg c]
      rw [if_neg c4, e, wra_n ho5, wra_n ho5, ← hh2, p1, bnd_some]
  obtain ⟨t2, ht2⟩ : ∃ t2, t2 = uA (uA (uA t 16 o 0) 14 o (nI m)) 19 o (nI nt) := ⟨_, rfl⟩
  have T2 : Sm t t2 [16, 14, 19] [] [] := by rw [ht2]; exact (Sm_uA.tr Sm_uA).tr Sm_uA
  have hM : fX5_rest (nI o) t = some ((), si t2 3 (nI (nt + 1))) := by
    have e52 : fX5_rest_52 (nI o) (nI m) (nI o) (uA t 16 o 0) = some ((), si t2 3 (nI (nt + 1))) := by
      unfold fX5_rest_52
      rw [wra_n ho6, rdi_n, gi_uA, gi_uA, gt3, wra_n ho6, rdi_n, gi_uA, gi_uA, gi_uA, gt3, nI_1, wri_n, ht2]
    unfold fX5_rest fX5_rest_46
    have e13 : gA (uA t 16 o 0) 13 o = nI (q 5 o) := by rw [gA_uA_nk (by decide)]; exact r5.2.1
    have e15 : gA (uA t 16 o 0) 15 o = gA t 15 o := gA_uA_nk (by decide)
    rw [wra_n ho6, rda_n ho6, gA_uA_nk (by decide), r3.2.1]
    by_cases c : q 3 o = 4
    · have w := r8.2 (.inl c)
      rw [if_pos (by rw [c]; decide), rda_n ho6, e15, w.1, rda_n ho6, e13, rda_n ho6, e13, rda_n ho6, e15, w.1]
      by_cases z : q 5 o ≤ q 9 o
      · rw [if_pos (nI_le z (by omega)), show nI (q 5 o) = nI m by rw [hm, if_pos c]; congr 1; split <;> omega]
        exact e52
      · rw [if_neg (nI_ge (by omega) (by omega)), show nI (q 9 o) = nI m by rw [hm, if_pos c]; congr 1; split <;> omega]
        exact e52
    · have c4 : ¬ nI (q 3 o) = 4 := fun z => c (nI_inj (by omega) (by decide) (z.trans (by decide)))
      rw [if_neg c4, rda_n ho6, e13, show nI (q 5 o) = nI m by rw [hm, if_neg c]]
      exact e52
  have S3 : Sm h hp [19, 20, 23, 24] [] [] := S2.tr p2
  have hr : ∀ r i, r ≠ 23 → r ≠ 24 → (i ≠ o ∨ (r ≠ 19 ∧ r ≠ 20)) → gA hp r i = gA h r i := fun r i z1 z2 z3 => by
    rw [p2.1 r i (by simp [z1, z2]), hh2, gA_uA, if_neg (by omega), gA_uA, if_neg (by omega)]
  have tr' : ∀ r i, i ≠ o → gA t2 r i = gA t r i := fun r i z => by rw [ht2, gA_uA_ne z, gA_uA_ne z, gA_uA_ne z]
  refine ⟨hp, si t2 3 (nI (nt + 1)), rq q o m nt, Qp, hc, hM, ⟨?_, ?_, ?_, ?_, fun k hk => ?_, p3, ?_⟩, fun k => rq_f (by decide) (by decide) (by decide), T2.2.1 0 (by decide)⟩
  · exact (((RS.B_ (by omega) hB).hz_ S3 (by decide) (by decide) (fun i hi => ⟨hr 19 i (by decide) (by decide) (by omega), hr 21 i (by decide) (by decide) (by omega), hr 22 i (by decide) (by decide) (by omega)⟩)).tz_ T2 (by decide) (by decide) (fun i hi => ⟨tr' 14 i (by omega), tr' 17 i (by omega), tr' 18 i (by omega)⟩)).nt_ (by omega)
  · exact (RC.h_ S3 (by decide) (by decide) (by decide)).t_ (T2.tr Sm_si) (by decide) (by decide)
  · exact ((RH.B_ (by omega)).h_ S3 (by decide)).t_ (T2.tr Sm_si) (by decide)
  · exact (RP.h_ S3 (by decide)).t_ (T2.tr Sm_si) (by decide)
  · by_cases c : k = o
    · subst c
      unfold RelO1
      rw [if_neg (show ¬ k = n by omega), rq_6, rq_7, rq_8, rq_f (f := 0) (by decide) (by decide) (by decide), rq_f (f := 1) (by decide) (by decide) (by decide), rq_f (f := 2) (by decide) (by decide) (by decide), rq_f (f := 3) (by decide) (by decide) (by decide), rq_f (f := 4) (by decide) (by decide) (by decide), rq_f (f := 5) (by decide) (by decide) (by decide), rq_f (f := 9) (by decide) (by decide) (by decide), rq_f (f := 10) (by decide) (by decide) (by decide)]
      rw [hr 12 k (by decide) (by decide) (.inr (by decide)), hr 13 k (by decide) (by decide) (.inr (by decide)), hr 14 k (by decide) (by decide) (.inr (by decide)), hr 15 k (by decide) (by decide) (.inr (by decide)), hr 16 k (by decide) (by decide) (.inr (by decide)), hr 17 k (by decide) (by decide) (.inr (by decide)), hr 18 k (by decide) (by decide) (.inr (by decide)), hr 21 k (by decide) (by decide) (.inr (by decide)), hr 22 k (by decide) (by decide) (.inr (by decide))]
      simp only [gA_si]
      rw [T2.1 8 k (by decide), T2.1 9 k (by decide), T2.1 10 k (by decide), T2.1 11 k (by decide), T2.1 12 k (by decide), T2.1 13 k (by decide), T2.1 15 k (by decide), T2.1 17 k (by decide), T2.1 18 k (by decide)]
      refine ⟨r0, r1, r2, r3, r4, r5, ⟨?_, ?_, hm1.2.1⟩, ⟨?_, ?_, by omega⟩, r8, r9, r10, fun _ => ⟨?_, by omega, hm1.1, hm1.2.2⟩, fun z => by omega, fun z => by omega, fun z => by omega⟩
      · rw [p2.1 19 k (by decide), hh2, gA_uA_nk (by decide), gA_uA_eq]
      · rw [ht2, gA_uA_nk (by decide), gA_uA_eq]
      · rw [p2.1 20 k (by decide), hh2, gA_uA_eq]; rfl
      · rw [ht2, gA_uA_nk (by decide), gA_uA_nk (by decide), gA_uA_eq]; rfl
      · rw [ht2, gA_uA_eq]
    · exact (RO k hk).same (fun r z1 z2 => hr r k (by omega) (by omega) (.inl c)) (fun r z1 z2 => tr' r k c) (fun f => rq_k c) (by omega) ⟨fun z => absurd z c, fun z => by omega⟩
  · rw [S3.2.1 3 (by decide), RT]
    congr 1
    refine cnt_congr (fun k hk => ?_)
    unfold isThereQ
    by_cases c : k = o
    · subst c
      rw [rq_7]
      simp
    · rw [rq_k c]
      simp [c, show ¬ k = n by omega]
theorem Rel_B1 (hB : B + 1 ≤ 64000000) (R : Rel h t q Q n nt B o) : Rel h t q Q n nt (B + 1) o := R.B_ (by omega) hB
/-- what is left is cancelled -/
theorem cano_eq (R : Rel h t q Q n nt B o) (ho : o < n) : ∃ h' t' q', fX4_close (nI o) 3 h = some ((), h') ∧ fX5_cancelled (nI o) t = some ((), t') ∧ Rel h' t' q' Q n nt B n ∧ (∀ k, q' 3 k = q 3 k) ∧ gi t' 0 = gi t 0 := by
  obtain ⟨RS, RC, RH, RP, RO, RB, RT⟩ := R
  have hn := RS.1
  have A := RO.at5 hn ho
  have F := RO.five ho
  obtain ⟨-, -, -, -, -, -, -, -, -, -, -, -, -, -, o14⟩ := RO o ho
  have o7 := o14 rfl
  have R1 := Rel_close (o := o) (o' := n) (st := 3) RS RC RH RP RO (RB.q7 ho (by omega) (by decide)) RT ho (by unfold isThereQ; simp) rfl (.inr rfl) (fun j hj hjo => ⟨fun z => absurd z hjo, fun z => by omega⟩) (by omega)
  exact ⟨_, _, _, close_eq A F.1 3, cancelled_eq A F.2, R1, fun k => clq_f (by decide) (by decide) (by decide), Sm_caM.2.1 0 (by decide)⟩
/-- all of it was traded -/
theorem trdo_eq (R : Rel h t q Q n nt B o) (ho : o < n) (h5 : q 5 o = 0) : ∃ h' q', fX4_close (nI o) 2 h = some ((), h') ∧ Rel h' (uA t 16 o 2) q' Q n nt B n ∧ (∀ k, q' 3 k = q 3 k) := by
  obtain ⟨RS, RC, RH, RP, RO, RB, RT⟩ := R
  have hn := RS.1
  have A := RO.at5 hn ho
  have F := RO.five ho
  obtain ⟨-, -, -, -, -, -, ⟨-, s2, -⟩, -, -, -, -, -, -, o13, o14⟩ := RO o ho
  have o7 := o14 rfl
  have o6 := (o13 (by omega)).1
  have R1 := Rel_close (o := o) (o' := n) (st := 2) (left := 0) RS RC RH RP RO (RB.q7 ho (by omega) (by decide)) RT ho (by unfold isThereQ; simp) h5 (.inl rfl) (fun j hj hjo => ⟨fun z => absurd z hjo, fun z => by omega⟩) (by omega)
  rw [caM_0 (by rw [F.2, h5]; rfl) (by rw [s2, o6]; rfl)] at R1
  exact ⟨_, _, close_eq (left := 0) A (by rw [F.1, h5]) 2, R1, fun k => clq_f (by decide) (by decide) (by decide)⟩
/-- a stop waits -/
theorem stopo_eq (R : Rel h t q Q n nt B o) (ho : o < n) (h3 : q 3 o = 5) (h5 : 1 ≤ q 5 o) : Rel h (uA t 16 o 1) (uq q 7 o 1) Q n nt B n := by
  obtain ⟨RS, RC, RH, RP, RO, RB, RT⟩ := R
  have o7 : q 7 o = 3 := (RO o ho).2.2.2.2.2.2.2.2.2.2.2.2.2.2 rfl
  refine ⟨RS.t_ Sm_uA (by decide) (by decide), RC.t_ Sm_uA (by decide) (by decide), RH.t_ Sm_uA (by decide), RP.t_ Sm_uA (by decide), fun k hk => ?_, ?_, ?_⟩
  · by_cases c : k = o
    · subst c
      have r := RO k hk
      unfold RelO1 at r ⊢
      rw [if_pos rfl] at r
      rw [if_neg (show ¬ k = n by omega), uq_eq, uq_ne (f := 7) (f' := 0) (by decide), uq_ne (f := 7) (f' := 1) (by decide), uq_ne (f := 7) (f' := 2) (by decide), uq_ne (f := 7) (f' := 3) (by decide), uq_ne (f := 7) (f' := 4) (by decide), uq_ne (f := 7) (f' := 5) (by decide), uq_ne (f := 7) (f' := 6) (by decide), uq_ne (f := 7) (f' := 8) (by decide), uq_ne (f := 7) (f' := 9) (by decide), uq_ne (f := 7) (f' := 10) (by decide)]
      rw [gA_uA_nk (by decide), gA_uA_nk (by decide), gA_uA_nk (by decide), gA_uA_nk (by decide), gA_uA_nk (by decide), gA_uA_nk (by decide), gA_uA_nk (by decide), gA_uA_eq, gA_uA_nk (by decide), gA_uA_nk (by decide), gA_uA_nk (by decide), gA_uA_nk (by decide)]
      obtain ⟨r0, r1, r2, r3, r4, r5, r6, r7, r8, r9, r10, r11, r12, r13, r14⟩ := r
      exact ⟨r0, r1, r2, r3, r4, r5, r6, ⟨r7.1, rfl, by omega⟩, r8, r9, r10, fun z => by omega, fun _ => ⟨h3, h5, (r13 (by omega)).1⟩, fun z => by omega, fun z => by omega⟩
    · exact (RO k hk).same (fun _ _ _ => rfl) (fun r _ _ => gA_uA_ne c) (fun f => uq_nk c) (Nat.le_refl _) ⟨fun z => absurd z c, fun z => by omega⟩
  · intro b hb
    obtain ⟨r1, r2, r3, r4⟩ := RB b hb
    have e1 : inBook (uq q 7 o 1) b = inBook q b := by
      funext k
      unfold inBook
      rw [uq_ne (f' := 1) (by decide), uq_ne (f' := 2) (by decide)]
      by_cases c : k = o
      · subst c; rw [uq_eq, o7]; rfl
      · rw [uq_nk c]
    have e2 : ∀ d, qlt (uq q 7 o 1) d = qlt q d := fun d => by
      funext i j
      exact qlt_congr (uq_ne (by decide)) (uq_ne (by decide)) (uq_ne (by decide)) (uq_ne (by decide))
    exact ⟨r1, r2, by rw [e1]; exact r3, by rw [e2]; exact r4⟩
  · rw [RT]
    congr 1
    refine cnt_congr (fun k hk => ?_)
    unfold isThereQ
    by_cases c : k = o
    · subst c
      rw [uq_eq]
      simp
    · rw [uq_nk c]
      simp [c, show ¬ k = n by omega]
end Act
