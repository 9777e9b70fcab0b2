/-! ===== until, grant, count ===== -/
def uq (q : Nat → Nat → Nat) (f k v : Nat) : Nat → Nat → Nat := fun f' k' => if f' = f ∧ k' = k then v else q f' k'
section More
variable {h h' t t' : SH} {q q' : Nat → Nat → Nat} {Q : Nat → List Nat} {n nt B o : Nat}
theorem uq_ne {f k v f' k' : Nat} (hf : f' ≠ f) : uq q f k v f' k' = q f' k' := if_neg (fun e => hf e.1)
theorem uq_nk {f k v f' k' : Nat} (hk : k' ≠ k) : uq q f k v f' k' = q f' k' := if_neg (fun e => hk e.2)
theorem uq_eq {f k v : Nat} : uq q f k v f k = v := if_pos ⟨rfl, rfl⟩
/-- a book looks at symbol, side, price, state and turn alone -/
theorem RelB.q_ (R : RelB h q Q n) (hq : ∀ f k, f = 1 ∨ f = 2 ∨ f = 4 ∨ f = 7 ∨ f = 8 → q' f k = q f k) : RelB h q' Q n := by
  intro b hb
  obtain ⟨r1, r2, r3, r4⟩ := R b hb
  have e1 : inBook q' b = inBook q b := by
    funext k
    unfold inBook
    rw [hq 7 k (by simp), hq 1 k (by simp), hq 2 k (by simp)]
  have e2 : ∀ d, qlt q' d = qlt q d := by
    intro d
    funext i j
    unfold qlt qbet
    rw [hq 4 i (by simp), hq 4 j (by simp), hq 8 i (by simp), hq 8 j (by simp)]
  exact ⟨r1, r2, by rw [e1]; exact r3, by rw [e2]; exact r4⟩
/-- until -/
theorem op_until (R : Rel h t q Q n nt B o) (ho : n ≤ o) (a v x : Int32) : ∃ (r : String ⊕ Unit) (h' : SH) (b : Unit) (t' : SH) (q' : Nat → Nat → Nat), fX4_until a v x h = some (r, h') ∧ fX5_until a v x t = some (b, t') ∧ agr c3 r b t' ∧ Rel h' t' q' Q n nt B o := by
  have hgood : (if x < 0 then fX5_until_13 v x 0 v a t else fX5_until_13 v x 1 v a t) = fX5_until_13 v x (if x < 0 then 0 else 1) v a t := by by_cases c : x < 0 <;> simp [c]
  have hg : (¬ (if x < 0 then (0 : Int32) else 1) = 0) = (0 ≤ x) := by
    by_cases c : x < 0
    · have c' : ¬ 0 ≤ x := Int32.not_le.mpr c
      simp [c, c']
    · have c' : 0 ≤ x := Int32.not_lt.mp c
      simp [c, c']
  by_cases h1 : 0 ≤ a ∧ a ≤ 511
  · by_cases h2 : 0 ≤ v ∧ v ≤ nI n - 1
    · have hn := R.1.1
      obtain ⟨k, hk, rfl⟩ := (isInO hn).mp h2
      have hcl : (nI k).toNatClampNeg = k := nI_clamp (by omega)
      by_cases h3 : gA t 8 k = a
      · by_cases h4 : 0 ≤ x
        · by_cases h5 : q 7 k = 0 ∨ q 7 k = 1
          · obtain ⟨τ, hτ, m1, m2⟩ := R.1.2.2.2.2.2.2.1
            have hB := R.1.2.1
            obtain ⟨j, hj, rfl⟩ := nI_of (Int32.not_lt.mpr h4)
            have hz : (nI j = 0) = (j = 0) := by rw [show (0 : Int32) = nI 0 by decide]; exact nI_eq' hj (by decide)
            have hlt : (nI τ < nI j) = (τ < j) := nI_lt' (by omega) hj
            by_cases h6 : j = 0 ∨ τ < j
            · have hc : fX4_until a (nI k) (nI j) h = some (.inr (), uA h 21 k (nI j)) := by
                simp only [fX4_until, fX4_until_47, needOwn_eq R, if_pos h1, if_pos h2, hcl, if_pos h3, bndX_inr, if_pos h4, needTh_eq R ho hk, if_pos h5, hz, rdi_n, m1, hlt, wra_n (show k < 512 by omega)]
                by_cases c : j = 0
                · simp [c]
                · have c2 : τ < j := by omega
                  simp [c, c2]
              have hm : fX5_until a (nI k) (nI j) t = some ((), uA (si (si t 0 0) 0 0) 17 k (nI j)) := by
                rw [fX5_until, hgood]
                simp only [fX5_until_13, fX5_until_43, fX5_until_47, fX5_until_64, refuse_eq R, if_pos h1, if_pos h2, hcl, h3, hg, h4, and_self, if_true, if_pos h5, bnd_some, wri_n, rdi_n, thr_si, hz]
                have m2' : gi (si t 0 0) 1 = nI τ := m2
                rw [m2']
                simp only [hlt, wra_n (show k < 520 by omega)]
                by_cases c : j = 0
                · simp [c]
                · have c2 : τ < j := by omega
                  simp [c, c2]
              have S1 : Sm h (uA h 21 k (nI j)) [21] [] [] := Sm_uA
              have S2 : Sm t (uA (si (si t 0 0) 0 0) 17 k (nI j)) [17] [0, 0] [] := ((Sm_si.tr Sm_si).tr Sm_uA)
              obtain ⟨RS, RC, RH, RP, RO, RB, RT⟩ := R
              refine ⟨_, _, _, _, uq q 10 k j, hc, hm, ⟨rfl, rfl⟩, (RS.hz_ S1 (by decide) (by decide) (fun i hi => ⟨rfl, gA_uA.trans (if_neg (by omega)), rfl⟩)).tz_ S2 (by decide) (by decide) (fun i hi => ⟨rfl, gA_uA.trans (if_neg (by omega)), rfl⟩), (RC.h_ S1 (by decide) (by decide) (by decide)).t_ S2 (by decide) (by decide), (RH.h_ S1 (by decide)).t_ S2 (by decide), (RP.h_ S1 (by decide)).t_ S2 (by decide), ?_, (RB.h_ S1 (by decide)).q_ (fun f k' hf => uq_ne (by omega)), ?_⟩
              · intro k' hk'
                have r := RO k' hk'
                unfold RelO1 at r ⊢
                simp only [S1.1 _ _ (show 12 ∉ [21] by decide), S1.1 _ _ (show 13 ∉ [21] by decide), S1.1 _ _ (show 14 ∉ [21] by decide), S1.1 _ _ (show 15 ∉ [21] by decide), S1.1 _ _ (show 16 ∉ [21] by decide), S1.1 _ _ (show 17 ∉ [21] by decide), S1.1 _ _ (show 18 ∉ [21] by decide), S1.1 _ _ (show 19 ∉ [21] by decide), S1.1 _ _ (show 20 ∉ [21] by decide), S1.1 _ _ (show 22 ∉ [21] by decide),
                  S2.1 _ _ (show 8 ∉ [17] by decide), S2.1 _ _ (show 9 ∉ [17] by decide), S2.1 _ _ (show 10 ∉ [17] by decide), S2.1 _ _ (show 11 ∉ [17] by decide), S2.1 _ _ (show 12 ∉ [17] by decide), S2.1 _ _ (show 13 ∉ [17] by decide), S2.1 _ _ (show 14 ∉ [17] by decide), S2.1 _ _ (show 15 ∉ [17] by decide), S2.1 _ _ (show 16 ∉ [17] by decide), S2.1 _ _ (show 18 ∉ [17] by decide), S2.1 _ _ (show 19 ∉ [17] by decide),
                  uq_ne (show (0 : Nat) ≠ 10 by decide), uq_ne (show (1 : Nat) ≠ 10 by decide), uq_ne (show (2 : Nat) ≠ 10 by decide), uq_ne (show (3 : Nat) ≠ 10 by decide), uq_ne (show (4 : Nat) ≠ 10 by decide), uq_ne (show (5 : Nat) ≠ 10 by decide), uq_ne (show (6 : Nat) ≠ 10 by decide), uq_ne (show (7 : Nat) ≠ 10 by decide), uq_ne (show (8 : Nat) ≠ 10 by decide), uq_ne (show (9 : Nat) ≠ 10 by decide)]
                obtain ⟨r0, r1, r2, r3, r4, r5, r6, r7, r8, r9, r10⟩ := r
                refine ⟨r0, r1, r2, r3, r4, r5, r6, r7, r8, ?_, r10⟩
                rw [gA_uA, gA_uA, gA_si, gA_si]
                by_cases e : k' = k
                · subst e
                  rw [uq_eq]
                  simp [hj]
                · rw [uq_nk e]
                  simp [e, r9]
              · rw [show isThereQ (uq q 10 k j) o = isThereQ q o from by funext z; unfold isThereQ; rw [uq_ne (by decide)]]
                exact RT
            · have hj0 : ¬ j = 0 := fun c => h6 (Or.inl c)
              have hj1 : ¬ τ < j := fun c => h6 (Or.inr c)
              have hc : fX4_until a (nI k) (nI j) h = some (.inl eSta, h) := by
                simp only [fX4_until, fX4_until_47, needOwn_eq R, if_pos h1, if_pos h2, hcl, if_pos h3, bndX_inr, if_pos h4, needTh_eq R ho hk, if_pos h5, hz, hj0, if_false, rdi_n, m1, hlt, hj1, eSta]
              have hm : fX5_until a (nI k) (nI j) t = some ((), si (si t 0 0) 0 3) := by
                rw [fX5_until, hgood]
                simp only [fX5_until_13, fX5_until_43, fX5_until_47, fX5_until_64, refuse_eq R, if_pos h1, if_pos h2, hcl, h3, hg, h4, and_self, if_true, if_pos h5, bnd_some, wri_n, rdi_n, thr_si, hz, hj0, if_false]
                have m2' : gi (si t 0 0) 1 = nI τ := m2
                rw [m2']
                simp only [hlt, hj1, if_false, dn30]
              exact ⟨_, _, _, _, q, hc, hm, agr_s, R⟩
          · have hc : fX4_until a (nI k) x h = some (.inl eSta, h) := by
              simp only [fX4_until, needOwn_eq R, if_pos h1, if_pos h2, hcl, if_pos h3, bndX_inr, if_pos h4, needTh_eq R ho hk, if_neg h5, bndX_inl]
            have hm : fX5_until a (nI k) x t = some ((), si (si t 0 3) 0 3) := by
              rw [fX5_until, hgood]
              simp only [fX5_until_13, fX5_until_43, fX5_until_47, fX5_until_64, refuse_eq R, if_pos h1, if_pos h2, hcl, h3, hg, h4, and_self, if_true, if_neg h5, bnd_some, wri_n, rdi_n, thr_si, dn30, if_false]
            exact ⟨_, _, _, _, q, hc, hm, agr_s, R⟩
        · have hc : fX4_until a (nI k) x h = some (.inl eArg, h) := by
            simp only [fX4_until, needOwn_eq R, if_pos h1, if_pos h2, hcl, if_pos h3, bndX_inr, if_neg h4, eArg]
          have hm : fX5_until a (nI k) x t = some ((), si (si t 0 2) 0 2) := by
            rw [fX5_until, hgood]
            simp only [fX5_until_13, fX5_until_43, fX5_until_47, fX5_until_64, refuse_eq R, if_pos h1, if_pos h2, hcl, hg, h4, and_false, if_false, bnd_some, wri_n, rdi_n, thr_si, dn20]
          exact ⟨_, _, _, _, q, hc, hm, agr_a, R⟩
      · have hc : fX4_until a (nI k) x h = some (.inl eArg, h) := by
          simp only [fX4_until, needOwn_eq R, if_pos h1, if_pos h2, hcl, if_neg h3, bndX_inl]
        have hm : fX5_until a (nI k) x t = some ((), si (si t 0 2) 0 2) := by
          rw [fX5_until, hgood]
          simp only [fX5_until_13, fX5_until_43, fX5_until_47, fX5_until_64, refuse_eq R, if_pos h1, if_pos h2, hcl, h3, false_and, if_false, bnd_some, wri_n, rdi_n, thr_si, dn20]
        exact ⟨_, _, _, _, q, hc, hm, agr_a, R⟩
    · have hc : fX4_until a v x h = some (.inl eIdx, h) := by
        simp only [fX4_until, needOwn_eq R, if_pos h1, if_neg h2, bndX_inl]
      have hm : fX5_until a v x t = some ((), si (si t 0 1) 0 1) := by
        rw [fX5_until, hgood]
        simp only [fX5_until_13, fX5_until_43, fX5_until_47, fX5_until_64, refuse_eq R, if_pos h1, if_neg h2, if_false, bnd_some, wri_n, rdi_n, thr_si, dn10]
      exact ⟨_, _, _, _, q, hc, hm, agr_i, R⟩
  · have hc : fX4_until a v x h = some (.inl eIdx, h) := by
      simp only [fX4_until, needOwn_eq R, if_neg h1, bndX_inl]
    have hm : fX5_until a v x t = some ((), si (si t 0 1) 0 1) := by
      rw [fX5_until, hgood]
      simp only [fX5_until_13, fX5_until_43, fX5_until_47, fX5_until_64, refuse_eq R, if_neg h1, if_false, bnd_some, wri_n, rdi_n, thr_si, dn10]
    exact ⟨_, _, _, _, q, hc, hm, agr_i, R⟩
end More
