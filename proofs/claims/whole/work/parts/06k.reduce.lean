/-! ===== reduce ===== -/
section Reduce
variable {h h' t t' : SH} {q q' : Nat → Nat → Nat} {Q Q' : Nat → List Nat} {n nt nt' B o o' k : Nat}
theorem op_reduce (R : Rel h t q Q n nt B o) (ho : n ≤ o) (a v x : Int32) : ∃ (r : String ⊕ Int32) (h' : SH) (b : Int32) (t' : SH) (q' : Nat → Nat → Nat), fX4_reduce a v x h = some (r, h') ∧ fX5_reduce a v x t = some (b, t') ∧ agr c3 r b t' ∧ Rel h' t' q' Q n nt B o := by
  have hgood : (if x < 1 then fX5_reduce_14 v x 0 v a t else fX5_reduce_14 v x 1 v a t) = fX5_reduce_14 v x (if x < 1 then 0 else 1) v a t := by by_cases c : x < 1 <;> simp [c]
  have hg : (¬ (if x < 1 then (0 : Int32) else 1) = 0) = (1 ≤ x) := by
    by_cases c : x < 1
    · have c' : ¬ 1 ≤ x := Int32.not_le.mpr c
      simp [c, c']
    · have c' : 1 ≤ x := Int32.not_lt.mp c
      simp [c, c']
  have three_le0 : ((3 : Int32) ≤ 0) = False := by decide
  by_cases h1 : 0 ≤ a ∧ a ≤ 511
  · by_cases h2 : 0 ≤ v ∧ v ≤ nI n - 1
    · have hn := R.1.1
      obtain ⟨k, hk, rfl⟩ := (isInO hn).mp h2
      have hcl : (nI k).toNatClampNeg = k := nI_clamp (by omega)
      have hk1 : k < 512 := by omega
      have hk2 : k < 520 := by omega
      by_cases h3 : gA t 8 k = a
      · by_cases h4 : 1 ≤ x
        · by_cases h5 : q 7 k = 0 ∨ q 7 k = 1
          · obtain ⟨RS, RC, RH, RP, RO, RB, RT⟩ := R
            have hA := RO.at5 hn hk
            have r := RO k hk
            unfold RelO1 at r
            obtain ⟨r0, r1, r2, r3, r4, r5, r6, r7, r8, r9, r10, r11, r12, r13, r14⟩ := r
            have R0 : Rel h t q Q n nt B o := ⟨RS, RC, RH, RP, RO, RB, RT⟩
            by_cases h6 : x < nI (q 5 k)
            · have hx0 : ¬ x < 0 := fun z => by
                rw [Int32.lt_iff_toInt_lt] at z
                rw [Int32.le_iff_toInt_le] at h4
                have e0 : (0 : Int32).toInt = 0 := by decide
                have e1 : (1 : Int32).toInt = 1 := by decide
                omega
              obtain ⟨y, hy, rfl⟩ := nI_of hx0
              have hy1 : 1 ≤ y := by rw [show (1 : Int32) = nI 1 by decide, nI_le' (by decide) hy] at h4; exact h4
              have hy2 : y < q 5 k := by rw [nI_lt' hy (by omega)] at h6; exact h6
              obtain ⟨m, hm⟩ : ∃ m, m = if q 5 k - y < q 6 k then q 5 k - y else q 6 k := ⟨_, rfl⟩
              have hm1 : m ≤ q 5 k - y := by rw [hm]; split <;> omega
              have e1 : (nI (q 5 k) - nI y : Int32) = nI (q 5 k - y) := pk_sub (by omega)
              have e2 : (if nI (q 5 k - y) < nI (q 6 k) then nI (q 5 k - y) else nI (q 6 k)) = nI m := by
                rw [hm]
                by_cases c : q 5 k - y < q 6 k
                · rw [if_pos c, if_pos (nI_lt c (by omega))]
                · rw [if_neg c, if_neg (nI_nlt (by omega) (by omega))]
              have hA1 : At5 (uA (uA h 18 k (nI (q 5 k - y))) 19 k (nI m)) t q k := (hA.h_ Sm_uA (by decide)).h_ Sm_uA (by decide)
              have hA2 : At5 h (si (si t 0 0) 0 0) q k := hA.t_ (Sm_si.tr Sm_si) (by decide)
              have hH : ∀ (z : SH) r j, r ≠ 8 → gA (hldH q z k (-nI y)) r j = gA z r j := fun z r j hr => Sm_hldH.1 r j (by simp [hr])
              have hM : ∀ (z : SH) r j, r ≠ 4 → gA (hldM q z k (nI y)) r j = gA z r j := fun z r j hr => Sm_hldM.1 r j (by simp [hr])
              have hc : fX4_reduce a (nI k) (nI y) h = some (.inr (nI (q 5 k - y)), hldH q (uA (uA h 18 k (nI (q 5 k - y))) 19 k (nI m)) k (-nI y)) := by
                unfold fX4_reduce
                rw [needOwn_eq R0, if_pos h1, if_pos h2, hcl, if_pos h3, bndX_inr, if_pos h4, needTh_eq R0 ho hk, if_pos h5, bndX_inr, rda_n hk1, r5.1, if_pos h6, rda_n hk1, r5.1, e1, wra_n hk1, rda_n hk1, gA_uA_nk (by decide), r6.1, rda_n hk1, gA_uA_eq, e2, wra_n hk1, hold_eq hA1, bnd_some, rda_n hk1, hH _ _ _ (by decide), gA_uA_nk (by decide), gA_uA_eq]
              have hm' : fX5_reduce a (nI k) (nI y) t = some (nI (q 5 k - y), uA (uA (hldM q (si (si t 0 0) 0 0) k (nI y)) 13 k (nI (q 5 k - y))) 14 k (nI m)) := by
                unfold fX5_reduce
                rw [hgood]
                unfold fX5_reduce_14 fX5_reduce_42 fX5_reduce_46
                rw [refuse_eq R0, if_pos h1, if_pos h2, hcl, if_pos ⟨h3, by rw [hg]; exact h4⟩, if_pos h5, bnd_some, wri_n, rdi_n, thr_si, if_pos rfl, rda_n hk2, gA_si, r5.2.1, if_pos h6, rdi_n, thr_si, wri_n, rdi_n, thr_si, if_pos (by decide), free_eq hA2, bnd_some, rda_n hk2, hM _ _ _ (by decide), gA_si, gA_si, r5.2.1, e1, wra_n hk2, rda_n hk2, gA_uA_nk (by decide), hM _ _ _ (by decide), gA_si, gA_si, r6.2.1, rda_n hk2, gA_uA_eq, rda_n hk2, gA_uA_nk (by decide), hM _ _ _ (by decide), gA_si, gA_si, r6.2.1]
                unfold fX5_reduce_109
                by_cases c : q 6 k ≤ q 5 k - y
                · rw [if_pos (nI_le c (by omega)), wra_n hk2, rda_n hk2, gA_uA_nk (by decide), gA_uA_eq, show nI (q 6 k) = nI m by rw [hm, if_neg (by omega)]]
                · rw [if_neg (nI_ge (by omega) (by omega)), rda_n hk2, gA_uA_eq, wra_n hk2, rda_n hk2, gA_uA_nk (by decide), gA_uA_eq, show nI (q 5 k - y) = nI m by rw [hm, if_pos (by omega)]]
              have S1 : Sm h (hldH q (uA (uA h 18 k (nI (q 5 k - y))) 19 k (nI m)) k (-nI y)) [18, 19, 8] [] [6] := (Sm_uA.tr Sm_uA).tr Sm_hldH
              have S2 : Sm t (uA (uA (hldM q (si (si t 0 0) 0 0) k (nI y)) 13 k (nI (q 5 k - y))) 14 k (nI m)) [4, 13, 14] [0, 0] [2] := (((Sm_si.tr Sm_si).tr Sm_hldM).tr Sm_uA).tr Sm_uA
              refine ⟨_, _, _, _, uq (uq q 5 k (q 5 k - y)) 6 k m, hc, hm', ⟨?_, rfl⟩, (RS.hz_ S1 (by decide) (by decide) (fun i hi => ⟨by rw [hH _ _ _ (by decide), gA_uA_ne (by omega), gA_uA_ne (by omega)], by rw [hH _ _ _ (by decide)]; rfl, by rw [hH _ _ _ (by decide)]; rfl⟩)).tz_ S2 (by decide) (by decide) (fun i hi => ⟨by rw [gA_uA_ne (by omega), gA_uA_ne (by omega), hM _ _ _ (by decide)]; rfl, by rw [gA_uA_ne (by omega), gA_uA_ne (by omega), hM _ _ _ (by decide)]; rfl, by rw [gA_uA_ne (by omega), gA_uA_ne (by omega), hM _ _ _ (by decide)]; rfl⟩), ?_, ?_, (RP.h_ S1 (by decide)).t_ S2 (by decide), fun j hj => ?_, (RB.h_ S1 (by decide)).q_ (fun f k' hf => by rw [uq_ne (by omega), uq_ne (by omega)]), ?_⟩
              · rw [gi_uA, gi_uA, Sm_hldM.2.1 0 (by decide)]
                rfl
              · have C1 : RelC (uA (uA h 18 k (nI (q 5 k - y))) 19 k (nI m)) (si (si t 0 0) 0 0) := (RC.h_ (Sm_uA.tr Sm_uA) (by decide) (by decide) (by decide)).t_ (Sm_si.tr Sm_si) (by decide) (by decide)
                exact (RelC_hold (q := q) (k := k) C1 (a := y) (by omega) r0.2.2).t_ (Sm_uA.tr Sm_uA) (by decide) (by decide)
              · have C1 : RelH (uA (uA h 18 k (nI (q 5 k - y))) 19 k (nI m)) (si (si t 0 0) 0 0) B := (RH.h_ (Sm_uA.tr Sm_uA) (by decide)).t_ (Sm_si.tr Sm_si) (by decide)
                exact (RelH_hold (q := q) (k := k) (a := y) C1 (by have := r0.2.2; have := r1.2.2; omega)).t_ (Sm_uA.tr Sm_uA) (by decide)
              · by_cases e : j = k
                · subst e
                  have u5 : uq (uq q 5 j (q 5 j - y)) 6 j m 5 j = q 5 j - y := by rw [uq_ne (by decide), uq_eq]
                  have u6 : uq (uq q 5 j (q 5 j - y)) 6 j m 6 j = m := uq_eq
                  have uf : ∀ f, f ≠ 5 → f ≠ 6 → uq (uq q 5 j (q 5 j - y)) 6 j m f j = q f j := fun f h5 h6 => by rw [uq_ne h6, uq_ne h5]
                  have S1' : ∀ r, r ≠ 18 → r ≠ 19 → r ≠ 8 → gA (hldH q (uA (uA h 18 j (nI (q 5 j - y))) 19 j (nI m)) j (-nI y)) r j = gA h r j := fun r a b c => S1.1 r j (by simp [a, b, c])
                  have S2' : ∀ r, r ≠ 4 → r ≠ 13 → r ≠ 14 → gA (uA (uA (hldM q (si (si t 0 0) 0 0) j (nI y)) 13 j (nI (q 5 j - y))) 14 j (nI m)) r j = gA t r j := fun r a b c => S2.1 r j (by simp [a, b, c])
                  unfold RelO1
                  rw [u5, u6, uf 0 (by decide) (by decide), uf 1 (by decide) (by decide), uf 2 (by decide) (by decide), uf 3 (by decide) (by decide), uf 4 (by decide) (by decide), uf 7 (by decide) (by decide), uf 8 (by decide) (by decide), uf 9 (by decide) (by decide), uf 10 (by decide) (by decide),
                    S1' 12 (by decide) (by decide) (by decide), S1' 13 (by decide) (by decide) (by decide), S1' 14 (by decide) (by decide) (by decide), S1' 15 (by decide) (by decide) (by decide), S1' 16 (by decide) (by decide) (by decide), S1' 17 (by decide) (by decide) (by decide), S1' 20 (by decide) (by decide) (by decide), S1' 21 (by decide) (by decide) (by decide), S1' 22 (by decide) (by decide) (by decide),
                    S2' 8 (by decide) (by decide) (by decide), S2' 9 (by decide) (by decide) (by decide), S2' 10 (by decide) (by decide) (by decide), S2' 11 (by decide) (by decide) (by decide), S2' 12 (by decide) (by decide) (by decide), S2' 15 (by decide) (by decide) (by decide), S2' 16 (by decide) (by decide) (by decide), S2' 17 (by decide) (by decide) (by decide), S2' 18 (by decide) (by decide) (by decide), S2' 19 (by decide) (by decide) (by decide),
                    hH _ _ _ (by decide), hH _ _ _ (by decide), gA_uA_nk (show 18 ≠ 19 by decide), gA_uA_eq, gA_uA_eq, gA_uA_nk (show 13 ≠ 14 by decide), gA_uA_eq, gA_uA_eq]
                  refine ⟨r0, r1, r2, r3, r4, ⟨rfl, rfl, by omega⟩, ⟨rfl, rfl, by omega⟩, r7, r8, r9, r10, fun z => ?_, fun z => ?_, fun z => by omega, fun z => absurd z (by omega)⟩
                  · obtain ⟨p1, p2, p3, p4⟩ := r11 z
                    refine ⟨p1, p2, ?_, fun w => ?_⟩
                    · rw [hm]; split <;> omega
                    · have := p4 w
                      rw [hm, this, if_pos (by omega)]
                  · obtain ⟨p1, p2, p3⟩ := r12 z
                    refine ⟨p1, by omega, ?_⟩
                    rw [hm, p3, if_neg (by omega)]
                · refine (RO j hj).same (fun r h1 h2 => ?_) (fun r h1 h2 => ?_) (fun f => by rw [uq_nk e, uq_nk e]) (Nat.le_refl _) Iff.rfl
                  · rw [hH _ _ _ (by omega), gA_uA_ne e, gA_uA_ne e]
                  · rw [gA_uA_ne e, gA_uA_ne e, hM _ _ _ (by omega)]
                    rfl
              · rw [S1.2.1 3 (by decide), RT]
                refine congrArg nI (cnt_congr (fun j hj => ?_))
                unfold isThereQ
                rw [uq_ne (by decide), uq_ne (by decide)]
            · have hc : fX4_reduce a (nI k) x h = some (.inl eSta, h) := by
                simp only [fX4_reduce, needOwn_eq R0, if_pos h1, if_pos h2, hcl, if_pos h3, bndX_inr, if_pos h4, needTh_eq R0 ho hk, if_pos h5, rda_n hk1, r5.1, if_neg h6, eSta]
              have hm : fX5_reduce a (nI k) x t = some (0, si (si t 0 0) 0 3) := by
                unfold fX5_reduce
                rw [hgood]
                simp only [fX5_reduce_14, fX5_reduce_42, fX5_reduce_46, refuse_eq R0, if_pos h1, if_pos h2, hcl, h3, hg, h4, and_self, if_true, if_pos h5, bnd_some, wri_n, rdi_n, thr_si, rda_n hk2, gA_si, r5.2.1, if_neg h6, three_le0, if_false]
              exact ⟨_, _, _, _, q, hc, hm, agr_s, R0⟩
          · have hc : fX4_reduce a (nI k) x h = some (.inl eSta, h) := by
              simp only [fX4_reduce, needOwn_eq R, if_pos h1, if_pos h2, hcl, if_pos h3, bndX_inr, if_pos h4, needTh_eq R ho hk, if_neg h5, bndX_inl]
            have hm : fX5_reduce a (nI k) x t = some (0, si (si t 0 3) 0 3) := by
              unfold fX5_reduce
              rw [hgood]
              simp only [fX5_reduce_14, fX5_reduce_42, fX5_reduce_46, refuse_eq R, if_pos h1, if_pos h2, hcl, h3, hg, h4, and_self, if_true, if_neg h5, bnd_some, wri_n, rdi_n, thr_si, dn30, three_le0, if_false]
            exact ⟨_, _, _, _, q, hc, hm, agr_s, R⟩
        · have hc : fX4_reduce a (nI k) x h = some (.inl eArg, h) := by
            simp only [fX4_reduce, needOwn_eq R, if_pos h1, if_pos h2, hcl, if_pos h3, bndX_inr, if_neg h4, eArg]
          have hm : fX5_reduce a (nI k) x t = some (0, si (si t 0 2) 0 2) := by
            unfold fX5_reduce
            rw [hgood]
            simp only [fX5_reduce_14, fX5_reduce_42, fX5_reduce_46, refuse_eq R, if_pos h1, if_pos h2, hcl, hg, h4, and_false, if_false, bnd_some, wri_n, rdi_n, thr_si, dn20, two_le0]
          exact ⟨_, _, _, _, q, hc, hm, agr_a, R⟩
      · have hc : fX4_reduce a (nI k) x h = some (.inl eArg, h) := by
          simp only [fX4_reduce, needOwn_eq R, if_pos h1, if_pos h2, hcl, if_neg h3, bndX_inl]
        have hm : fX5_reduce a (nI k) x t = some (0, si (si t 0 2) 0 2) := by
          unfold fX5_reduce
          rw [hgood]
          simp only [fX5_reduce_14, fX5_reduce_42, fX5_reduce_46, refuse_eq R, if_pos h1, if_pos h2, hcl, h3, false_and, if_false, bnd_some, wri_n, rdi_n, thr_si, dn20, two_le0]
        exact ⟨_, _, _, _, q, hc, hm, agr_a, R⟩
    · have hc : fX4_reduce a v x h = some (.inl eIdx, h) := by
        simp only [fX4_reduce, needOwn_eq R, if_pos h1, if_neg h2, bndX_inl]
      have hm : fX5_reduce a v x t = some (0, si (si t 0 1) 0 1) := by
        unfold fX5_reduce
        rw [hgood]
        simp only [fX5_reduce_14, fX5_reduce_42, fX5_reduce_46, refuse_eq R, if_pos h1, if_neg h2, if_false, bnd_some, wri_n, rdi_n, thr_si, dn10, one_le0]
      exact ⟨_, _, _, _, q, hc, hm, agr_i, R⟩
  · have hc : fX4_reduce a v x h = some (.inl eIdx, h) := by
      simp only [fX4_reduce, needOwn_eq R, if_neg h1, bndX_inl]
    have hm : fX5_reduce a v x t = some (0, si (si t 0 1) 0 1) := by
      unfold fX5_reduce
      rw [hgood]
      simp only [fX5_reduce_14, fX5_reduce_42, fX5_reduce_46, refuse_eq R, if_neg h1, if_false, bnd_some, wri_n, rdi_n, thr_si, dn10, one_le0]
    exact ⟨_, _, _, _, q, hc, hm, agr_i, R⟩
end Reduce
