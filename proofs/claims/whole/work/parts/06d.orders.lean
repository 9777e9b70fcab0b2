/-! ===== calls that name an order ===== -/
section Ord
variable {h t : SH} {q : Nat → Nat → Nat} {Q : Nat → List Nat} {n nt B o : Nat}
theorem isInO {v : Int32} (hn : n ≤ 64) : (0 ≤ v ∧ v ≤ nI n - 1) ↔ ∃ k, k < n ∧ v = nI k := by
  have e : (nI n - 1).toInt = (n : Int) - 1 := by
    rw [show (1 : Int32) = nI 1 by decide]
    exact pk_sub_toInt (by omega) (by decide)
  constructor
  · rintro ⟨h1, h2⟩
    rw [Int32.le_iff_toInt_le] at h1 h2
    rw [e] at h2
    have h0 : (0 : Int32).toInt = 0 := by decide
    refine ⟨v.toInt.toNat, by omega, ?_⟩
    apply Int32.toInt_inj.mp
    rw [nI_toInt (by omega)]
    omega
  · rintro ⟨k, hk, rfl⟩
    refine ⟨nI_pos' (by omega), ?_⟩
    rw [Int32.le_iff_toInt_le, e, nI_toInt (by omega)]
    omega
theorem needO_eq (h2 : gi h 2 = nI n) (hn : n ≤ 64) (v : Int32) : fX4_needOrder v h = if 0 ≤ v ∧ v ≤ nI n - 1 then some (.inr (), h) else some (.inl eIdx, h) := by
  unfold fX4_needOrder fX4_needOrder_15
  rw [rdi_n, h2]
  by_cases c : 0 ≤ v ∧ v ≤ nI n - 1
  · rw [if_pos c]
    obtain ⟨k, hk, rfl⟩ := (isInO hn).mp c
    rw [if_neg (nI_pos (by omega)), if_pos (nI_lt hk (by omega))]
  · rw [if_neg c]
    by_cases c1 : v < 0
    · rw [if_pos c1]; rfl
    · rw [if_neg c1]
      obtain ⟨j, hj, rfl⟩ := nI_of c1
      have hjn : n ≤ j := by
        rcases Nat.lt_or_ge j n with g | g
        · exact absurd ((isInO hn).mpr ⟨j, g, rfl⟩) c
        · exact g
      rw [if_neg (nI_nlt hjn hj)]
      rfl
theorem isThM_eq (R : RelO h t q n nt o) (hn : n ≤ 64) {k : Nat} (hk : k < n) : fX5_isThere (nI k) t = some ((if q 7 k = 0 ∨ q 7 k = 1 then 1 else 0), t) := by
  obtain ⟨-, -, -, -, -, -, -, ⟨-, s2, s3⟩, -⟩ := R k hk
  have hk5 : k < 520 := by omega
  unfold fX5_isThere fX5_isThere_19 fX5_isThere_24
  rw [rda_n hk5, rda_n hk5, s2]
  have e0 : (nI (q 7 k) = 0) = (q 7 k = 0) := by rw [show (0 : Int32) = nI 0 by decide]; exact nI_eq' (by omega) (by decide)
  have e1 : (nI (q 7 k) = 1) = (q 7 k = 1) := by rw [show (1 : Int32) = nI 1 by decide]; exact nI_eq' (by omega) (by decide)
  simp only [e0, e1, gdb_0, gdb_1]
  by_cases c0 : q 7 k = 0
  · simp [c0]
  · by_cases c1 : q 7 k = 1 <;> simp [c0, c1]
theorem isThH_eq (R : RelO h t q n nt o) (hn : n ≤ 64) {k : Nat} (hk : k < n) (hko : k ≠ o) : fX2_isThere (nI k) h = some ((if q 7 k = 0 ∨ q 7 k = 1 then 1 else 0), h) := by
  obtain ⟨-, -, -, -, -, -, -, ⟨s1, s2, s3⟩, -⟩ := R k hk
  rw [if_neg hko] at s1
  have hk5 : k < 512 := by omega
  unfold fX2_isThere fX2_isThere_19 fX2_isThere_24
  rw [rda_n hk5, rda_n hk5, s1]
  have e0 : (nI (q 7 k) = 0) = (q 7 k = 0) := by rw [show (0 : Int32) = nI 0 by decide]; exact nI_eq' (by omega) (by decide)
  have e1 : (nI (q 7 k) = 1) = (q 7 k = 1) := by rw [show (1 : Int32) = nI 1 by decide]; exact nI_eq' (by omega) (by decide)
  simp only [e0, e1, gdb_0, gdb_1]
  by_cases c0 : q 7 k = 0
  · simp [c0]
  · by_cases c1 : q 7 k = 1 <;> simp [c0, c1]
/-- about -/
theorem op_about (R : Rel h t q Q n nt B o) (ho : n ≤ o) (a x : Int32) : ∃ (r : String ⊕ Int32) (h' : SH) (b : Int32) (t' : SH), fX4_about a x h = some (r, h') ∧ fX5_about a x t = some (b, t') ∧ agr c2 r b t' ∧ Rel h' t' q Q n nt B o := by
  obtain ⟨hn, -, g1, g2, -⟩ := R.1
  by_cases h1 : 0 ≤ a ∧ a ≤ nI n - 1
  · obtain ⟨k, hk, rfl⟩ := (isInO hn).mp h1
    have hk1 : k < 512 := by omega
    have hk2 : k < 520 := by omega
    have hko : k ≠ o := by omega
    obtain ⟨⟨a1, a2, -⟩, -, -, -, -, ⟨b1, b2, -⟩, ⟨c1, c2, -⟩, ⟨d1, d2, d3⟩, -, ⟨e1, e2, -⟩, f1, -, f3, f4, -⟩ := R.2.2.2.2.1 k hk
    rw [if_neg hko] at d1
    by_cases h2 : 0 ≤ x ∧ x ≤ 5
    · have hz : (nI (q 7 k) = 0) = (q 7 k = 0) := by rw [show (0 : Int32) = nI 0 by decide]; exact nI_eq' (by omega) (by decide)
      have hs : nI (q 6 k) = if q 7 k = 0 then nI (q 6 k) else 0 := by
        by_cases c : q 7 k = 0
        · rw [if_pos c]
        · rw [if_neg c]
          have : q 6 k = 0 := by
            by_cases c1 : q 7 k = 1
            · exact (f3 c1).2.2
            · exact (f4 (by omega)).1
          rw [this]; decide
      rcases upto5 h2 with rfl | rfl | rfl | rfl | rfl | rfl
      · have hc : fX4_about (nI k) 0 h = some (.inr (nI (q 0 k)), h) := by
          simp only [fX4_about, needO_eq g1 hn, if_pos h1, bndX_inr, rda_n hk1, a1, b1, c1, d1, e1, f1, dn10, dn20, dn21, dn30, dn31, dn32, dn40, dn41, dn42, dn43, dn50, dn51, dn52, dn53, dn54, if_true, if_false]
        have hm : fX5_about (nI k) 0 t = some (nI (q 0 k), si t 0 0) := by
          simp only [fX5_about, fX5_about_33, fX5_about_133, rdi_n, g2, isIn_eq, if_pos h1, bnd_some, h2.1, h2.2, and_self, wri_n, thr_si, zer_le0, rda_n hk2, gA_si, a2, b2, c2, d2, e2, hz, dn10, dn20, dn21, dn30, dn31, dn32, dn40, dn41, dn42, dn43, dn50, dn51, dn52, dn53, dn54, if_true, if_false]
        exact ⟨_, _, _, _, hc, hm, ⟨rfl, rfl⟩, Rel_thr R⟩
      · have hc : fX4_about (nI k) 1 h = some (.inr (nI (q 5 k)), h) := by
          simp only [fX4_about, needO_eq g1 hn, if_pos h1, bndX_inr, rda_n hk1, a1, b1, c1, d1, e1, f1, dn10, dn20, dn21, dn30, dn31, dn32, dn40, dn41, dn42, dn43, dn50, dn51, dn52, dn53, dn54, if_true, if_false]
        have hm : fX5_about (nI k) 1 t = some (nI (q 5 k), si t 0 0) := by
          simp only [fX5_about, fX5_about_33, fX5_about_133, rdi_n, g2, isIn_eq, if_pos h1, bnd_some, h2.1, h2.2, and_self, wri_n, thr_si, zer_le0, rda_n hk2, gA_si, a2, b2, c2, d2, e2, hz, dn10, dn20, dn21, dn30, dn31, dn32, dn40, dn41, dn42, dn43, dn50, dn51, dn52, dn53, dn54, if_true, if_false]
        exact ⟨_, _, _, _, hc, hm, ⟨rfl, rfl⟩, Rel_thr R⟩
      · have hc : fX4_about (nI k) 2 h = some (.inr ((if q 7 k = 0 then nI (q 6 k) else 0)), h) := by
          simp only [fX4_about, needO_eq g1 hn, if_pos h1, bndX_inr, rda_n hk1, a1, b1, c1, d1, e1, f1, dn10, dn20, dn21, dn30, dn31, dn32, dn40, dn41, dn42, dn43, dn50, dn51, dn52, dn53, dn54, if_true, if_false]
          rw [← hs]
        have hm : fX5_about (nI k) 2 t = some ((if q 7 k = 0 then nI (q 6 k) else 0), si t 0 0) := by
          simp only [fX5_about, fX5_about_33, fX5_about_133, rdi_n, g2, isIn_eq, if_pos h1, bnd_some, h2.1, h2.2, and_self, wri_n, thr_si, zer_le0, rda_n hk2, gA_si, a2, b2, c2, d2, e2, hz, dn10, dn20, dn21, dn30, dn31, dn32, dn40, dn41, dn42, dn43, dn50, dn51, dn52, dn53, dn54, if_true, if_false]
          by_cases c : q 7 k = 0 <;> simp [c]
        exact ⟨_, _, _, _, hc, hm, ⟨rfl, rfl⟩, Rel_thr R⟩
      · have hc : fX4_about (nI k) 3 h = some (.inr (nI (q 7 k)), h) := by
          simp only [fX4_about, needO_eq g1 hn, if_pos h1, bndX_inr, rda_n hk1, a1, b1, c1, d1, e1, f1, dn10, dn20, dn21, dn30, dn31, dn32, dn40, dn41, dn42, dn43, dn50, dn51, dn52, dn53, dn54, if_true, if_false]
        have hm : fX5_about (nI k) 3 t = some (nI (q 7 k), si t 0 0) := by
          simp only [fX5_about, fX5_about_33, fX5_about_133, rdi_n, g2, isIn_eq, if_pos h1, bnd_some, h2.1, h2.2, and_self, wri_n, thr_si, zer_le0, rda_n hk2, gA_si, a2, b2, c2, d2, e2, hz, dn10, dn20, dn21, dn30, dn31, dn32, dn40, dn41, dn42, dn43, dn50, dn51, dn52, dn53, dn54, if_true, if_false]
        exact ⟨_, _, _, _, hc, hm, ⟨rfl, rfl⟩, Rel_thr R⟩
      · have hc : fX4_about (nI k) 4 h = some (.inr (nI (q 10 k)), h) := by
          simp only [fX4_about, needO_eq g1 hn, if_pos h1, bndX_inr, rda_n hk1, a1, b1, c1, d1, e1, f1, dn10, dn20, dn21, dn30, dn31, dn32, dn40, dn41, dn42, dn43, dn50, dn51, dn52, dn53, dn54, if_true, if_false]
        have hm : fX5_about (nI k) 4 t = some (nI (q 10 k), si t 0 0) := by
          simp only [fX5_about, fX5_about_33, fX5_about_133, rdi_n, g2, isIn_eq, if_pos h1, bnd_some, h2.1, h2.2, and_self, wri_n, thr_si, zer_le0, rda_n hk2, gA_si, a2, b2, c2, d2, e2, hz, dn10, dn20, dn21, dn30, dn31, dn32, dn40, dn41, dn42, dn43, dn50, dn51, dn52, dn53, dn54, if_true, if_false]
        exact ⟨_, _, _, _, hc, hm, ⟨rfl, rfl⟩, Rel_thr R⟩
      · have hc : fX4_about (nI k) 5 h = some (.inr (gA t 18 k), h) := by
          simp only [fX4_about, needO_eq g1 hn, if_pos h1, bndX_inr, rda_n hk1, a1, b1, c1, d1, e1, f1, dn10, dn20, dn21, dn30, dn31, dn32, dn40, dn41, dn42, dn43, dn50, dn51, dn52, dn53, dn54, if_true, if_false]
        have hm : fX5_about (nI k) 5 t = some (gA t 18 k, si t 0 0) := by
          simp only [fX5_about, fX5_about_33, fX5_about_133, rdi_n, g2, isIn_eq, if_pos h1, bnd_some, h2.1, h2.2, and_self, wri_n, thr_si, zer_le0, rda_n hk2, gA_si, a2, b2, c2, d2, e2, hz, dn10, dn20, dn21, dn30, dn31, dn32, dn40, dn41, dn42, dn43, dn50, dn51, dn52, dn53, dn54, if_true, if_false]
        exact ⟨_, _, _, _, hc, hm, ⟨rfl, rfl⟩, Rel_thr R⟩
    · have hc : fX4_about (nI k) x h = some (.inl eArg, h) := by
        simp only [fX4_about, needO_eq g1 hn, if_pos h1, bndX_inr, if_neg (fun e : x = 0 => h2 (by rw [e]; decide)), if_neg (fun e : x = 1 => h2 (by rw [e]; decide)), if_neg (fun e : x = 2 => h2 (by rw [e]; decide)), if_neg (fun e : x = 3 => h2 (by rw [e]; decide)), if_neg (fun e : x = 4 => h2 (by rw [e]; decide)), if_neg (fun e : x = 5 => h2 (by rw [e]; decide)), eArg]
      have hm : fX5_about (nI k) x t = some (0, si t 0 2) := by
        simp only [fX5_about, fX5_about_33, rdi_n, g2, isIn_eq, if_pos h1, bnd_some, if_neg h2, wri_n, thr_si, two_le0, dn10, if_true, if_false]
      exact ⟨_, _, _, _, hc, hm, agr2_a, Rel_thr R⟩
  · have hc : fX4_about a x h = some (.inl eIdx, h) := by
      simp only [fX4_about, needO_eq g1 hn, if_neg h1, bndX_inl]
    have hm : fX5_about a x t = some (0, si t 0 1) := by
      simp only [fX5_about, fX5_about_33, rdi_n, g2, isIn_eq, if_neg h1, bnd_some, wri_n, thr_si, one_le0, if_true, if_false]
    exact ⟨_, _, _, _, hc, hm, agr2_i, Rel_thr R⟩
/-- the tests of cancel, reduce and until -/
theorem refuse_eq (R : Rel h t q Q n nt B o) (a v g : Int32) : fX5_refusal a v g t = some ((if 0 ≤ a ∧ a ≤ 511 then (if 0 ≤ v ∧ v ≤ nI n - 1 then (if gA t 8 v.toNatClampNeg = a ∧ ¬ g = 0 then (if q 7 v.toNatClampNeg = 0 ∨ q 7 v.toNatClampNeg = 1 then 0 else 3) else 2) else 1) else 1), t) := by
  obtain ⟨hn, -, g1, g2, -⟩ := R.1
  by_cases h1 : 0 ≤ a ∧ a ≤ 511
  · by_cases h2 : 0 ≤ v ∧ v ≤ nI n - 1
    · have h2' := h2
      obtain ⟨k, hk, rfl⟩ := (isInO hn).mp h2
      have hcl : (nI k).toNatClampNeg = k := nI_clamp (by omega)
      simp only [fX5_refusal, fX5_refusal_21, fX5_refusal_37, fX5_refusal_54, isAcc_eq, if_pos h1, bnd_some, dn10, if_false, rdi_n, g2, isIn_eq, if_pos h2, rda_n (show k < 520 by omega), isThM_eq R.2.2.2.2.1 hn hk, hcl]
      by_cases c1 : gA t 8 k = a
      · by_cases c2 : g = 0
        · simp [c1, c2]
        · by_cases c3 : q 7 k = 0 ∨ q 7 k = 1
          · simp [c1, c2, c3]
          · simp [c1, c2, c3]
      · simp [c1]
    · simp only [fX5_refusal, fX5_refusal_21, isAcc_eq, if_pos h1, bnd_some, dn10, if_false, rdi_n, g2, isIn_eq, if_neg h2, if_true]
  · simp only [fX5_refusal, fX5_refusal_21, isAcc_eq, if_neg h1, bnd_some, if_true]
theorem needOwn_eq (R : Rel h t q Q n nt B o) (a v : Int32) : fX4_needOwnOrder a v h = if 0 ≤ a ∧ a ≤ 511 then (if 0 ≤ v ∧ v ≤ nI n - 1 then (if gA t 8 v.toNatClampNeg = a then some (.inr (), h) else some (.inl eArg, h)) else some (.inl eIdx, h)) else some (.inl eIdx, h) := by
  obtain ⟨hn, -, g1, g2, -⟩ := R.1
  by_cases h1 : 0 ≤ a ∧ a ≤ 511
  · by_cases h2 : 0 ≤ v ∧ v ≤ nI n - 1
    · have h2' := h2
      obtain ⟨k, hk, rfl⟩ := (isInO hn).mp h2
      have hcl : (nI k).toNatClampNeg = k := nI_clamp (by omega)
      obtain ⟨⟨a1, a2, -⟩, -⟩ := R.2.2.2.2.1 k hk
      simp only [fX4_needOwnOrder, needAcc_eq, if_pos h1, bndX_inr, needO_eq g1 hn, if_pos h2, rda_n (show k < 512 by omega), hcl, a1, a2, eArg]
    · simp only [fX4_needOwnOrder, needAcc_eq, if_pos h1, bndX_inr, needO_eq g1 hn, if_neg h2, bndX_inl]
  · simp only [fX4_needOwnOrder, needAcc_eq, if_neg h1, bndX_inl]
theorem needTh_eq (R : Rel h t q Q n nt B o) (ho : n ≤ o) {k : Nat} (hk : k < n) : fX4_needThere (nI k) h = if q 7 k = 0 ∨ q 7 k = 1 then some (.inr (), h) else some (.inl eSta, h) := by
  unfold fX4_needThere
  rw [isThH_eq R.2.2.2.2.1 R.1.1 hk (by omega), bnd_some]
  by_cases c : q 7 k = 0 ∨ q 7 k = 1 <;> simp [c, eSta]
end Ord
