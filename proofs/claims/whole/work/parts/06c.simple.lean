/-! ===== calls that touch no order ===== -/
def c3 (E : String) : Int32 := if E = eIdx then 1 else if E = eArg then 2 else if E = eSta then 3 else 0
def c2 (E : String) : Int32 := if E = eIdx then 1 else if E = eArg then 2 else 0
def agr {α : Type} (code : String → Int32) (r : String ⊕ α) (b : α) (t' : SH) : Prop := match r with
  | .inr v => gi t' 0 = 0 ∧ b = v
  | .inl E => gi t' 0 = code E ∧ code E ≠ 0
theorem c3_i : c3 eIdx = 1 := by decide
theorem c3_a : c3 eArg = 2 := by decide
theorem c3_s : c3 eSta = 3 := by decide
theorem thr_si (t : SH) (v : Int32) : gi (si t 0 v) 0 = v := rfl
theorem agr_i {α : Type} {b : α} {t : SH} : agr c3 (.inl eIdx) b (si t 0 1) := ⟨by rw [c3_i]; rfl, by decide⟩
theorem agr_a {α : Type} {b : α} {t : SH} : agr c3 (.inl eArg) b (si t 0 2) := ⟨by rw [c3_a]; rfl, by decide⟩
theorem agr2_i {α : Type} {b : α} {t : SH} : agr c2 (.inl eIdx) b (si t 0 1) := ⟨by show (1 : Int32) = c2 eIdx; decide, by decide⟩
theorem agr2_a {α : Type} {b : α} {t : SH} : agr c2 (.inl eArg) b (si t 0 2) := ⟨by show (2 : Int32) = c2 eArg; decide, by decide⟩
theorem agr_s {α : Type} {b : α} {t : SH} : agr c3 (.inl eSta) b (si t 0 3) := ⟨by rw [c3_s]; rfl, by decide⟩
theorem Rel_thr {h t : SH} {q : Nat → Nat → Nat} {Q : Nat → List Nat} {n nt B o : Nat} {v : Int32} (R : Rel h t q Q n nt B o) : Rel h (si t 0 v) q Q n nt B o := R
theorem nar_1 : vp_nar .boolean 1 = 1 := by decide
section Simple
variable {h t : SH} {q : Nat → Nat → Nat} {Q : Nat → List Nat} {n nt B o : Nat}
/-- cash rows change alike at one account, who is known from then on or was before -/
theorem RelC_cash (C : RelC h t) {a : Nat} (ha : a < 512) (v : Int64) : RelC (uL h 5 a v) (uL t 1 a v) := by
  refine ⟨fun b hb => ?_, ?_⟩
  · obtain ⟨h1, h2, h3, h4⟩ := C.1 b hb
    refine ⟨?_, ?_, h3, h4⟩
    · rw [gL_uL, gL_uL]
      by_cases e : b = a <;> simp [e, h1]
    · rw [gL_uL, gL_uL]
      simpa using h2
  · exact C.2
/-- an account becomes known -/
theorem know_eq (C : RelC h t) {a : Nat} (ha : a < 512) : ∃ h', fX1_know (nI a) h = some ((), h') ∧ RelC h' (uA t 7 a 1) ∧ (∀ k j, k ≠ 11 → gA h' k j = gA h k j) ∧ (∀ k, k ≠ 1 → gi h' k = gi h k) ∧ ∀ k j, gL h' k j = gL h k j := by
  obtain ⟨h1, h2, h3, h4⟩ := C.1 a ha
  unfold fX1_know fX1_know_26
  rw [rda_n ha]
  have hz : (1 : Int32) ≠ 0 := by decide
  rcases h4 with h4 | h4
  · rw [h3, h4, if_pos rfl, wra_n ha, rdi_n, wri_n, nar_1]
    refine ⟨_, rfl, ⟨fun b hb => ?_, ?_⟩, fun k j hk => ?_, fun k hk => ?_, fun k j => rfl⟩
    · obtain ⟨g1, g2, g3, g4⟩ := C.1 b hb
      refine ⟨g1, g2, ?_, ?_⟩
      · rw [gA_si, gA_uA, gA_uA]
        by_cases e : b = a <;> simp [e, g3]
      · rw [gA_uA]
        by_cases e : b = a <;> simp [e, g4]
    · rw [gi_si, if_pos rfl, gi_uA, C.2, nI_1]
      refine congrArg nI ?_
      have hc := cnt_upd (p := fun b => decide (gA t 7 b = 1)) (q := fun b => decide (gA (uA t 7 a 1) 7 b = 1)) ha (fun k hk hne => by simp [gA_uA, hne])
      simp only [gA_uA, h4] at hc
      simp at hc
      simp only [gA_uA]
      simp
      omega
    · rw [gA_si, gA_uA, if_neg (fun e => hk e.1)]
    · rw [gi_si, if_neg hk, gi_uA]
  · rw [h3, h4, if_neg hz]
    refine ⟨_, rfl, ⟨fun b hb => ?_, ?_⟩, fun _ _ _ => rfl, fun _ _ => rfl, fun _ _ => rfl⟩
    · obtain ⟨g1, g2, g3, g4⟩ := C.1 b hb
      refine ⟨g1, g2, ?_, ?_⟩
      · rw [gA_uA]
        by_cases e : b = a
        · subst e; simp [h3, h4]
        · simp [e, g3]
      · rw [gA_uA]
        by_cases e : b = a <;> simp [e, g4]
    · rw [C.2]
      refine congrArg nI (cnt_congr (fun k hk => ?_))
      rw [gA_uA]
      by_cases e : k = a
      · subst e; simp [h4]
      · simp [e]
theorem ite10 {c : Prop} [Decidable c] (hc : c) : (if c then (1 : Int32) else 0) = 1 := if_pos hc
theorem ite00 {c : Prop} [Decidable c] (hc : ¬ c) : (if c then (1 : Int32) else 0) = 0 := if_neg hc
theorem one_ne : ¬ (1 : Int32) = 0 := by decide
theorem one_le0 : ¬ (1 : Int32) ≤ 0 := by decide
theorem two_le0 : ¬ (2 : Int32) ≤ 0 := by decide
theorem thr_le0 : ¬ (3 : Int32) ≤ 0 := by decide
theorem zer_le0 : (0 : Int32) ≤ 0 := by decide
/-- deposit -/
theorem op_deposit (R : Rel h t q Q n nt B o) (a x : Int32) : ∃ (r : String ⊕ Int64) (h' : SH) (b : Int64) (t' : SH), fX4_deposit a x h = some (r, h') ∧ fX5_deposit a x t = some (b, t') ∧ agr c3 r b t' ∧ Rel h' t' q Q n nt B o := by
  by_cases h1 : 0 ≤ a ∧ a ≤ 511
  · by_cases h2 : 1 ≤ x ∧ x ≤ 1000000000
    · obtain ⟨j, -, hj, rfl⟩ := between (a := 0) (b := 511) (by decide) (by decide) h1.1 h1.2
      have hj : j < 512 := by omega
      obtain ⟨RS, RC, RH, RP, RO, RB, RT⟩ := R
      obtain ⟨e1, e2, -, -⟩ := RC.1 j hj
      by_cases h3 : lg_cmp (gL t 1 j + x.toInt64) 1000000000000000 ≤ 0
      · have RC1 : RelC (uL h 5 j (gL t 1 j + x.toInt64)) (uL (si t 0 0) 1 j (gL t 1 j + x.toInt64)) := RelC_cash (h := h) (t := si t 0 0) RC hj _
        obtain ⟨h', k1, k2, k3, k4, k5⟩ := know_eq RC1 hj
        have S1 : Sm h h' ([11]) [1] [5] := ⟨fun k i hk => (k3 k i (fun e => hk (by rw [e]; exact List.mem_cons_self))).trans rfl, fun k hk => (k4 k (fun e => hk (by rw [e]; exact List.mem_cons_self))).trans rfl, fun k i hk => (k5 k i).trans (Sm_uL.2.2 k i hk)⟩
        have S2 : Sm t (uA (uL (si t 0 0) 1 j (gL t 1 j + x.toInt64)) 7 j 1) [7] [0] [1] := ((Sm_si.tr Sm_uL).tr Sm_uA)
        have hc : fX4_deposit (nI j) x h = some (.inr (gL h' 5 j), h') := by
          simp only [fX4_deposit, needAcc_eq, if_pos h1, bndX_inr, needWi_eq, if_pos h2, rdl_n hj, e1, if_pos h3, wrl_n hj, k1, bnd_some]
        have hm : fX5_deposit (nI j) x t = some (gL t 1 j + x.toInt64, uA (uL (si t 0 0) 1 j (gL t 1 j + x.toInt64)) 7 j 1) := by
          simp only [fX5_deposit, fX5_deposit_47, isAcc_eq, if_pos h1, bnd_some, if_neg one_ne, isIn_eq, if_pos h2, rdl_n hj, if_pos h3, wri_n, rdi_n, thr_si, zer_le0, if_true, wrl_n hj, wra_n hj, nar_1, gL_si, gL_uA, gL_uL, and_self, if_true]
        refine ⟨_, _, _, _, hc, hm, ⟨rfl, ?_⟩, (RS.h_ S1 (by decide) (by decide)).t_ S2 (by decide) (by decide), k2, (RH.h_ S1 (by decide)).t_ S2 (by decide), (RP.h_ S1 (by decide)).t_ S2 (by decide), (RO.h_ S1 (by decide)).t_ S2 (by decide), RB.h_ S1 (by decide), ?_⟩
        · rw [k5, gL_uL]
          simp
        · rw [S1.2.1 3 (by decide)]; exact RT
      · have hc : fX4_deposit (nI j) x h = some (.inl eSta, h) := by
          simp only [fX4_deposit, needAcc_eq, if_pos h1, bndX_inr, needWi_eq, if_pos h2, rdl_n hj, e1, if_neg h3, eSta]
        have hm : fX5_deposit (nI j) x t = some (0, si t 0 3) := by
          simp only [fX5_deposit, fX5_deposit_47, isAcc_eq, if_pos h1, bnd_some, if_neg one_ne, isIn_eq, if_pos h2, rdl_n hj, if_neg h3, wri_n, rdi_n, thr_si, thr_le0, if_false]
        exact ⟨_, _, _, _, hc, hm, agr_s, Rel_thr ⟨RS, RC, RH, RP, RO, RB, RT⟩⟩
    · have hc : fX4_deposit a x h = some (.inl eArg, h) := by
        simp only [fX4_deposit, needAcc_eq, if_pos h1, bndX_inr, needWi_eq, if_neg h2, bndX_inl]
      have hm : fX5_deposit a x t = some (0, si t 0 2) := by
        simp only [fX5_deposit, fX5_deposit_47, isAcc_eq, if_pos h1, bnd_some, if_neg one_ne, isIn_eq, if_neg h2, if_true, wri_n, rdi_n, thr_si, two_le0, if_false]
      exact ⟨_, _, _, _, hc, hm, agr_a, Rel_thr R⟩
  · have hc : fX4_deposit a x h = some (.inl eIdx, h) := by
      simp only [fX4_deposit, needAcc_eq, if_neg h1, bndX_inl]
    have hm : fX5_deposit a x t = some (0, si t 0 1) := by
      simp only [fX5_deposit, fX5_deposit_47, isAcc_eq, if_neg h1, bnd_some, if_true, wri_n, rdi_n, thr_si, one_le0, if_false]
    exact ⟨_, _, _, _, hc, hm, agr_i, Rel_thr R⟩
/-- withdraw -/
theorem op_withdraw (R : Rel h t q Q n nt B o) (a x : Int32) : ∃ (r : String ⊕ Int64) (h' : SH) (b : Int64) (t' : SH), fX4_withdraw a x h = some (r, h') ∧ fX5_withdraw a x t = some (b, t') ∧ agr c3 r b t' ∧ Rel h' t' q Q n nt B o := by
  by_cases h1 : 0 ≤ a ∧ a ≤ 511
  · by_cases h2 : 1 ≤ x ∧ x ≤ 1000000000
    · obtain ⟨j, -, hj, rfl⟩ := between (a := 0) (b := 511) (by decide) (by decide) h1.1 h1.2
      have hj : j < 512 := by omega
      obtain ⟨RS, RC, RH, RP, RO, RB, RT⟩ := R
      obtain ⟨e1, e2, -, -⟩ := RC.1 j hj
      by_cases h3 : 0 ≤ lg_cmp (gL t 1 j - gL t 2 j) x.toInt64
      · have hc : fX4_withdraw (nI j) x h = some (.inr (gL t 1 j - x.toInt64), uL h 5 j (gL t 1 j - x.toInt64)) := by
          simp only [fX4_withdraw, fX1_freeCash, needAcc_eq, if_pos h1, bndX_inr, needWi_eq, if_pos h2, rdl_n hj, e1, e2, bnd_some, if_pos h3, wrl_n hj, gL_uL, and_self, if_true]
        have hm : fX5_withdraw (nI j) x t = some (gL t 1 j - x.toInt64, uL (si t 0 0) 1 j (gL t 1 j - x.toInt64)) := by
          simp only [fX5_withdraw, fX5_withdraw_50, isAcc_eq, if_pos h1, bnd_some, if_neg one_ne, isIn_eq, if_pos h2, rdl_n hj, if_pos h3, wri_n, rdi_n, thr_si, zer_le0, if_true, wrl_n hj, gL_si, gL_uL, and_self, if_true]
        have S1 : Sm h (uL h 5 j (gL t 1 j - x.toInt64)) [] [] [5] := Sm_uL
        have S2 : Sm t (uL (si t 0 0) 1 j (gL t 1 j - x.toInt64)) [] [0] [1] := (Sm_si.tr Sm_uL)
        exact ⟨_, _, _, _, hc, hm, ⟨rfl, rfl⟩, (RS.h_ S1 (by decide) (by decide)).t_ S2 (by decide) (by decide), RelC_cash (h := h) (t := si t 0 0) RC hj _, (RH.h_ S1 (by decide)).t_ S2 (by decide), (RP.h_ S1 (by decide)).t_ S2 (by decide), (RO.h_ S1 (by decide)).t_ S2 (by decide), RB.h_ S1 (by decide), RT⟩
      · have hc : fX4_withdraw (nI j) x h = some (.inl eSta, h) := by
          simp only [fX4_withdraw, fX1_freeCash, needAcc_eq, if_pos h1, bndX_inr, needWi_eq, if_pos h2, rdl_n hj, e1, e2, bnd_some, if_neg h3, eSta]
        have hm : fX5_withdraw (nI j) x t = some (0, si t 0 3) := by
          simp only [fX5_withdraw, fX5_withdraw_50, isAcc_eq, if_pos h1, bnd_some, if_neg one_ne, isIn_eq, if_pos h2, rdl_n hj, if_neg h3, wri_n, rdi_n, thr_si, thr_le0, if_false]
        exact ⟨_, _, _, _, hc, hm, agr_s, Rel_thr ⟨RS, RC, RH, RP, RO, RB, RT⟩⟩
    · have hc : fX4_withdraw a x h = some (.inl eArg, h) := by
        simp only [fX4_withdraw, needAcc_eq, if_pos h1, bndX_inr, needWi_eq, if_neg h2, bndX_inl]
      have hm : fX5_withdraw a x t = some (0, si t 0 2) := by
        simp only [fX5_withdraw, fX5_withdraw_50, isAcc_eq, if_pos h1, bnd_some, if_neg one_ne, isIn_eq, if_neg h2, if_true, wri_n, rdi_n, thr_si, two_le0, if_false]
      exact ⟨_, _, _, _, hc, hm, agr_a, Rel_thr R⟩
  · have hc : fX4_withdraw a x h = some (.inl eIdx, h) := by
      simp only [fX4_withdraw, needAcc_eq, if_neg h1, bndX_inl]
    have hm : fX5_withdraw a x t = some (0, si t 0 1) := by
      simp only [fX5_withdraw, fX5_withdraw_50, isAcc_eq, if_neg h1, bnd_some, if_true, wri_n, rdi_n, thr_si, one_le0, if_false]
    exact ⟨_, _, _, _, hc, hm, agr_i, Rel_thr R⟩
theorem upto1 {x : Int32} (h : 0 ≤ x ∧ x ≤ 1) : x = 0 ∨ x = 1 := by
  obtain ⟨i, -, hi, rfl⟩ := between (a := 0) (b := 1) (by decide) (by decide) h.1 h.2
  rcases (show i = 0 ∨ i = 1 by omega) with rfl | rfl <;> decide
theorem upto3 {x : Int32} (h : 0 ≤ x ∧ x ≤ 3) : x = 0 ∨ x = 1 ∨ x = 2 ∨ x = 3 := by
  obtain ⟨i, -, hi, rfl⟩ := between (a := 0) (b := 3) (by decide) (by decide) h.1 h.2
  rcases (show i = 0 ∨ i = 1 ∨ i = 2 ∨ i = 3 by omega) with rfl | rfl | rfl | rfl <;> decide
theorem upto5 {x : Int32} (h : 0 ≤ x ∧ x ≤ 5) : x = 0 ∨ x = 1 ∨ x = 2 ∨ x = 3 ∨ x = 4 ∨ x = 5 := by
  obtain ⟨i, -, hi, rfl⟩ := between (a := 0) (b := 5) (by decide) (by decide) h.1 h.2
  rcases (show i = 0 ∨ i = 1 ∨ i = 2 ∨ i = 3 ∨ i = 4 ∨ i = 5 by omega) with rfl | rfl | rfl | rfl | rfl | rfl <;> decide
theorem upto4 {x : Int32} (h : 0 ≤ x ∧ x ≤ 4) : x = 0 ∨ x = 1 ∨ x = 2 ∨ x = 3 ∨ x = 4 := by
  obtain ⟨i, -, hi, rfl⟩ := between (a := 0) (b := 4) (by decide) (by decide) h.1 h.2
  rcases (show i = 0 ∨ i = 1 ∨ i = 2 ∨ i = 3 ∨ i = 4 by omega) with rfl | rfl | rfl | rfl | rfl <;> decide
theorem dn10 : ((1 : Int32) = 0) = False := by decide
theorem dn20 : ((2 : Int32) = 0) = False := by decide
theorem dn21 : ((2 : Int32) = 1) = False := by decide
theorem dn30 : ((3 : Int32) = 0) = False := by decide
theorem dn31 : ((3 : Int32) = 1) = False := by decide
theorem dn32 : ((3 : Int32) = 2) = False := by decide
theorem dn40 : ((4 : Int32) = 0) = False := by decide
theorem dn41 : ((4 : Int32) = 1) = False := by decide
theorem dn42 : ((4 : Int32) = 2) = False := by decide
theorem dn43 : ((4 : Int32) = 3) = False := by decide
theorem dn50 : ((5 : Int32) = 0) = False := by decide
theorem dn51 : ((5 : Int32) = 1) = False := by decide
theorem dn52 : ((5 : Int32) = 2) = False := by decide
theorem dn53 : ((5 : Int32) = 3) = False := by decide
theorem dn54 : ((5 : Int32) = 4) = False := by decide
/-- cash -/
theorem op_cash (R : Rel h t q Q n nt B o) (a x : Int32) : ∃ (r : String ⊕ Int64) (h' : SH) (b : Int64) (t' : SH), fX4_cash a x h = some (r, h') ∧ fX5_cash a x t = some (b, t') ∧ agr c2 r b t' ∧ Rel h' t' q Q n nt B o := by
  by_cases h1 : 0 ≤ a ∧ a ≤ 511
  · obtain ⟨j, -, hj, rfl⟩ := between (a := 0) (b := 511) (by decide) (by decide) h1.1 h1.2
    have hj : j < 512 := by omega
    obtain ⟨e1, e2, -, -⟩ := R.2.1.1 j hj
    by_cases h2 : 0 ≤ x ∧ x ≤ 1
    · rcases upto1 h2 with rfl | rfl
      · have hc : fX4_cash (nI j) 0 h = some (.inr (gL t 1 j), h) := by
          simp only [fX4_cash, needAcc_eq, if_pos h1, bndX_inr, rdl_n hj, e1, e2, dn10, dn20, dn21, dn30, dn31, dn32, dn40, dn41, dn42, dn43, dn50, dn51, dn52, dn53, dn54, if_true, if_false]
        have hm : fX5_cash (nI j) 0 t = some (gL t 1 j, si t 0 0) := by
          simp only [fX5_cash, fX5_cash_26, fX5_cash_59, isAcc_eq, if_pos h1, bnd_some, isIn_eq, h2.1, h2.2, and_self, wri_n, rdi_n, thr_si, zer_le0, rdl_n hj, gL_si, dn10, dn20, dn21, dn30, dn31, dn32, dn40, dn41, dn42, dn43, dn50, dn51, dn52, dn53, dn54, if_true, if_false]
        exact ⟨_, _, _, _, hc, hm, ⟨rfl, rfl⟩, Rel_thr R⟩
      · have hc : fX4_cash (nI j) 1 h = some (.inr (gL t 2 j), h) := by
          simp only [fX4_cash, needAcc_eq, if_pos h1, bndX_inr, rdl_n hj, e1, e2, dn10, dn20, dn21, dn30, dn31, dn32, dn40, dn41, dn42, dn43, dn50, dn51, dn52, dn53, dn54, if_true, if_false]
        have hm : fX5_cash (nI j) 1 t = some (gL t 2 j, si t 0 0) := by
          simp only [fX5_cash, fX5_cash_26, fX5_cash_59, isAcc_eq, if_pos h1, bnd_some, isIn_eq, h2.1, h2.2, and_self, wri_n, rdi_n, thr_si, zer_le0, rdl_n hj, gL_si, dn10, dn20, dn21, dn30, dn31, dn32, dn40, dn41, dn42, dn43, dn50, dn51, dn52, dn53, dn54, if_true, if_false]
        exact ⟨_, _, _, _, hc, hm, ⟨rfl, rfl⟩, Rel_thr R⟩
    · have hc : fX4_cash (nI j) x h = some (.inl eArg, h) := by
        simp only [fX4_cash, needAcc_eq, if_pos h1, bndX_inr, if_neg (fun e : x = 0 => h2 (by rw [e]; decide)), if_neg (fun e : x = 1 => h2 (by rw [e]; decide)), eArg]
      have hm : fX5_cash (nI j) x t = some (0, si t 0 2) := by
        simp only [fX5_cash, fX5_cash_26, fX5_cash_59, isAcc_eq, if_pos h1, bnd_some, isIn_eq, if_neg h2, wri_n, rdi_n, thr_si, two_le0, dn10, if_true, if_false]
      exact ⟨_, _, _, _, hc, hm, agr2_a, Rel_thr R⟩
  · have hc : fX4_cash a x h = some (.inl eIdx, h) := by
      simp only [fX4_cash, needAcc_eq, if_neg h1, bndX_inl]
    have hm : fX5_cash a x t = some (0, si t 0 1) := by
      simp only [fX5_cash, fX5_cash_26, fX5_cash_59, isAcc_eq, if_neg h1, bnd_some, if_true, wri_n, rdi_n, thr_si, one_le0, if_false]
    exact ⟨_, _, _, _, hc, hm, agr2_i, Rel_thr R⟩
/-- symbol -/
theorem op_symbol (R : Rel h t q Q n nt B o) (a x : Int32) : ∃ (r : String ⊕ Int32) (h' : SH) (b : Int32) (t' : SH), fX4_symbol a x h = some (r, h') ∧ fX5_symbol a x t = some (b, t') ∧ agr c2 r b t' ∧ Rel h' t' q Q n nt B o := by
  by_cases h1 : 0 ≤ a ∧ a ≤ 3
  · obtain ⟨j, -, hj, rfl⟩ := between (a := 0) (b := 3) (by decide) (by decide) h1.1 h1.2
    have hj : j < 4 := by omega
    obtain ⟨e1, e2, e3, e4, -⟩ := R.2.2.2.1 j hj
    by_cases h2 : 0 ≤ x ∧ x ≤ 3
    · rcases upto3 h2 with rfl | rfl | rfl | rfl
      · have hc : fX4_symbol (nI j) 0 h = some (.inr (gA t 24 j), h) := by
          simp only [fX4_symbol, needSym_eq, if_pos h1, bndX_inr, rda_n hj, e1, e2, e3, e4, dn10, dn20, dn21, dn30, dn31, dn32, dn40, dn41, dn42, dn43, dn50, dn51, dn52, dn53, dn54, if_true, if_false]
        have hm : fX5_symbol (nI j) 0 t = some (gA t 24 j, si t 0 0) := by
          simp only [fX5_symbol, fX5_symbol_26, fX5_symbol_87, isSym_eq, if_pos h1, bnd_some, isIn_eq, h2.1, h2.2, and_self, wri_n, rdi_n, thr_si, zer_le0, rda_n hj, gA_si, dn10, dn20, dn21, dn30, dn31, dn32, dn40, dn41, dn42, dn43, dn50, dn51, dn52, dn53, dn54, if_true, if_false]
        exact ⟨_, _, _, _, hc, hm, ⟨rfl, rfl⟩, Rel_thr R⟩
      · have hc : fX4_symbol (nI j) 1 h = some (.inr (gA t 25 j), h) := by
          simp only [fX4_symbol, needSym_eq, if_pos h1, bndX_inr, rda_n hj, e1, e2, e3, e4, dn10, dn20, dn21, dn30, dn31, dn32, dn40, dn41, dn42, dn43, dn50, dn51, dn52, dn53, dn54, if_true, if_false]
        have hm : fX5_symbol (nI j) 1 t = some (gA t 25 j, si t 0 0) := by
          simp only [fX5_symbol, fX5_symbol_26, fX5_symbol_87, isSym_eq, if_pos h1, bnd_some, isIn_eq, h2.1, h2.2, and_self, wri_n, rdi_n, thr_si, zer_le0, rda_n hj, gA_si, dn10, dn20, dn21, dn30, dn31, dn32, dn40, dn41, dn42, dn43, dn50, dn51, dn52, dn53, dn54, if_true, if_false]
        exact ⟨_, _, _, _, hc, hm, ⟨rfl, rfl⟩, Rel_thr R⟩
      · have hc : fX4_symbol (nI j) 2 h = some (.inr (gA t 26 j), h) := by
          simp only [fX4_symbol, needSym_eq, if_pos h1, bndX_inr, rda_n hj, e1, e2, e3, e4, dn10, dn20, dn21, dn30, dn31, dn32, dn40, dn41, dn42, dn43, dn50, dn51, dn52, dn53, dn54, if_true, if_false]
        have hm : fX5_symbol (nI j) 2 t = some (gA t 26 j, si t 0 0) := by
          simp only [fX5_symbol, fX5_symbol_26, fX5_symbol_87, isSym_eq, if_pos h1, bnd_some, isIn_eq, h2.1, h2.2, and_self, wri_n, rdi_n, thr_si, zer_le0, rda_n hj, gA_si, dn10, dn20, dn21, dn30, dn31, dn32, dn40, dn41, dn42, dn43, dn50, dn51, dn52, dn53, dn54, if_true, if_false]
        exact ⟨_, _, _, _, hc, hm, ⟨rfl, rfl⟩, Rel_thr R⟩
      · have hc : fX4_symbol (nI j) 3 h = some (.inr (gA t 27 j), h) := by
          simp only [fX4_symbol, needSym_eq, if_pos h1, bndX_inr, rda_n hj, e1, e2, e3, e4, dn10, dn20, dn21, dn30, dn31, dn32, dn40, dn41, dn42, dn43, dn50, dn51, dn52, dn53, dn54, if_true, if_false]
        have hm : fX5_symbol (nI j) 3 t = some (gA t 27 j, si t 0 0) := by
          simp only [fX5_symbol, fX5_symbol_26, fX5_symbol_87, isSym_eq, if_pos h1, bnd_some, isIn_eq, h2.1, h2.2, and_self, wri_n, rdi_n, thr_si, zer_le0, rda_n hj, gA_si, dn10, dn20, dn21, dn30, dn31, dn32, dn40, dn41, dn42, dn43, dn50, dn51, dn52, dn53, dn54, if_true, if_false]
        exact ⟨_, _, _, _, hc, hm, ⟨rfl, rfl⟩, Rel_thr R⟩
    · have hc : fX4_symbol (nI j) x h = some (.inl eArg, h) := by
        simp only [fX4_symbol, needSym_eq, if_pos h1, bndX_inr, if_neg (fun e : x = 0 => h2 (by rw [e]; decide)), if_neg (fun e : x = 1 => h2 (by rw [e]; decide)), if_neg (fun e : x = 2 => h2 (by rw [e]; decide)), if_neg (fun e : x = 3 => h2 (by rw [e]; decide)), eArg]
      have hm : fX5_symbol (nI j) x t = some (0, si t 0 2) := by
        simp only [fX5_symbol, fX5_symbol_26, fX5_symbol_87, isSym_eq, if_pos h1, bnd_some, isIn_eq, if_neg h2, wri_n, rdi_n, thr_si, two_le0, dn10, if_true, if_false]
      exact ⟨_, _, _, _, hc, hm, agr2_a, Rel_thr R⟩
  · have hc : fX4_symbol a x h = some (.inl eIdx, h) := by
      simp only [fX4_symbol, needSym_eq, if_neg h1, bndX_inl]
    have hm : fX5_symbol a x t = some (0, si t 0 1) := by
      simp only [fX5_symbol, fX5_symbol_26, fX5_symbol_87, isSym_eq, if_neg h1, bnd_some, if_true, wri_n, rdi_n, thr_si, one_le0, if_false]
    exact ⟨_, _, _, _, hc, hm, agr2_i, Rel_thr R⟩
theorem place_n {a s : Nat} : (nI a * 4) + nI s = nI (4 * a + s) := by
  rw [show (4 : Int32) = nI 4 by decide, pk_mul, nI_add, Nat.mul_comm]
theorem cell_n {a s : Nat} : (4 * nI a) + nI s = nI (4 * a + s) := by
  rw [show (4 : Int32) = nI 4 by decide, pk_mul, nI_add]
/-- shares -/
theorem op_shares (R : Rel h t q Q n nt B o) (a s x : Int32) : ∃ (r : String ⊕ Int32) (h' : SH) (b : Int32) (t' : SH), fX4_shares a s x h = some (r, h') ∧ fX5_shares a s x t = some (b, t') ∧ agr c2 r b t' ∧ Rel h' t' q Q n nt B o := by
  by_cases h1 : 0 ≤ a ∧ a ≤ 511
  · by_cases h3 : 0 ≤ s ∧ s ≤ 3
    · obtain ⟨j, -, hj, rfl⟩ := between (a := 0) (b := 511) (by decide) (by decide) h1.1 h1.2
      obtain ⟨i, -, hi, rfl⟩ := between (a := 0) (b := 3) (by decide) (by decide) h3.1 h3.2
      have hj : 4 * j + i < 2048 := by omega
      obtain ⟨e1, e2, e3, e4, -⟩ := R.2.2.1 (4 * j + i) hj
      by_cases h2 : 0 ≤ x ∧ x ≤ 3
      · rcases upto3 h2 with rfl | rfl | rfl | rfl
        · have hc : fX4_shares (nI j) (nI i) 0 h = some (.inr (gA t 3 (4 * j + i)), h) := by
            simp only [fX4_shares, fX1_placeOf, needAcc_eq, needSym_eq, if_pos h1, if_pos h3, bndX_inr, bnd_some, place_n, rda_n hj, e1, e2, e3, e4, dn10, dn20, dn21, dn30, dn31, dn32, dn40, dn41, dn42, dn43, dn50, dn51, dn52, dn53, dn54, if_true, if_false]
          have hm : fX5_shares (nI j) (nI i) 0 t = some (gA t 3 (4 * j + i), si t 0 0) := by
            simp only [fX5_shares, fX5_shares_33, fX5_shares_103, fX5_cell, isAcc_eq, isSym_eq, if_pos h1, if_pos h3, bnd_some, isIn_eq, h2.1, h2.2, and_self, wri_n, rdi_n, thr_si, zer_le0, cell_n, rda_n hj, gA_si, dn10, dn20, dn21, dn30, dn31, dn32, dn40, dn41, dn42, dn43, dn50, dn51, dn52, dn53, dn54, if_true, if_false]
          exact ⟨_, _, _, _, hc, hm, ⟨rfl, rfl⟩, Rel_thr R⟩
        · have hc : fX4_shares (nI j) (nI i) 1 h = some (.inr (gA t 4 (4 * j + i)), h) := by
            simp only [fX4_shares, fX1_placeOf, needAcc_eq, needSym_eq, if_pos h1, if_pos h3, bndX_inr, bnd_some, place_n, rda_n hj, e1, e2, e3, e4, dn10, dn20, dn21, dn30, dn31, dn32, dn40, dn41, dn42, dn43, dn50, dn51, dn52, dn53, dn54, if_true, if_false]
          have hm : fX5_shares (nI j) (nI i) 1 t = some (gA t 4 (4 * j + i), si t 0 0) := by
            simp only [fX5_shares, fX5_shares_33, fX5_shares_103, fX5_cell, isAcc_eq, isSym_eq, if_pos h1, if_pos h3, bnd_some, isIn_eq, h2.1, h2.2, and_self, wri_n, rdi_n, thr_si, zer_le0, cell_n, rda_n hj, gA_si, dn10, dn20, dn21, dn30, dn31, dn32, dn40, dn41, dn42, dn43, dn50, dn51, dn52, dn53, dn54, if_true, if_false]
          exact ⟨_, _, _, _, hc, hm, ⟨rfl, rfl⟩, Rel_thr R⟩
        · have hc : fX4_shares (nI j) (nI i) 2 h = some (.inr (gA t 5 (4 * j + i)), h) := by
            simp only [fX4_shares, fX1_placeOf, needAcc_eq, needSym_eq, if_pos h1, if_pos h3, bndX_inr, bnd_some, place_n, rda_n hj, e1, e2, e3, e4, dn10, dn20, dn21, dn30, dn31, dn32, dn40, dn41, dn42, dn43, dn50, dn51, dn52, dn53, dn54, if_true, if_false]
          have hm : fX5_shares (nI j) (nI i) 2 t = some (gA t 5 (4 * j + i), si t 0 0) := by
            simp only [fX5_shares, fX5_shares_33, fX5_shares_103, fX5_cell, isAcc_eq, isSym_eq, if_pos h1, if_pos h3, bnd_some, isIn_eq, h2.1, h2.2, and_self, wri_n, rdi_n, thr_si, zer_le0, cell_n, rda_n hj, gA_si, dn10, dn20, dn21, dn30, dn31, dn32, dn40, dn41, dn42, dn43, dn50, dn51, dn52, dn53, dn54, if_true, if_false]
          exact ⟨_, _, _, _, hc, hm, ⟨rfl, rfl⟩, Rel_thr R⟩
        · have hc : fX4_shares (nI j) (nI i) 3 h = some (.inr (gA t 6 (4 * j + i)), h) := by
            simp only [fX4_shares, fX1_placeOf, needAcc_eq, needSym_eq, if_pos h1, if_pos h3, bndX_inr, bnd_some, place_n, rda_n hj, e1, e2, e3, e4, dn10, dn20, dn21, dn30, dn31, dn32, dn40, dn41, dn42, dn43, dn50, dn51, dn52, dn53, dn54, if_true, if_false]
          have hm : fX5_shares (nI j) (nI i) 3 t = some (gA t 6 (4 * j + i), si t 0 0) := by
            simp only [fX5_shares, fX5_shares_33, fX5_shares_103, fX5_cell, isAcc_eq, isSym_eq, if_pos h1, if_pos h3, bnd_some, isIn_eq, h2.1, h2.2, and_self, wri_n, rdi_n, thr_si, zer_le0, cell_n, rda_n hj, gA_si, dn10, dn20, dn21, dn30, dn31, dn32, dn40, dn41, dn42, dn43, dn50, dn51, dn52, dn53, dn54, if_true, if_false]
          exact ⟨_, _, _, _, hc, hm, ⟨rfl, rfl⟩, Rel_thr R⟩
      · have hc : fX4_shares (nI j) (nI i) x h = some (.inl eArg, h) := by
          simp only [fX4_shares, fX1_placeOf, needAcc_eq, needSym_eq, if_pos h1, if_pos h3, bndX_inr, bnd_some, if_neg (fun e : x = 0 => h2 (by rw [e]; decide)), if_neg (fun e : x = 1 => h2 (by rw [e]; decide)), if_neg (fun e : x = 2 => h2 (by rw [e]; decide)), if_neg (fun e : x = 3 => h2 (by rw [e]; decide)), eArg]
        have hm : fX5_shares (nI j) (nI i) x t = some (0, si t 0 2) := by
          simp only [fX5_shares, fX5_shares_33, isAcc_eq, isSym_eq, if_pos h1, if_pos h3, bnd_some, isIn_eq, if_neg h2, wri_n, rdi_n, thr_si, two_le0, dn10, if_true, if_false]
        exact ⟨_, _, _, _, hc, hm, agr2_a, Rel_thr R⟩
    · have hc : fX4_shares a s x h = some (.inl eIdx, h) := by
        simp only [fX4_shares, needAcc_eq, needSym_eq, if_pos h1, if_neg h3, bndX_inr, bndX_inl]
      have hm : fX5_shares a s x t = some (0, si t 0 1) := by
        simp only [fX5_shares, fX5_shares_15, fX5_shares_33, isAcc_eq, isSym_eq, if_pos h1, if_neg h3, bnd_some, wri_n, rdi_n, thr_si, one_le0, dn10, if_true, if_false]
      exact ⟨_, _, _, _, hc, hm, agr2_i, Rel_thr R⟩
  · have hc : fX4_shares a s x h = some (.inl eIdx, h) := by
      simp only [fX4_shares, needAcc_eq, if_neg h1, bndX_inl]
    have hm : fX5_shares a s x t = some (0, si t 0 1) := by
      simp only [fX5_shares, fX5_shares_15, fX5_shares_33, isAcc_eq, if_neg h1, bnd_some, if_true, wri_n, rdi_n, thr_si, one_le0, if_false]
    exact ⟨_, _, _, _, hc, hm, agr2_i, Rel_thr R⟩
/-- trade -/
theorem op_trade (R : Rel h t q Q n nt B o) (a x : Int32) : ∃ (r : String ⊕ Int32) (h' : SH) (b : Int32) (t' : SH), fX4_trade a x h = some (r, h') ∧ fX5_trade a x t = some (b, t') ∧ agr c2 r b t' ∧ Rel h' t' q Q n nt B o := by
  obtain ⟨T, hT, g1, g2, g3⟩ := R.1.2.2.2.2.2.2.2
  have hB := R.1.2.1
  by_cases h1 : a < 0
  · have hc : fX4_trade a x h = some (.inl eIdx, h) := by
      simp only [fX4_trade, fX4_trade_22, if_pos h1, eIdx]
    have hm : fX5_trade a x t = some (0, si t 0 1) := by
      simp only [fX5_trade, fX5_trade_20, fX5_trade_38, fX5_trade_62, if_pos h1, wri_n, rdi_n, thr_si, one_le0, if_false]
    exact ⟨_, _, _, _, hc, hm, agr2_i, Rel_thr R⟩
  · obtain ⟨i, hi, rfl⟩ := nI_of h1
    by_cases h2 : T ≤ i
    · have h3 : nI T ≤ nI i := nI_le h2 hi
      have hc : fX4_trade (nI i) x h = some (.inl eIdx, h) := by
        simp only [fX4_trade, fX4_trade_22, if_neg h1, rdi_n, g1, if_pos h3, eIdx]
      have hm : fX5_trade (nI i) x t = some (0, si t 0 1) := by
        simp only [fX5_trade, fX5_trade_20, fX5_trade_38, fX5_trade_62, if_neg h1, rdi_n, g2, if_pos h3, wri_n, thr_si, one_le0, if_false]
      exact ⟨_, _, _, _, hc, hm, agr2_i, Rel_thr R⟩
    · have h3 : ¬ nI T ≤ nI i := nI_ge (by omega) (by omega)
      by_cases h4 : i < 300
      · have h5 : nI i < 300 := by rw [show (300 : Int32) = nI 300 by decide]; exact nI_lt h4 (by decide)
        obtain ⟨e1, e2, e3, e4⟩ := g3 i (by omega) h4
        have hj : ∀ k, k < 4 → 4 * i + k < 1200 := by omega
        by_cases h6 : 0 ≤ x ∧ x ≤ 3
        · rcases upto3 h6 with rfl | rfl | rfl | rfl
          · have hc : fX4_trade (nI i) 0 h = some (.inr (gA t 23 (4 * i)), h) := by
              simp only [fX4_trade, if_neg h1, rdi_n, g1, if_neg h3, if_pos h5, rda_n h4, e1, e2, e3, e4, dn10, dn20, dn21, dn30, dn31, dn32, dn40, dn41, dn42, dn43, dn50, dn51, dn52, dn53, dn54, if_true, if_false]
            have hm : fX5_trade (nI i) 0 t = some (gA t 23 (4 * i), si t 0 0) := by
              have e9 : (4 * nI i) + 0 = nI (4 * i + 0) := by rw [show (0 : Int32) = nI 0 by decide]; exact cell_n
              simp only [fX5_trade, fX5_trade_38, fX5_trade_62, if_neg h1, rdi_n, g2, if_neg h3, if_pos h5, isIn_eq, h6.1, h6.2, and_self, bnd_some, wri_n, thr_si, zer_le0, e9, rda_n (show 4 * i < 1200 by omega), gA_si, Nat.add_zero, dn10, dn20, dn21, dn30, dn31, dn32, dn40, dn41, dn42, dn43, dn50, dn51, dn52, dn53, dn54, if_true, if_false]
            exact ⟨_, _, _, _, hc, hm, ⟨rfl, rfl⟩, Rel_thr R⟩
          · have hc : fX4_trade (nI i) 1 h = some (.inr (gA t 23 (4 * i + 1)), h) := by
              simp only [fX4_trade, if_neg h1, rdi_n, g1, if_neg h3, if_pos h5, rda_n h4, e1, e2, e3, e4, dn10, dn20, dn21, dn30, dn31, dn32, dn40, dn41, dn42, dn43, dn50, dn51, dn52, dn53, dn54, if_true, if_false]
            have hm : fX5_trade (nI i) 1 t = some (gA t 23 (4 * i + 1), si t 0 0) := by
              have e9 : (4 * nI i) + 1 = nI (4 * i + 1) := by rw [show (1 : Int32) = nI 1 by decide]; exact cell_n
              simp only [fX5_trade, fX5_trade_38, fX5_trade_62, if_neg h1, rdi_n, g2, if_neg h3, if_pos h5, isIn_eq, h6.1, h6.2, and_self, bnd_some, wri_n, thr_si, zer_le0, e9, rda_n (hj 1 (by decide)), gA_si, Nat.add_zero, dn10, dn20, dn21, dn30, dn31, dn32, dn40, dn41, dn42, dn43, dn50, dn51, dn52, dn53, dn54, if_true, if_false]
            exact ⟨_, _, _, _, hc, hm, ⟨rfl, rfl⟩, Rel_thr R⟩
          · have hc : fX4_trade (nI i) 2 h = some (.inr (gA t 23 (4 * i + 2)), h) := by
              simp only [fX4_trade, if_neg h1, rdi_n, g1, if_neg h3, if_pos h5, rda_n h4, e1, e2, e3, e4, dn10, dn20, dn21, dn30, dn31, dn32, dn40, dn41, dn42, dn43, dn50, dn51, dn52, dn53, dn54, if_true, if_false]
            have hm : fX5_trade (nI i) 2 t = some (gA t 23 (4 * i + 2), si t 0 0) := by
              have e9 : (4 * nI i) + 2 = nI (4 * i + 2) := by rw [show (2 : Int32) = nI 2 by decide]; exact cell_n
              simp only [fX5_trade, fX5_trade_38, fX5_trade_62, if_neg h1, rdi_n, g2, if_neg h3, if_pos h5, isIn_eq, h6.1, h6.2, and_self, bnd_some, wri_n, thr_si, zer_le0, e9, rda_n (hj 2 (by decide)), gA_si, Nat.add_zero, dn10, dn20, dn21, dn30, dn31, dn32, dn40, dn41, dn42, dn43, dn50, dn51, dn52, dn53, dn54, if_true, if_false]
            exact ⟨_, _, _, _, hc, hm, ⟨rfl, rfl⟩, Rel_thr R⟩
          · have hc : fX4_trade (nI i) 3 h = some (.inr (gA t 23 (4 * i + 3)), h) := by
              simp only [fX4_trade, if_neg h1, rdi_n, g1, if_neg h3, if_pos h5, rda_n h4, e1, e2, e3, e4, dn10, dn20, dn21, dn30, dn31, dn32, dn40, dn41, dn42, dn43, dn50, dn51, dn52, dn53, dn54, if_true, if_false]
            have hm : fX5_trade (nI i) 3 t = some (gA t 23 (4 * i + 3), si t 0 0) := by
              have e9 : (4 * nI i) + 3 = nI (4 * i + 3) := by rw [show (3 : Int32) = nI 3 by decide]; exact cell_n
              simp only [fX5_trade, fX5_trade_38, fX5_trade_62, if_neg h1, rdi_n, g2, if_neg h3, if_pos h5, isIn_eq, h6.1, h6.2, and_self, bnd_some, wri_n, thr_si, zer_le0, e9, rda_n (hj 3 (by decide)), gA_si, Nat.add_zero, dn10, dn20, dn21, dn30, dn31, dn32, dn40, dn41, dn42, dn43, dn50, dn51, dn52, dn53, dn54, if_true, if_false]
            exact ⟨_, _, _, _, hc, hm, ⟨rfl, rfl⟩, Rel_thr R⟩
        · have hc : fX4_trade (nI i) x h = some (.inl eArg, h) := by
            simp only [fX4_trade, if_neg h1, rdi_n, g1, if_neg h3, if_pos h5, if_neg (fun e : x = 0 => h6 (by rw [e]; decide)), if_neg (fun e : x = 1 => h6 (by rw [e]; decide)), if_neg (fun e : x = 2 => h6 (by rw [e]; decide)), if_neg (fun e : x = 3 => h6 (by rw [e]; decide)), eArg]
          have hm : fX5_trade (nI i) x t = some (0, si t 0 2) := by
            simp only [fX5_trade, fX5_trade_38, fX5_trade_62, if_neg h1, rdi_n, g2, if_neg h3, if_pos h5, isIn_eq, if_neg h6, bnd_some, wri_n, thr_si, two_le0, if_true, if_false]
          exact ⟨_, _, _, _, hc, hm, agr2_a, Rel_thr R⟩
      · have h5 : ¬ nI i < 300 := by rw [show (300 : Int32) = nI 300 by decide]; exact nI_nlt (by omega) hi
        have hc : fX4_trade (nI i) x h = some (.inl eIdx, h) := by
          simp only [fX4_trade, fX4_trade_22, if_neg h1, rdi_n, g1, if_neg h3, if_neg h5, eIdx]
        have hm : fX5_trade (nI i) x t = some (0, si t 0 1) := by
          simp only [fX5_trade, fX5_trade_20, fX5_trade_38, fX5_trade_62, if_neg h1, rdi_n, g2, if_neg h3, if_neg h5, wri_n, thr_si, one_le0, if_false]
        exact ⟨_, _, _, _, hc, hm, agr2_i, Rel_thr R⟩
end Simple
