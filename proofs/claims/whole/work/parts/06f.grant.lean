/-! ===== grant, count ===== -/
section Grant
variable {h h' t t' : SH} {q q' : Nat → Nat → Nat} {Q : Nat → List Nat} {n nt B o : Nat}
theorem RelH_put (R : RelH h t B) {p : Nat} (hp : p < 2048) {v : Int32} {B' : Nat} (hB : B ≤ B') (h1 : -(B' : Int) ≤ v.toInt) (h2 : v.toInt ≤ B') : RelH (uA h 7 p v) (uA t 3 p v) B' := by
  intro i hi
  obtain ⟨a, b, c, d, e, f⟩ := R i hi
  simp only [gA_uA]
  refine ⟨?_, by simpa using b, by simpa using c, by simpa using d, ?_, ?_⟩
  · by_cases z : i = p <;> simp [z, a]
  · by_cases z : i = p
    · simp [z, h1]
    · simp [z]; omega
  · by_cases z : i = p
    · simp [z, h2]
    · simp [z]; omega
theorem gn_dec {x : Int32} (h : 1 ≤ x ∧ x ≤ 1000000) : ∃ y : Nat, 1 ≤ y ∧ y ≤ 1000000 ∧ x = nI y := between (a := 1) (b := 1000000) (by decide +kernel) (by decide +kernel) h.1 h.2
theorem gn_num {v : Int32} {y B : Nat} (hy : y ≤ 1000000) (hB : B ≤ 63000000) (b1 : -(B : Int) ≤ v.toInt) (b2 : v.toInt ≤ B) : (v + nI y).toInt = v.toInt + y ∧ v ≤ 1000000000 - nI y ∧ v + nI y ≤ 1000000000 := by
  have h9 : (1000000000 : Int32).toInt = 1000000000 := by decide +kernel
  have hy' := nI_toInt (n := y) (by omega)
  have hsum : (v + nI y).toInt = v.toInt + y := by rw [fb_addI (by omega) (by omega), hy']
  have hdif : (1000000000 - nI y : Int32).toInt = 1000000000 - y := by rw [fb_subI (by omega) (by omega), hy', h9]
  refine ⟨hsum, ?_, ?_⟩
  · rw [Int32.le_iff_toInt_le, hdif]; omega
  · rw [Int32.le_iff_toInt_le, hsum, h9]; omega
theorem op_grant {B' : Nat} (R : Rel h t q Q n nt B o) (hB1 : B + 1000000 ≤ B') (hB : B' ≤ 64000000) (a s x : Int32) : ∃ (r : String ⊕ Int32) (h' : SH) (b : Int32) (t' : SH), fX4_grant a s x h = some (r, h') ∧ fX5_grant a s x t = some (b, t') ∧ agr c3 r b t' ∧ Rel h' t' q Q n nt B' o := by
  have RB' : Rel h t q Q n nt B' o := ⟨R.1.B_ (by omega) hB, R.2.1, R.2.2.1.B_ (by omega), R.2.2.2⟩
  by_cases h1 : 0 ≤ a ∧ a ≤ 511
  · by_cases h3 : 0 ≤ s ∧ s ≤ 3
    · by_cases h2 : 1 ≤ x ∧ x ≤ 1000000
      · obtain ⟨j, -, hj0, rfl⟩ := between (a := 0) (b := 511) (by decide) (by decide) h1.1 h1.2
        obtain ⟨i, -, hi, rfl⟩ := between (a := 0) (b := 3) (by decide) (by decide) h3.1 h3.2
        obtain ⟨y, hy1, hy2, rfl⟩ := gn_dec h2
        have hj : 4 * j + i < 2048 := by omega
        have hj5 : j < 512 := by omega
        obtain ⟨RS, RC, RH, RP, RO, RB, RT⟩ := RB'
        obtain ⟨e1, -, -, -, b1, b2⟩ := R.2.2.1 (4 * j + i) hj
        obtain ⟨hsum, c1, c2⟩ := gn_num (v := gA t 3 (4 * j + i)) hy2 (by omega) b1 b2
        generalize hv : gA t 3 (4 * j + i) + nI y = v at hsum c2
        have RC1 : RelC (uA h 7 (4 * j + i) (v)) (uA (si t 0 0) 3 (4 * j + i) (v)) := (RelC.h_ (h' := uA h 7 (4 * j + i) (v)) RC Sm_uA (by decide) (by decide) (by decide)).t_ (t' := uA (si t 0 0) 3 (4 * j + i) (v)) (Sm_si.tr Sm_uA) (by decide) (by decide)
        obtain ⟨h', k1, k2, k3, k4, k5⟩ := know_eq RC1 hj5
        have S1 : Sm (uA h 7 (4 * j + i) (v)) h' ([11]) [1] [] := ⟨fun k i hk => k3 k i (fun e => hk (by rw [e]; exact List.mem_cons_self)), fun k hk => k4 k (fun e => hk (by rw [e]; exact List.mem_cons_self)), fun k i hk => k5 k i⟩
        have S0 : Sm h h' [7, 11] [1] [] := Sm_uA.tr S1
        have S2 : Sm t (uA (uA (si t 0 0) 3 (4 * j + i) (v)) 7 j 1) [3, 7] [0] [] := ((Sm_si.tr Sm_uA).tr Sm_uA)
        have ev : gA h' 7 (4 * j + i) = v := by rw [k3 7 _ (by decide), gA_uA]; simp
        have hc : fX4_grant (nI j) (nI i) (nI y) h = some (.inr v, h') := by
          unfold fX4_grant fX1_placeOf
          rw [needAcc_eq, if_pos h1, bndX_inr, needSym_eq, if_pos h3, bndX_inr, needWi_eq, if_pos h2, bndX_inr, bnd_some, place_n, rda_n hj, e1, if_pos c1, rda_n hj, e1, hv, wra_n hj, k1, bnd_some, rda_n hj, ev]
        have hm : fX5_grant (nI j) (nI i) (nI y) t = some (v, uA (uA (si t 0 0) 3 (4 * j + i) (v)) 7 j 1) := by
          simp only [fX5_grant, fX5_grant_19, fX5_grant_67, fX5_cell, isAcc_eq, isSym_eq, isIn_eq, if_pos h1, if_pos h3, h2.1, h2.2, and_self, bnd_some, dn10, if_true, if_false, cell_n, rda_n hj, gA_si, hv, c2, wri_n, rdi_n, thr_si, zer_le0, wra_n hj, wra_n hj5, nar_1, gA_si, gA_uA, Nat.reduceEqDiff, false_and, reduceCtorEq]
        refine ⟨_, _, _, _, hc, hm, ⟨rfl, rfl⟩, (RS.h_ S0 (by decide) (by decide)).t_ S2 (by decide) (by decide), k2, ?_, (RP.h_ S0 (by decide)).t_ S2 (by decide), (RO.h_ S0 (by decide)).t_ S2 (by decide), RB.h_ S0 (by decide), ?_⟩
        · have RH1 := RelH_put R.2.2.1 hj (v := v) (B' := B') (by omega) (by rw [hsum]; omega) (by rw [hsum]; omega)
          exact (RH1.h_ S1 (by decide)).t_ (t' := uA (uA (si t 0 0) 3 (4 * j + i) (v)) 7 j 1) (A := [7]) (I := [0]) (L := []) ⟨fun k z hk => by rw [gA_uA, if_neg (fun e => hk (by rw [e.1]; exact List.mem_cons_self)), gA_uA, gA_uA, gA_si], fun k hk => by rw [gi_uA, gi_uA, gi_uA, gi_si, if_neg (fun e => hk (by rw [e]; exact List.mem_cons_self))], fun _ _ _ => rfl⟩ (by decide)
        · rw [S0.2.1 3 (by decide)]; exact RT
      · have hc : fX4_grant a s x h = some (.inl eArg, h) := by
          simp only [fX4_grant, needAcc_eq, needSym_eq, needWi_eq, if_pos h1, if_pos h3, if_neg h2, bndX_inr, bndX_inl]
        have hm : fX5_grant a s x t = some (0, si t 0 2) := by
          simp only [fX5_grant, fX5_grant_19, fX5_grant_67, isAcc_eq, isSym_eq, isIn_eq, if_pos h1, if_pos h3, if_neg h2, bnd_some, dn10, if_true, if_false, wri_n, rdi_n, thr_si, two_le0]
        exact ⟨_, _, _, _, hc, hm, agr_a, Rel_thr RB'⟩
    · have hc : fX4_grant a s x h = some (.inl eIdx, h) := by
        simp only [fX4_grant, needAcc_eq, needSym_eq, if_pos h1, if_neg h3, bndX_inr, bndX_inl]
      have hm : fX5_grant a s x t = some (0, si t 0 1) := by
        simp only [fX5_grant, fX5_grant_18, fX5_grant_19, fX5_grant_67, isAcc_eq, isSym_eq, if_pos h1, if_neg h3, bnd_some, dn10, if_true, if_false, wri_n, rdi_n, thr_si, one_le0]
      exact ⟨_, _, _, _, hc, hm, agr_i, Rel_thr RB'⟩
  · have hc : fX4_grant a s x h = some (.inl eIdx, h) := by
      simp only [fX4_grant, needAcc_eq, if_neg h1, bndX_inl]
    have hm : fX5_grant a s x t = some (0, si t 0 1) := by
      simp only [fX5_grant, fX5_grant_18, fX5_grant_19, fX5_grant_67, isAcc_eq, if_neg h1, bnd_some, if_true, wri_n, rdi_n, thr_si, one_le0, if_false]
    exact ⟨_, _, _, _, hc, hm, agr_i, Rel_thr RB'⟩
/-! loops that count -/
theorem there_loop (RO : RelO h t q n nt o) (hn : n ≤ 64) (g2 : gi t 2 = nI n) (N : Nat) : ∀ (fu k : Nat), k ≤ n → n - k < fu → fX5_there_4_L N fu (nI (cnt (fun k => decide (q 7 k = 0 ∨ q 7 k = 1)) k)) (nI k) t = some (nI (cnt (fun k => decide (q 7 k = 0 ∨ q 7 k = 1)) n), t) := by
  intro fu
  induction fu with
  | zero => intro k _ h; omega
  | succ fu ih =>
    intro k hk hf
    show fX5_there_4 N (fX5_there_4_L N fu) _ _ t = _
    unfold fX5_there_4 fX5_there_27
    rw [rdi_n, g2]
    by_cases c : n ≤ k
    · have : k = n := by omega
      subst this
      rw [if_pos (nI_le (Nat.le_refl _) (by omega))]
    · rw [if_neg (nI_ge (by omega) (by omega)), isThM_eq RO hn (by omega), bnd_some]
      have e := ih (k + 1) (by omega) (by omega)
      by_cases c2 : q 7 k = 0 ∨ q 7 k = 1
      · have e2 : cnt (fun k => decide (q 7 k = 0 ∨ q 7 k = 1)) (k + 1) = cnt (fun k => decide (q 7 k = 0 ∨ q 7 k = 1)) k + 1 := by show _ + _ = _; simp [c2]
        rw [e2, ← nI_1, ← nI_1] at e
        simp only [c2, if_true, dn10, if_false]
        exact e
      · have e2 : cnt (fun k => decide (q 7 k = 0 ∨ q 7 k = 1)) (k + 1) = cnt (fun k => decide (q 7 k = 0 ∨ q 7 k = 1)) k := by show _ + _ = _; simp [c2]
        rw [e2, ← nI_1] at e
        simp only [c2, if_false, if_true]
        exact e
theorem there_eq (R : Rel h t q Q n nt B o) (N : Nat) (hN : 20000 ≤ N) : fX5_there N t = some (nI (cnt (fun k => decide (q 7 k = 0 ∨ q 7 k = 1)) n), t) := by
  have hn := R.1.1
  have e := there_loop R.2.2.2.2.1 hn R.1.2.2.2.1 N N 0 (by omega) (by omega)
  exact e
theorem had_loop (RC : RelC h t) (N : Nat) : ∀ (fu k : Nat), k ≤ 512 → 512 - k < fu → fX5_count_85_L N fu (nI (cnt (fun a => decide (gA t 7 a = 1)) k)) (nI k) t = some (nI (cnt (fun a => decide (gA t 7 a = 1)) 512), t) := by
  intro fu
  induction fu with
  | zero => intro k _ h; omega
  | succ fu ih =>
    intro k hk hf
    show fX5_count_85 N (fX5_count_85_L N fu) _ _ t = _
    unfold fX5_count_85 fX5_count_108
    rw [show (512 : Int32) = nI 512 by decide]
    by_cases c : 512 ≤ k
    · have : k = 512 := by omega
      subst this
      rw [if_pos (nI_le (Nat.le_refl _) (by decide))]
    · rw [if_neg (nI_ge (by omega) (by decide)), rda_n (show k < 512 by omega)]
      have e := ih (k + 1) (by omega) (by omega)
      obtain ⟨-, -, -, g⟩ := RC.1 k (by omega)
      rcases g with g | g
      · have e2 : cnt (fun a => decide (gA t 7 a = 1)) (k + 1) = cnt (fun a => decide (gA t 7 a = 1)) k := by simp [cnt, g]
        rw [e2, ← nI_1] at e
        rw [if_pos g]
        exact e
      · have e2 : cnt (fun a => decide (gA t 7 a = 1)) (k + 1) = cnt (fun a => decide (gA t 7 a = 1)) k + 1 := by simp [cnt, g]
        rw [e2, ← nI_1, ← nI_1] at e
        rw [g, if_neg one_ne]
        exact e
def c1 (E : String) : Int32 := if E = eArg then 1 else 0
theorem agr_1 {α : Type} {b : α} {t : SH} : agr c1 (.inl eArg) b (si t 0 1) := ⟨by show (1 : Int32) = c1 eArg; decide, by decide⟩
theorem op_count (R : Rel h t q Q n nt B o) (ho : n ≤ o) (N : Nat) (hN : 20000 ≤ N) (x : Int32) : ∃ (r : String ⊕ Int32) (h' : SH) (b : Int32) (t' : SH), fX4_count x h = some (r, h') ∧ fX5_count N x t = some (b, t') ∧ agr c1 r b t' ∧ Rel h' t' q Q n nt B o := by
  have R0 := R
  obtain ⟨⟨hn, hB, g1, g2, g3, g4, ⟨τ, hτ, m1, m2⟩, T, hT, t1, t2, t3⟩, RC, RH, RP, RO, RB, RT⟩ := R
  by_cases h2 : 0 ≤ x ∧ x ≤ 4
  · have hth : cnt (isThereQ q o) n = cnt (fun k => decide (q 7 k = 0 ∨ q 7 k = 1)) n := cnt_congr (fun k hk => by unfold isThereQ; rw [show decide (k = o) = false from by simp; omega]; simp)
    have et := there_eq (t := si t 0 0) R0 N hN
    have eh := had_loop (h := h) (t := si t 0 0) RC N N 0 (by omega) (by omega)
    have g2' : gi (si t 0 0) 2 = nI n := g2
    have m2' : gi (si t 0 0) 1 = nI τ := m2
    have t2' : gi (si t 0 0) 4 = nI T := t2
    have z0 : ¬ (0 : Int32) < 0 := by decide
    rcases upto4 h2 with rfl | rfl | rfl | rfl | rfl
    · have hc : fX4_count 0 h = some (.inr (nI T), h) := by
        simp only [fX4_count, rdi_n, t1, dn10, dn20, dn21, dn30, dn31, dn32, dn40, dn41, dn42, dn43, if_true, if_false]
      have hm : fX5_count N 0 t = some (nI T, si t 0 0) := by
        simp only [fX5_count, fX5_count_15, fX5_count_30, fX5_count_80, isIn_eq, h2.1, h2.2, and_self, if_true, bnd_some, dn10, dn20, dn21, dn30, dn31, dn32, dn40, dn41, dn42, dn43, if_false, wri_n, rdi_n, thr_si, z0, zer_le0, t2', show ((0 : Int32) = 3) = False by decide]
      exact ⟨_, _, _, _, hc, hm, ⟨rfl, rfl⟩, Rel_thr R0⟩
    · have hc : fX4_count 1 h = some (.inr (nI n), h) := by
        simp only [fX4_count, rdi_n, g1, dn10, dn20, dn21, dn30, dn31, dn32, dn40, dn41, dn42, dn43, if_true, if_false]
      have hm : fX5_count N 1 t = some (nI n, si t 0 0) := by
        simp only [fX5_count, fX5_count_15, fX5_count_30, fX5_count_80, isIn_eq, h2.1, h2.2, and_self, if_true, bnd_some, dn10, dn20, dn21, dn30, dn31, dn32, dn40, dn41, dn42, dn43, if_false, wri_n, rdi_n, thr_si, z0, zer_le0, g2', show ((1 : Int32) = 3) = False by decide]
      exact ⟨_, _, _, _, hc, hm, ⟨rfl, rfl⟩, Rel_thr R0⟩
    · have hc : fX4_count 2 h = some (.inr (nI (cnt (fun k => decide (q 7 k = 0 ∨ q 7 k = 1)) n)), h) := by
        simp only [fX4_count, rdi_n, RT, hth, dn10, dn20, dn21, dn30, dn31, dn32, dn40, dn41, dn42, dn43, if_true, if_false]
      have hm : fX5_count N 2 t = some (nI (cnt (fun k => decide (q 7 k = 0 ∨ q 7 k = 1)) n), si t 0 0) := by
        simp only [fX5_count, fX5_count_15, fX5_count_30, fX5_count_80, isIn_eq, h2.1, h2.2, and_self, if_true, bnd_some, dn10, dn20, dn21, dn30, dn31, dn32, dn40, dn41, dn42, dn43, if_false, wri_n, rdi_n, thr_si, z0, zer_le0, et, show ((2 : Int32) = 3) = False by decide]
      exact ⟨_, _, _, _, hc, hm, ⟨rfl, rfl⟩, Rel_thr R0⟩
    · have hc : fX4_count 3 h = some (.inr (nI (cnt (fun a => decide (gA t 7 a = 1)) 512)), h) := by
        simp only [fX4_count, rdi_n, RC.2, dn10, dn20, dn21, dn30, dn31, dn32, dn40, dn41, dn42, dn43, if_true, if_false]
      have hm : fX5_count N 3 t = some (nI (cnt (fun a => decide (gA t 7 a = 1)) 512), si t 0 0) := by
        simp only [fX5_count, fX5_count_15, isIn_eq, h2.1, h2.2, and_self, if_true, bnd_some, dn10, dn20, dn21, dn30, dn31, dn32, dn40, dn41, dn42, dn43, if_false, wri_n, rdi_n, thr_si, z0]
        exact eh
      exact ⟨_, _, _, _, hc, hm, ⟨rfl, rfl⟩, Rel_thr R0⟩
    · have hc : fX4_count 4 h = some (.inr (nI τ), h) := by
        simp only [fX4_count, rdi_n, m1, dn10, dn20, dn21, dn30, dn31, dn32, dn40, dn41, dn42, dn43, if_true, if_false]
      have hm : fX5_count N 4 t = some (nI τ, si t 0 0) := by
        simp only [fX5_count, fX5_count_15, fX5_count_30, fX5_count_80, isIn_eq, h2.1, h2.2, and_self, if_true, bnd_some, dn10, dn20, dn21, dn30, dn31, dn32, dn40, dn41, dn42, dn43, if_false, wri_n, rdi_n, thr_si, z0, zer_le0, m2']
      exact ⟨_, _, _, _, hc, hm, ⟨rfl, rfl⟩, Rel_thr R0⟩
  · have hc : fX4_count x h = some (.inl eArg, h) := by
      simp only [fX4_count, if_neg (fun e : x = 0 => h2 (by rw [e]; decide)), if_neg (fun e : x = 1 => h2 (by rw [e]; decide)), if_neg (fun e : x = 2 => h2 (by rw [e]; decide)), if_neg (fun e : x = 3 => h2 (by rw [e]; decide)), if_neg (fun e : x = 4 => h2 (by rw [e]; decide)), eArg]
    have hm : fX5_count N x t = some (0, si t 0 1) := by
      simp only [fX5_count, fX5_count_15, fX5_count_30, fX5_count_80, isIn_eq, if_neg h2, bnd_some, if_true, wri_n, rdi_n, thr_si, show ((0 : Int32) < 1) = True by decide, one_le0, if_false]
    exact ⟨_, _, _, _, hc, hm, agr_1, Rel_thr R0⟩
end Grant
