/-! ===== an order ends ===== -/
def clH (q : Nat → Nat → Nat) (h : SH) (k left : Nat) (st : Int32) : SH := si (uA (uA (uA (hldH q h k (-nI left)) 18 k 0) 19 k 0) 20 k st) 3 (gi h 3 - 1)
def caM (q : Nat → Nat → Nat) (t : SH) (k left : Nat) (st : Int32) : SH := uA (uA (uA (hldM q t k (nI left)) 13 k 0) 14 k 0) 16 k st
def clq (q : Nat → Nat → Nat) (k st : Nat) : Nat → Nat → Nat := fun f k' => if k' = k ∧ (f = 5 ∨ f = 6) then 0 else if k' = k ∧ f = 7 then st else q f k'
section Close
variable {h h' t t' : SH} {q q' : Nat → Nat → Nat} {Q Q' : Nat → List Nat} {n nt nt' B o o' k : Nat}
theorem RelO1.same (R : RelO1 h t q nt o k) (H : ∀ r, 12 ≤ r → r ≤ 22 → gA h' r k = gA h r k) (T : ∀ r, 8 ≤ r → r ≤ 19 → gA t' r k = gA t r k) (hq : ∀ f, q' f k = q f k) (hnt : nt ≤ nt') (ho : k = o ↔ k = o') : RelO1 h' t' q' nt' o' k := by
  have e : (if k = o' then 1 else q 7 k) = (if k = o then 1 else q 7 k) := by
    by_cases c : k = o
    · rw [if_pos c, if_pos (ho.mp c)]
    · rw [if_neg c, if_neg (fun z => c (ho.mpr z))]
  unfold RelO1 at R ⊢
  simp only [hq]
  rw [H 12 (by omega) (by omega), H 13 (by omega) (by omega), H 14 (by omega) (by omega), H 15 (by omega) (by omega), H 16 (by omega) (by omega), H 17 (by omega) (by omega), H 18 (by omega) (by omega), H 19 (by omega) (by omega), H 20 (by omega) (by omega), H 21 (by omega) (by omega), H 22 (by omega) (by omega),
    T 8 (by omega) (by omega), T 9 (by omega) (by omega), T 10 (by omega) (by omega), T 11 (by omega) (by omega), T 12 (by omega) (by omega), T 13 (by omega) (by omega), T 14 (by omega) (by omega), T 15 (by omega) (by omega), T 16 (by omega) (by omega), T 17 (by omega) (by omega), T 18 (by omega) (by omega), T 19 (by omega) (by omega), e]
  obtain ⟨r0, r1, r2, r3, r4, r5, r6, r7, r8, r9, r10, r11, r12, r13, r14⟩ := R
  refine ⟨r0, r1, r2, r3, r4, r5, r6, r7, r8, r9, r10, fun z => ?_, r12, fun z => ?_, fun z => r14 (ho.mpr z)⟩
  · obtain ⟨a, b, c⟩ := r11 z
    exact ⟨a, by omega, c⟩
  · obtain ⟨a, b⟩ := r13 z
    exact ⟨a, fun y => b (fun w => y (ho.mp w))⟩
theorem uA_self {z : SH} {k j : Nat} {v : Int32} (e : gA z k j = v) : uA z k j v = z := by
  obtain ⟨a, b, c⟩ := z
  unfold uA
  refine Prod.ext rfl (Prod.ext ?_ rfl)
  funext k' j'
  subst e
  unfold gA upd
  by_cases c : k' = k
  · subst c
    by_cases d : j' = j <;> simp [d]
  · simp [c]
theorem uL_self {z : SH} {k j : Nat} {v : Int64} (e : gL z k j = v) : uL z k j v = z := by
  obtain ⟨a, b, c⟩ := z
  unfold uL
  refine Prod.ext rfl (Prod.ext rfl ?_)
  funext k' j'
  subst e
  unfold gL vp_updL
  by_cases c : k' = k
  · subst c
    by_cases d : j' = j <;> simp [d]
  · simp [c]
theorem hldM_0 : hldM q t k (nI 0) = t := by
  unfold hldM
  have e0 : (nI 0).toInt64 = 0 := by decide
  by_cases c : q 2 k = 0
  · rw [if_pos c, e0, Int64.mul_zero, Int64.sub_zero]
    exact uL_self rfl
  · rw [if_neg c, nI_0, Int32.sub_zero]
    exact uA_self rfl
theorem caM_0 (h13 : gA t 13 k = 0) (h14 : gA t 14 k = 0) (st : Int32) : caM q t k 0 st = uA t 16 k st := by
  unfold caM
  rw [hldM_0, uA_self h13, uA_self h14]
theorem close_eq {left : Nat} (R : At5 h t q k) (h18 : gA h 18 k = nI left) (st : Int32) : fX4_close (nI k) st h = some ((), clH q h k left st) := by
  have hk5 : k < 512 := by have := R.1; omega
  unfold fX4_close
  rw [rda_n hk5, h18, hold_eq R, bnd_some, wra_n hk5, wra_n hk5, wra_n hk5, rdi_n, wri_n]
  unfold clH
  rw [gi_uA, gi_uA, gi_uA, Sm_hldH.2.1 3 (by decide)]
theorem cancelled_eq {left : Nat} (R : At5 h t q k) (h13 : gA t 13 k = nI left) : fX5_cancelled (nI k) t = some ((), caM q t k left 3) := by
  have hk5 : k < 520 := by have := R.1; omega
  unfold fX5_cancelled
  rw [rda_n hk5, h13, free_eq R, bnd_some, wra_n hk5, wra_n hk5, wra_n hk5]
  rfl
theorem Sm_clH {left : Nat} {st : Int32} : Sm h (clH q h k left st) [8, 18, 19, 20] [3] [6] := ((Sm_hldH.tr Sm_uA).tr Sm_uA).tr Sm_uA |>.tr Sm_si
theorem Sm_caM {left : Nat} {st : Int32} : Sm t (caM q t k left st) [4, 13, 14, 16] [] [2] := ((Sm_hldM.tr Sm_uA).tr Sm_uA).tr Sm_uA
theorem clq_ne {st f k' : Nat} (hk : k' ≠ k) : clq q k st f k' = q f k' := by unfold clq; rw [if_neg (fun e => hk e.1), if_neg (fun e => hk e.1)]
theorem clq_f {st f k' : Nat} (h5 : f ≠ 5) (h6 : f ≠ 6) (h7 : f ≠ 7) : clq q k st f k' = q f k' := by unfold clq; rw [if_neg (fun e => by omega), if_neg (fun e => h7 e.2)]
theorem clq_5 {st : Nat} : clq q k st 5 k = 0 := by unfold clq; simp
theorem clq_6 {st : Nat} : clq q k st 6 k = 0 := by unfold clq; simp
theorem clq_7 {st : Nat} : clq q k st 7 k = st := by unfold clq; simp
theorem clH_ne {left r j : Nat} {st : Int32} (e : j ≠ k) (hr : r ≠ 8) : gA (clH q h k left st) r j = gA h r j := by
  unfold clH
  rw [gA_si, gA_uA_ne e, gA_uA_ne e, gA_uA_ne e, Sm_hldH.1 r j (by simp [hr])]
theorem caM_ne {left r j : Nat} {st : Int32} (e : j ≠ k) (hr : r ≠ 4) : gA (caM q t k left st) r j = gA t r j := by
  unfold caM
  rw [gA_uA_ne e, gA_uA_ne e, gA_uA_ne e, Sm_hldM.1 r j (by simp [hr])]
theorem Rel_close {left st : Nat} (RS : RelS h t n nt B) (RC : RelC h t) (RH : RelH h t B) (RP : RelP h t) (RO : RelO h t q n nt o) (RB : RelB h (clq q k st) Q' n) (RT : gi h 3 = nI (cnt (isThereQ q o) n)) (hk : k < n) (hth : isThereQ q o k = true) (hl : q 5 k = left) (hst : st = 2 ∨ st = 3) (ho : ∀ j, j < n → j ≠ k → (j = o ↔ j = o')) (hko : k ≠ o') :
    Rel (clH q h k left (nI st)) (caM q t k left (nI st)) (clq q k st) Q' n nt B o' := by
  have hn := RS.1
  have r := RO k hk
  unfold RelO1 at r
  obtain ⟨r0, r1, r2, r3, r4, r5, r6, r7, r8, r9, r10, r11, r12, r13, r14⟩ := r
  have hH : ∀ r, r ≠ 8 → gA (hldH q h k (-nI left)) r k = gA h r k := fun r hr => Sm_hldH.1 r k (by simp [hr])
  have hM : ∀ r, r ≠ 4 → gA (hldM q t k (nI left)) r k = gA t r k := fun r hr => Sm_hldM.1 r k (by simp [hr])
  refine ⟨(RS.hz_ Sm_clH (by decide) (by decide) (fun j hj => ⟨clH_ne (by omega) (by decide), clH_ne (by omega) (by decide), clH_ne (by omega) (by decide)⟩)).tz_ Sm_caM (by decide) (by decide) (fun j hj => ⟨caM_ne (by omega) (by decide), caM_ne (by omega) (by decide), caM_ne (by omega) (by decide)⟩), ?_, ?_, (RP.h_ Sm_clH (by decide)).t_ Sm_caM (by decide), fun j hj => ?_, RB.h_ Sm_clH (by decide), ?_⟩
  · have C1 := RelC_hold (q := q) (k := k) RC (a := left) (by omega) r0.2.2
    exact (C1.h_ (h' := clH q h k left (nI st)) (((Sm_uA.tr Sm_uA).tr Sm_uA).tr Sm_si) (by decide) (by decide) (by decide)).t_ (t' := caM q t k left (nI st)) ((Sm_uA.tr Sm_uA).tr Sm_uA) (by decide) (by decide)
  · have C1 := RelH_hold (q := q) (k := k) (a := left) RH (by have := r0.2.2; have := r1.2.2; omega)
    exact (C1.h_ (h' := clH q h k left (nI st)) (((Sm_uA.tr Sm_uA).tr Sm_uA).tr Sm_si) (by decide)).t_ (t' := caM q t k left (nI st)) ((Sm_uA.tr Sm_uA).tr Sm_uA) (by decide)
  · by_cases e : j = k
    · subst e
      unfold RelO1
      rw [clq_5, clq_6, clq_7, if_neg hko]
      simp only [clq_f (show (0 : Nat) ≠ 5 by decide) (show (0 : Nat) ≠ 6 by decide) (show (0 : Nat) ≠ 7 by decide), clq_f (show (1 : Nat) ≠ 5 by decide) (show (1 : Nat) ≠ 6 by decide) (show (1 : Nat) ≠ 7 by decide), clq_f (show (2 : Nat) ≠ 5 by decide) (show (2 : Nat) ≠ 6 by decide) (show (2 : Nat) ≠ 7 by decide), clq_f (show (3 : Nat) ≠ 5 by decide) (show (3 : Nat) ≠ 6 by decide) (show (3 : Nat) ≠ 7 by decide), clq_f (show (4 : Nat) ≠ 5 by decide) (show (4 : Nat) ≠ 6 by decide) (show (4 : Nat) ≠ 7 by decide), clq_f (show (8 : Nat) ≠ 5 by decide) (show (8 : Nat) ≠ 6 by decide) (show (8 : Nat) ≠ 7 by decide), clq_f (show (9 : Nat) ≠ 5 by decide) (show (9 : Nat) ≠ 6 by decide) (show (9 : Nat) ≠ 7 by decide), clq_f (show (10 : Nat) ≠ 5 by decide) (show (10 : Nat) ≠ 6 by decide) (show (10 : Nat) ≠ 7 by decide)]
      simp only [clH, caM, gA_si, gA_uA, Nat.reduceEqDiff, false_and, true_and, if_false, if_true, hH 12 (by decide), hH 13 (by decide), hH 14 (by decide), hH 15 (by decide), hH 16 (by decide), hH 17 (by decide), hH 21 (by decide), hH 22 (by decide), hM 8 (by decide), hM 9 (by decide), hM 10 (by decide), hM 11 (by decide), hM 12 (by decide), hM 15 (by decide), hM 17 (by decide), hM 18 (by decide), hM 19 (by decide)]
      refine ⟨r0, r1, r2, r3, r4, ⟨nI_0.symm, nI_0.symm, by omega⟩, ⟨nI_0.symm, nI_0.symm, by omega⟩, by omega, r8, r9, r10, fun z => by omega, fun z => by omega, fun _ _ => trivial, fun z => absurd z hko⟩
    · refine (RO j hj).same (fun r h1 h2 => ?_) (fun r h1 h2 => ?_) (fun f => clq_ne e) (Nat.le_refl _) (ho j hj e)
      · unfold clH
        rw [gA_si, gA_uA_ne e, gA_uA_ne e, gA_uA_ne e, Sm_hldH.1 r j (by simp; omega)]
      · unfold caM
        rw [gA_uA_ne e, gA_uA_ne e, gA_uA_ne e, Sm_hldM.1 r j (by simp; omega)]
  · show gi h 3 - 1 = _
    have h1 := cnt_upd (p := isThereQ q o) (q := isThereQ (clq q k st) o') hk (fun j hj hne => by
      unfold isThereQ
      rw [clq_ne hne, show decide (j = o') = decide (j = o) from by simp only [decide_eq_decide]; exact (ho j hj hne).symm])
    have h2 : isThereQ (clq q k st) o' k = false := by
      unfold isThereQ
      rw [clq_7]
      simp [hko]
      omega
    rw [hth, h2] at h1
    simp only [if_true, Bool.false_eq_true, if_false] at h1
    rw [RT, show (1 : Int32) = nI 1 by decide, pk_sub (by omega)]
    congr 1
    omega
theorem RelO.five (R : RelO h t q n nt o) (hk : k < n) : gA h 18 k = nI (q 5 k) ∧ gA t 13 k = nI (q 5 k) := by
  obtain ⟨-, -, -, -, -, ⟨a, b, -⟩, -⟩ := R k hk
  exact ⟨a, b⟩
theorem RelB.q7 (R : RelB h q Q n) (hk : k < n) {st : Nat} (h7 : q 7 k ≠ 0) (hst : st ≠ 0) : RelB h (clq q k st) Q n := by
  intro b hb
  obtain ⟨r1, r2, r3, r4⟩ := R b hb
  have e2 : ∀ d, qlt (clq q k st) d = qlt q d := by
    intro d
    funext i j
    exact qlt_congr (clq_f (by decide) (by decide) (by decide)) (clq_f (by decide) (by decide) (by decide)) (clq_f (by decide) (by decide) (by decide)) (clq_f (by decide) (by decide) (by decide))
  have e1 : inBook (clq q k st) b = inBook q b := by
    funext j
    unfold inBook
    rw [clq_f (f := 1) (by decide) (by decide) (by decide), clq_f (f := 2) (by decide) (by decide) (by decide)]
    by_cases e : j = k
    · subst e
      rw [clq_7]
      simp [h7, hst]
    · rw [clq_ne e]
  exact ⟨r1, r2, by rw [e1]; exact r3, by rw [e2]; exact r4⟩
/-- taking an order that is there away -/
theorem away_eq (N : Nat) (hN : 20000 ≤ N) (R : Rel h t q Q n nt B o) (ho : n ≤ o) (hk : k < n) (hth : q 7 k = 0 ∨ q 7 k = 1) : ∃ (h' : SH) (Q' : Nat → List Nat), fX4_takeAway N (nI k) h = some ((), h') ∧ fX5_cancelled (nI k) t = some ((), caM q t k (q 5 k) 3) ∧ Rel h' (caM q t k (q 5 k) 3) (clq q k 3) Q' n nt B o := by
  obtain ⟨RS, RC, RH, RP, RO, RB, RT⟩ := R
  have hn := RS.1
  have hA := RO.at5 hn hk
  have hF := RO.five hk
  have hko : k ≠ o := by omega
  have hI : isThereQ q o k = true := by
    unfold isThereQ
    rcases hth with c | c <;> simp [c]
  obtain ⟨-, b1, c1, -, -, -, -, ⟨s1, -, -⟩, -⟩ := RO k hk
  rw [if_neg hko] at s1
  have hz : (nI (q 7 k) = 0) = (q 7 k = 0) := by rw [show (0 : Int32) = nI 0 by decide]; exact nI_eq' (by omega) (by decide)
  unfold fX4_takeAway fX4_takeAway_20
  rw [rda_n (show k < 512 by omega), s1, cancelled_eq hA hF.2]
  by_cases c : q 7 k = 0
  · rw [if_pos (by rw [hz]; exact c)]
    obtain ⟨h1, i0, d1, d2, d3, d4, d5, d6⟩ := drop_eq N hN RB hn hk b1.1 c1.1 b1.2.2 c1.2.2 c
    rw [d1, bnd_some, close_eq (hA.h_ d2 (by decide)) (by rw [d2.1 _ _ (by decide)]; exact hF.1), bnd_some]
    have RB1 := RelB_drop (q' := clq q k 3) RB hk rfl d3 d4 d5 d6 (fun f k' hf => clq_f (by omega) (by omega) (by omega)) (fun k' hk' => clq_ne hk') (by rw [clq_7]; decide)
    have R1 := Rel_close (o := o) (o' := o) (st := 3) (RS.h_ d2 (by decide) (by decide)) (RC.h_ d2 (by decide) (by decide) (by decide)) (RH.h_ d2 (by decide)) (RP.h_ d2 (by decide)) (RO.h_ d2 (by decide)) RB1 (by rw [d2.2.1 _ (by decide)]; exact RT) hk hI rfl (Or.inr rfl) (fun j _ _ => Iff.rfl) hko
    exact ⟨_, _, rfl, rfl, R1⟩
  · rw [if_neg (by rw [hz]; exact c), close_eq hA hF.1, bnd_some]
    have R1 := Rel_close (o := o) (o' := o) (st := 3) RS RC RH RP RO (RB.q7 hk c (by decide)) RT hk hI rfl (Or.inr rfl) (fun j _ _ => Iff.rfl) hko
    exact ⟨_, _, rfl, rfl, R1⟩
theorem op_cancel (N : Nat) (hN : 20000 ≤ N) (R : Rel h t q Q n nt B o) (ho : n ≤ o) (a v : Int32) : ∃ (r : String ⊕ Int32) (h' : SH) (b : Int32) (t' : SH) (q' : Nat → Nat → Nat) (Q' : Nat → List Nat), fX4_cancel N a v h = some (r, h') ∧ fX5_cancel a v t = some (b, t') ∧ agr c3 r b t' ∧ Rel h' t' q' Q' n nt B o := by
  by_cases h1 : 0 ≤ a ∧ a ≤ 511
  · by_cases h2 : 0 ≤ v ∧ v ≤ nI n - 1
    · have hn := R.1.1
      obtain ⟨k, hk, rfl⟩ := (isInO hn).mp h2
      have hcl : (nI k).toNatClampNeg = k := nI_clamp (by omega)
      by_cases h3 : gA t 8 k = a
      · by_cases h5 : q 7 k = 0 ∨ q 7 k = 1
        · have hF := R.2.2.2.2.1.five hk
          obtain ⟨h', Q', k1, k2, k3⟩ := away_eq (t := si t 0 0) N hN (Rel_thr R) ho hk h5
          have hc : fX4_cancel N a (nI k) h = some (.inr (nI (q 5 k)), h') := by
            unfold fX4_cancel
            rw [needOwn_eq R, if_pos h1, if_pos h2, hcl, if_pos h3, bndX_inr, needTh_eq R ho hk, if_pos h5, bndX_inr, rda_n (show k < 512 by omega), hF.1, k1, bnd_some]
          have hm : fX5_cancel a (nI k) t = some (nI (q 5 k), caM q (si t 0 0) k (q 5 k) 3) := by
            unfold fX5_cancel
            rw [refuse_eq R, if_pos h1, if_pos h2, hcl, if_pos ⟨h3, by decide⟩, if_pos h5, bnd_some, wri_n, rdi_n, thr_si, if_pos (by decide), rda_n (show k < 520 by omega), gA_si, hF.2, k2, bnd_some]
          exact ⟨_, _, _, _, _, _, hc, hm, ⟨by rw [Sm_caM.2.1 0 (by decide)]; rfl, rfl⟩, k3⟩
        · have hc : fX4_cancel N a (nI k) h = some (.inl eSta, h) := by
            simp only [fX4_cancel, needOwn_eq R, if_pos h1, if_pos h2, hcl, if_pos h3, bndX_inr, needTh_eq R ho hk, if_neg h5, bndX_inl]
          have hm : fX5_cancel a (nI k) t = some (0, si t 0 3) := by
            simp only [fX5_cancel, refuse_eq R, if_pos h1, if_pos h2, hcl, h3, dn10, not_false_eq_true, and_self, if_true, if_neg h5, bnd_some, wri_n, rdi_n, thr_si, show ((3 : Int32) ≤ 0) = False by decide, if_false]
          exact ⟨_, _, _, _, q, Q, hc, hm, agr_s, R⟩
      · have hc : fX4_cancel N a (nI k) h = some (.inl eArg, h) := by
          simp only [fX4_cancel, needOwn_eq R, if_pos h1, if_pos h2, hcl, if_neg h3, bndX_inl]
        have hm : fX5_cancel a (nI k) t = some (0, si t 0 2) := by
          simp only [fX5_cancel, refuse_eq R, if_pos h1, if_pos h2, hcl, h3, false_and, if_false, bnd_some, wri_n, rdi_n, thr_si, two_le0]
        exact ⟨_, _, _, _, q, Q, hc, hm, agr_a, R⟩
    · have hc : fX4_cancel N a v h = some (.inl eIdx, h) := by
        simp only [fX4_cancel, needOwn_eq R, if_pos h1, if_neg h2, bndX_inl]
      have hm : fX5_cancel a v t = some (0, si t 0 1) := by
        simp only [fX5_cancel, refuse_eq R, if_pos h1, if_neg h2, if_false, bnd_some, wri_n, rdi_n, thr_si, one_le0]
      exact ⟨_, _, _, _, q, Q, hc, hm, agr_i, R⟩
  · have hc : fX4_cancel N a v h = some (.inl eIdx, h) := by
      simp only [fX4_cancel, needOwn_eq R, if_neg h1, bndX_inl]
    have hm : fX5_cancel a v t = some (0, si t 0 1) := by
      simp only [fX5_cancel, refuse_eq R, if_neg h1, if_false, bnd_some, wri_n, rdi_n, thr_si, one_le0]
    exact ⟨_, _, _, _, q, Q, hc, hm, agr_i, R⟩
/-- time goes on: what ends then is taken away -/
theorem pass_loop (N : Nat) (hN : 20000 ≤ N) {τ : Nat} (hτ : τ < 2 ^ 31) (ho : n ≤ o) : ∀ (fu k m : Nat) (h t : SH) (q : Nat → Nat → Nat) (Q : Nat → List Nat), Rel h t q Q n nt B o → gi h 0 = nI τ → gi t 1 = nI τ → gi t 0 = 0 → k ≤ n → n - k < fu → m ≤ k →
    ∃ (b : Int32) (h' t' : SH) (q' : Nat → Nat → Nat) (Q' : Nat → List Nat), fX4_pass_21_L N fu (nI m) (nI k) h = some (.inr b, h') ∧ fX5_pass_42_L N fu (nI m) (nI k) t = some (b, t') ∧ gi t' 0 = 0 ∧ Rel h' t' q' Q' n nt B o := by
  intro fu
  induction fu with
  | zero => intro k m h t q Q _ _ _ _ _ hf; omega
  | succ fu ih =>
    intro k m h t q Q R m1 m2 z0 hk hf hm
    have s1 : fX4_pass_21_L N (fu + 1) (nI m) (nI k) h = fX4_pass_21 N (fX4_pass_21_L N fu) (nI m) (nI k) h := rfl
    have s2 : fX5_pass_42_L N (fu + 1) (nI m) (nI k) t = fX5_pass_42 N (fX5_pass_42_L N fu) (nI m) (nI k) t := rfl
    have hn := R.1.1
    rw [s1, s2]
    unfold fX4_pass_21 fX5_pass_42 fX4_pass_79 fX5_pass_88
    rw [rdi_n, rdi_n, R.1.2.2.1, R.1.2.2.2.1]
    by_cases c : n ≤ k
    · rw [if_pos (nI_le c (by omega)), if_pos (nI_le c (by omega))]
      exact ⟨_, _, _, q, Q, rfl, rfl, z0, R⟩
    · have hk' : k < n := by omega
      rw [if_neg (nI_ge (by omega) (by omega)), if_neg (nI_ge (by omega) (by omega)), isThH_eq R.2.2.2.2.1 hn hk' (by omega), isThM_eq R.2.2.2.2.1 hn hk', bnd_some, bnd_some]
      obtain ⟨-, -, -, -, -, -, -, -, -, ⟨e1, e2, e3⟩, -⟩ := R.2.2.2.2.1 k hk'
      by_cases c1 : q 7 k = 0 ∨ q 7 k = 1
      · rw [if_pos c1, if_neg one_ne, if_neg one_ne, rda_n (show k < 512 by omega), rda_n (show k < 520 by omega), e1, e2]
        have hz : (nI (q 10 k) = 0) = (q 10 k = 0) := by rw [show (0 : Int32) = nI 0 by decide]; exact nI_eq' e3 (by decide)
        have hz2 : (nI (q 10 k) ≤ 0) = (q 10 k = 0) := by rw [show (0 : Int32) = nI 0 by decide, nI_le' e3 (by decide)]; exact propext (by omega)
        by_cases c2 : q 10 k = 0
        · rw [if_pos (by rw [hz]; exact c2), if_pos (by rw [hz2]; exact c2), nI_1]
          exact ih (k + 1) m h t q Q R m1 m2 z0 (by omega) (by omega) (by omega)
        · rw [if_neg (by rw [hz]; exact c2), if_neg (by rw [hz2]; exact c2), rda_n (show k < 512 by omega), rda_n (show k < 520 by omega), e1, e2, rdi_n, rdi_n, m1, m2]
          by_cases c3 : τ < q 10 k
          · rw [if_pos (nI_lt c3 e3), if_pos (nI_lt c3 e3), nI_1]
            exact ih (k + 1) m h t q Q R m1 m2 z0 (by omega) (by omega) (by omega)
          · rw [if_neg (nI_nlt (by omega) hτ), if_neg (nI_nlt (by omega) hτ), nI_1, nI_1]
            obtain ⟨h', Q', k1, k2, k3⟩ := away_eq N hN R ho hk' c1
            rw [k1, k2, bnd_some, bnd_some]
            obtain ⟨τ', -, y1, y2⟩ := k3.1.2.2.2.2.2.2.1
            have g1 : gi (caM q t k (q 5 k) 3) 1 = nI τ := by rw [Sm_caM.2.1 1 (by decide)]; exact m2
            exact ih (k + 1) (m + 1) h' _ _ Q' k3 (by rw [y1, ← y2]; exact g1) g1 (by rw [Sm_caM.2.1 0 (by decide)]; exact z0) (by omega) (by omega) (by omega)
      · rw [if_neg c1, if_pos rfl, if_pos rfl, nI_1]
        exact ih (k + 1) m h t q Q R m1 m2 z0 (by omega) (by omega) (by omega)
theorem op_pass {B' : Nat} (N : Nat) (hN : 20000 ≤ N) (R : Rel h t q Q n nt B o) (ho : n ≤ o) (hB1 : B + 1000000 ≤ B') (hB : B' ≤ 64000000) (x : Int32) : ∃ (r : String ⊕ Int32) (h' : SH) (b : Int32) (t' : SH) (q' : Nat → Nat → Nat) (Q' : Nat → List Nat), fX4_pass N x h = some (r, h') ∧ fX5_pass N x t = some (b, t') ∧ agr c1 r b t' ∧ Rel h' t' q' Q' n nt B' o := by
  have RB' : Rel h t q Q n nt B' o := ⟨R.1.B_ (by omega) hB, R.2.1, R.2.2.1.B_ (by omega), R.2.2.2⟩
  by_cases h2 : 0 ≤ x ∧ x ≤ 1000000
  · obtain ⟨y, -, hy, rfl⟩ := between (a := 0) (b := 1000000) (by decide) (by decide +kernel) h2.1 h2.2
    obtain ⟨⟨a1, a2, a3, a4, a5, a6, ⟨τ, b1, b2, b3⟩, T, c1', c2', c3', c4'⟩, RC, RH, RP, RO, RBk, RT⟩ := R
    have R1 : Rel (si h 0 (nI (τ + y))) (si (si t 0 0) 1 (nI (τ + y))) q Q n nt B' o :=
      ⟨⟨a1, hB, a3, a4, a5, ⟨by omega, a6.2⟩, ⟨τ + y, by omega, rfl, rfl⟩, T, by omega, c2', c3', c4'⟩, (RC.h_ Sm_si (by decide) (by decide) (by decide)).t_ (Sm_si.tr Sm_si) (by decide) (by decide), RB'.2.2.1, RP, RO, RBk, RT⟩
    obtain ⟨b, h', t', q', Q', k1, k2, k3, k4⟩ := pass_loop N hN (τ := τ + y) (by omega) ho N 0 0 _ _ q Q R1 rfl rfl rfl (by omega) (by omega) (Nat.le_refl _)
    rw [nI_0] at k1 k2
    have hc : fX4_pass N (nI y) h = some (.inr b, h') := by
      unfold fX4_pass
      rw [needWi_eq, if_pos h2, bndX_inr, rdi_n, b2, nI_add, wri_n]
      exact k1
    have hm : fX5_pass N (nI y) t = some (b, t') := by
      unfold fX5_pass fX5_pass_16
      rw [isIn_eq, if_pos h2, bnd_some, if_neg one_ne, wri_n, rdi_n, thr_si, if_pos (by decide), rdi_n, show gi (si t 0 0) 1 = nI τ from b3, nI_add, wri_n]
      exact k2
    exact ⟨_, _, _, _, q', Q', hc, hm, ⟨k3, rfl⟩, k4⟩
  · have hc : fX4_pass N x h = some (.inl eArg, h) := by
      unfold fX4_pass
      rw [needWi_eq, if_neg h2, bndX_inl]
    have hm : fX5_pass N x t = some (0, si t 0 1) := by
      unfold fX5_pass fX5_pass_16
      rw [isIn_eq, if_neg h2, bnd_some, if_pos rfl, wri_n, rdi_n, thr_si, if_neg (by decide)]
    exact ⟨_, _, _, _, q, Q, hc, hm, agr_1, Rel_thr RB'⟩
end Close
