/-! ===== order as a whole ===== -/
section Order2
variable {h h' h1 h2 t t' t1 t2 tt : SH} {q q' v : Nat → Nat → Nat} {Q Q' : Nat → List Nat} {n nt nt' B B' o o' k j a b d m l s i kd p am x9 C : Nat} {x : Int32}
def canB (t : SH) (a s d p am : Nat) : Bool := if d = 0 then !decide (lg_cmp (gL t 1 a - gL t 2 a) ((nI p).toInt64 * (nI am).toInt64) < 0) else !decide (gA t 3 (4 * a + s) - gA t 4 (4 * a + s) < nI am)
theorem canHold_eq (RC : RelC h t) (RH : RelH h t B) (ha : a < 512) (hs : s < 4) (hd : d < 2) : fX1_canHold (nI a) (nI s) (nI d) (nI p) (nI am) h = some ((if canB t a s d p am = true then 1 else 0), h) := by
  obtain ⟨h1, h2, -⟩ := RC.1 a ha
  obtain ⟨i1, i2, -⟩ := RH (4 * a + s) (by omega)
  unfold fX1_canHold fX1_canHold_25 fX1_canHold_58 fX1_freeCash fX1_placeOf canB
  by_cases c : d = 0
  · rw [if_pos (by rw [z_eq (by omega)]; exact c), rdl_n ha, h1, rdl_n ha, h2, bnd_some, if_pos c]
    by_cases z : lg_cmp (gL t 1 a - gL t 2 a) ((nI p).toInt64 * (nI am).toInt64) < 0
    · rw [if_pos z, gdb_0, if_neg (by simp [z])]
    · rw [if_neg z, gdb_1, if_pos (by simp [z])]
  · rw [if_neg (by rw [z_eq (by omega)]; exact c), bnd_some, place_n, rda_n (show 4 * a + s < 2048 by omega), i1, rda_n (show 4 * a + s < 2048 by omega), i2, if_neg c]
    by_cases z : gA t 3 (4 * a + s) - gA t 4 (4 * a + s) < nI am
    · rw [if_pos z, gdb_0, if_neg (by simp [z])]
    · rw [if_neg z, gdb_1, if_pos (by simp [z])]
theorem o201_thr {N : Nat} {x1 x2 x3 x4 x5 x6 x7 v : Int32} (hv : v = 1 ∨ v = 2 ∨ v = 3) (t : SH) : fX5_order_201 N x1 x2 x3 x4 x5 x6 x7 v t = some (0, si t 0 v) := by
  unfold fX5_order_201
  rw [wri_n, rdi_n, thr_si]
  rcases hv with rfl | rfl | rfl <;> rw [if_neg (by decide)]
theorem o87_0 {N : Nat} {x1 x2 x3 x4 x5 x6 x7 t0 : Int32} (t : SH) : fX5_order_87 N x1 x2 x3 x4 x5 x6 x7 0 t0 t = some (0, si t 0 1) := by
  unfold fX5_order_87 fX5_order_169 fX5_order_170
  rw [if_pos rfl, if_pos rfl, o201_thr (.inl rfl)]
theorem o86_1 {N : Nat} {x1 x2 x3 x4 x5 x6 x7 : Int32} (t : SH) : fX5_order_86 N x1 x2 x3 x4 x5 x6 x7 1 t = some (0, si t 0 2) := by
  unfold fX5_order_86 fX5_order_87 fX5_order_169 fX5_order_170
  rw [if_neg one_ne, if_pos rfl, if_neg one_ne, if_pos rfl, o201_thr (.inr (.inl rfl))]
theorem o19_0 {N : Nat} {x1 x2 x3 x4 x5 x6 x7 : Int32} (t : SH) : fX5_order_19 N x1 x2 x3 x4 x5 x6 x7 0 t = some (0, si t 0 1) := by
  unfold fX5_order_19 fX5_order_86 fX5_order_82
  simp only [isIn_eq, bnd_some, o87_0, ite_self]
theorem op_order (N : Nat) (hN : 20000 ≤ N) (R : Rel h t q Q n nt B o) (ho : n ≤ o) (hn1 : n + 1 ≤ 64) (hB : B + 1000000 ≤ 64000000) (x1 x2 x3 x4 x5 x6 x7 : Int32) : ∃ (r : String ⊕ Int32) (h' : SH) (b : Int32) (t' : SH) (q' : Nat → Nat → Nat) (Q' : Nat → List Nat) (n' nt' B' o' : Nat), fX4_order N x1 x2 x3 x4 x5 x6 x7 h = some (r, h') ∧ fX5_order N x1 x2 x3 x4 x5 x6 x7 t = some (b, t') ∧ agr c3 r b t' ∧ Rel h' t' q' Q' n' nt' B' o' ∧ n' ≤ o' ∧ n' ≤ n + 1 ∧ B' ≤ B + 1000000 := by
  -- a refusal
  have ref : ∀ (E : String) (v : Int32), agr c3 (.inl E) (0 : Int32) (si t 0 v) → fX4_order N x1 x2 x3 x4 x5 x6 x7 h = some (.inl E, h) → fX5_order N x1 x2 x3 x4 x5 x6 x7 t = some (0, si t 0 v) → ∃ (r : String ⊕ Int32) (h' : SH) (b : Int32) (t' : SH) (q' : Nat → Nat → Nat) (Q' : Nat → List Nat) (n' nt' B' o' : Nat), fX4_order N x1 x2 x3 x4 x5 x6 x7 h = some (r, h') ∧ fX5_order N x1 x2 x3 x4 x5 x6 x7 t = some (b, t') ∧ agr c3 r b t' ∧ Rel h' t' q' Q' n' nt' B' o' ∧ n' ≤ o' ∧ n' ≤ n + 1 ∧ B' ≤ B + 1000000 :=
    fun E v hA hc hm => ⟨_, _, _, _, q, Q, n, nt, B, o, hc, hm, hA, Rel_thr R, ho, by omega, by omega⟩
  by_cases h1 : 0 ≤ x1 ∧ x1 ≤ 511
  · by_cases h2 : 0 ≤ x2 ∧ x2 ≤ 3
    · have hM0 : fX5_order N x1 x2 x3 x4 x5 x6 x7 t = fX5_order_19 N x1 x2 x3 x4 x5 x6 x7 1 t := by
        unfold fX5_order
        rw [isAcc_eq, if_pos h1, bnd_some, if_neg one_ne, isSym_eq, if_pos h2, bnd_some, if_neg one_ne]
      by_cases h3 : 0 ≤ x3 ∧ x3 ≤ 1
      · by_cases h4 : 0 ≤ x4 ∧ x4 ≤ 5
        · by_cases h5 : 1 ≤ x5 ∧ x5 ≤ 10000
          · by_cases h6 : 1 ≤ x6 ∧ x6 ≤ 10000
            · have hM1 : fX5_order N x1 x2 x3 x4 x5 x6 x7 t = (if x4 < 4 then fX5_order_82 N x1 x2 x3 x4 x5 x6 x7 1 t else bnd (fX5_isIn x7 1 10000 t) fun v10 z9 => if v10 = 0 then fX5_order_86 N x1 x2 x3 x4 x5 x6 x7 1 z9 else fX5_order_82 N x1 x2 x3 x4 x5 x6 x7 1 z9) := by
                rw [hM0]
                unfold fX5_order_19
                rw [isIn_eq, if_pos h3, bnd_some, if_neg one_ne, isIn_eq, if_pos h4, bnd_some, if_neg one_ne, isIn_eq, if_pos h5, bnd_some, if_neg one_ne, isIn_eq, if_pos h6, bnd_some, if_neg one_ne]
              have hC1 : fX4_order N x1 x2 x3 x4 x5 x6 x7 h = (if x4 = 4 then fX4_order_49 N x1 x2 x3 x4 x5 x6 x7 h else if x4 = 5 then fX4_order_49 N x1 x2 x3 x4 x5 x6 x7 h else fX4_order_58 N x1 x2 x3 x4 x5 x6 x7 h) := by
                unfold fX4_order
                rw [needAcc_eq, if_pos h1, bndX_inr, needSym_eq, if_pos h2, bndX_inr, needSide_eq, if_pos h3, bndX_inr, needWi_eq, if_pos h4, bndX_inr, needWi_eq, if_pos h5, bndX_inr, needWi_eq, if_pos h6, bndX_inr]
              obtain ⟨a, -, ha, rfl⟩ := between (a := 0) (b := 511) (by decide) (by decide) h1.1 h1.2
              obtain ⟨s, -, hs, rfl⟩ := between (a := 0) (b := 3) (by decide) (by decide) h2.1 h2.2
              obtain ⟨d, -, hd, rfl⟩ := between (a := 0) (b := 1) (by decide) (by decide) h3.1 h3.2
              obtain ⟨kd, -, hk, rfl⟩ := between (a := 0) (b := 5) (by decide) (by decide) h4.1 h4.2
              obtain ⟨p, hp1, hp, rfl⟩ := between (a := 1) (b := 10000) (by decide) (by decide) h5.1 h5.2
              obtain ⟨am, ham1, ham, rfl⟩ := between (a := 1) (b := 10000) (by decide) (by decide) h6.1 h6.2
              have k4 : (nI kd < 4) = (kd < 4) := by rw [show (4 : Int32) = nI 4 by decide]; exact nI_lt' (by omega) (by decide)
              have k4' : (nI kd = 4) = (kd = 4) := by rw [show (4 : Int32) = nI 4 by decide]; exact nI_eq' (by omega) (by decide)
              have k5' : (nI kd = 5) = (kd = 5) := by rw [show (5 : Int32) = nI 5 by decide]; exact nI_eq' (by omega) (by decide)
              -- all numbers are as said
              have main : ((kd = 4 ∨ kd = 5) → 1 ≤ x7 ∧ x7 ≤ 10000) → fX4_order N (nI a) (nI s) (nI d) (nI kd) (nI p) (nI am) x7 h = fX4_order_58 N (nI a) (nI s) (nI d) (nI kd) (nI p) (nI am) x7 h → fX5_order N (nI a) (nI s) (nI d) (nI kd) (nI p) (nI am) x7 t = fX5_order_82 N (nI a) (nI s) (nI d) (nI kd) (nI p) (nI am) x7 1 t → ∃ (r : String ⊕ Int32) (h' : SH) (b : Int32) (t' : SH) (q' : Nat → Nat → Nat) (Q' : Nat → List Nat) (n' nt' B' o' : Nat), fX4_order N (nI a) (nI s) (nI d) (nI kd) (nI p) (nI am) x7 h = some (r, h') ∧ fX5_order N (nI a) (nI s) (nI d) (nI kd) (nI p) (nI am) x7 t = some (b, t') ∧ agr c3 r b t' ∧ Rel h' t' q' Q' n' nt' B' o' ∧ n' ≤ o' ∧ n' ≤ n + 1 ∧ B' ≤ B + 1000000 := fun hx hC hM => by
                have hcan := canHold_eq (p := p) (am := am) R.2.1 R.2.2.1 (show a < 512 by omega) (show s < 4 by omega) (show d < 2 by omega)
                have hthere := there_eq R N hN
                have hcl : cnt (fun k => decide (q 7 k = 0 ∨ q 7 k = 1)) n ≤ n := cnt_le _ _
                have hcl2 : cnt (isThereQ q o) n ≤ n := cnt_le _ _
                have hM2 : fX5_order_82 N (nI a) (nI s) (nI d) (nI kd) (nI p) (nI am) x7 1 t = fX5_order_201 N (nI a) (nI s) (nI d) (nI kd) (nI p) (nI am) x7 (if canB t a s d p am = true then 0 else 3) t := by
                  have n169 : fX5_order_169 N (nI a) (nI s) (nI d) (nI kd) (nI p) (nI am) x7 1 1 t = fX5_order_201 N (nI a) (nI s) (nI d) (nI kd) (nI p) (nI am) x7 3 t := by
                    unfold fX5_order_169 fX5_order_170
                    rw [if_neg one_ne, if_neg one_ne, if_pos rfl]
                  have n165 : fX5_order_165 N (nI a) (nI s) (nI d) (nI kd) (nI p) (nI am) x7 1 1 t = fX5_order_201 N (nI a) (nI s) (nI d) (nI kd) (nI p) (nI am) x7 0 t := by
                    unfold fX5_order_165 fX5_order_170
                    rw [if_neg one_ne, if_neg one_ne, if_neg one_ne]
                  have h100 : ¬ (100 : Int32) ≤ nI (cnt (fun k => decide (q 7 k = 0 ∨ q 7 k = 1)) n) := by rw [show (100 : Int32) = nI 100 by decide]; exact nI_ge (by omega) (by omega)
                  unfold fX5_order_82 fX5_order_87 canB fX5_cell
                  rw [if_neg one_ne, if_neg one_ne, hthere, bnd_some, if_neg h100]
                  by_cases c : d = 0
                  · rw [if_pos (by rw [z_eq (by omega)]; exact c), rdl_n (show a < 512 by omega), rdl_n (show a < 512 by omega), if_pos c]
                    by_cases z : lg_cmp (gL t 1 a - gL t 2 a) ((nI p).toInt64 * (nI am).toInt64) < 0
                    · rw [if_pos z, n169, if_neg (by simp [z])]
                    · rw [if_neg z, n165, if_pos (by simp [z])]
                  · rw [if_neg (by rw [z_eq (by omega)]; exact c), bnd_some, cell_n, rda_n (show 4 * a + s < 2048 by omega), bnd_some, rda_n (show 4 * a + s < 2048 by omega), if_neg c]
                    by_cases z : gA t 3 (4 * a + s) - gA t 4 (4 * a + s) < nI am
                    · rw [if_pos z, n169, if_neg (by simp [z])]
                    · rw [if_neg z, n165, if_pos (by simp [z])]
                rw [hM2] at hM
                by_cases cc : canB t a s d p am = true
                · rw [if_pos cc] at hM
                  obtain ⟨C, hCd⟩ : ∃ C, C = cnt (isThereQ q o) n := ⟨_, rfl⟩
                  obtain ⟨x9, hx9⟩ : ∃ x9 : Nat, (kd = 4 ∨ kd = 5) → x7 = nI x9 ∧ 1 ≤ x9 ∧ x9 ≤ 10000 := by
                    by_cases z : kd = 4 ∨ kd = 5
                    · obtain ⟨x9, y1, y2, y3⟩ := between (a := 1) (b := 10000) (by decide) (by decide) (hx z).1 (hx z).2
                      exact ⟨x9, fun _ => ⟨y3, y1, y2⟩⟩
                    · exact ⟨0, fun y => absurd y z⟩
                  have R1 := Rel_take (a := a) (s := s) (d := d) (kd := kd) (p := p) (am := am) (x9 := x9) (x := x7) (C := C) (Rel_thr (v := 0) R) ho hn1 (by omega) (by omega) (by omega) hk ⟨hp1, hp⟩ ⟨ham1, ham⟩ hx9 hCd
                  have g3 : gi h 3 = nI C := by rw [hCd]; exact R.2.2.2.2.2.2
                  have hn := R.1.1
                  have A5 : At5 (tkH h n a s d kd p am C x7) (tkM (si t 0 0) n a s d kd p am x7) (nq q n a s d kd p am x9) n := by
                    obtain ⟨w0, w1, w2, w3, w4⟩ := (R1.2.2.2.2.1).at5 (by omega) (show n < n + 1 by omega)
                    rw [Sm_hldH.1 12 n (by decide), Sm_hldM.1 8 n (by decide)] at w1
                    rw [Sm_hldH.1 13 n (by decide), Sm_hldM.1 9 n (by decide)] at w2
                    rw [Sm_hldH.1 14 n (by decide), Sm_hldM.1 10 n (by decide)] at w3
                    rw [Sm_hldH.1 16 n (by decide), Sm_hldM.1 12 n (by decide)] at w4
                    exact ⟨w0, w1, w2, w3, w4⟩
                  have b64 : bdg 64 = 650065 := by unfold bdg; decide
                  obtain ⟨h', t', q', Q', nt', B', y1, y2, y3, y4, y5⟩ := order_loop (n := n + 1) (s := s) N hN (by omega) (nI n) 64 _ _ _ Q nt B n 0 N N (Nat.le_trans (cnt_le _ _) (by omega)) R1 (by omega) (by rw [nq_n]; exact ham1) (by omega) (by omega) (by omega) (by omega)
                  refine ⟨.inr (nI n), h', nI n, t', q', Q', n + 1, nt', B', n + 1, ?_, ?_, ⟨?_, rfl⟩, y3, Nat.le_refl _, Nat.le_refl _, by omega⟩
                  · rw [hC]
                    unfold fX4_order_58
                    have h100 : ¬ (100 : Int32) ≤ nI C := by rw [show (100 : Int32) = nI 100 by decide]; exact nI_ge (by omega) (by omega)
                    have h512 : nI n < (512 : Int32) := by rw [show (512 : Int32) = nI 512 by decide]; exact nI_lt (by omega) (by decide)
                    rw [hcan, bnd_some, if_pos cc, if_neg one_ne, rdi_n, g3, if_neg h100, rdi_n, R.1.2.2.1, if_pos h512, take_eq R.1.2.2.1 g3 (by omega), bnd_some, hold_eq A5, bnd_some]
                    exact y1
                  · rw [hM]
                    unfold fX5_order_201
                    have hn6 : n < 520 := by omega
                    have g2' : gi (si t 0 0) 2 = nI n := R.1.2.2.2.1
                    rw [wri_n, rdi_n, thr_si, if_pos (by decide), rdi_n, rdi_n, g2', nI_1, wri_n, wra_n hn6, wra_n hn6, wra_n hn6, wra_n hn6, wra_n hn6, wra_n hn6, wra_n hn6, wra_n hn6]
                    have e := free_eq A5 (-nI am)
                    unfold tkM at e
                    rw [e, bnd_some]
                    exact y2
                  · rw [y5, Sm_hldM.2.1 _ (by decide), Sm_tkM.2.1 _ (by decide)]
                    rfl
                · rw [if_neg cc, o201_thr (.inr (.inr rfl))] at hM
                  refine ⟨_, _, _, _, q, Q, n, nt, B, o, ?_, hM, agr_s, Rel_thr R, ho, by omega, by omega⟩
                  · rw [hC]
                    unfold fX4_order_58
                    rw [hcan, bnd_some, if_neg cc, if_pos rfl]
                    rfl
              by_cases hk4 : kd < 4
              · refine main (fun z => by omega) ?_ ?_
                · rw [hC1, if_neg (by rw [k4']; omega), if_neg (by rw [k5']; omega)]
                · rw [hM1, if_pos (by rw [k4]; exact hk4)]
              · have hC2 : fX4_order N (nI a) (nI s) (nI d) (nI kd) (nI p) (nI am) x7 h = fX4_order_49 N (nI a) (nI s) (nI d) (nI kd) (nI p) (nI am) x7 h := by
                  rw [hC1]
                  by_cases z : kd = 4
                  · rw [if_pos (by rw [k4']; exact z)]
                  · rw [if_neg (by rw [k4']; exact z), if_pos (by rw [k5']; omega)]
                rw [if_neg (by rw [k4]; exact hk4)] at hM1
                by_cases h7 : 1 ≤ x7 ∧ x7 ≤ 10000
                · refine main (fun _ => h7) ?_ ?_
                  · rw [hC2]
                    unfold fX4_order_49
                    rw [needWi_eq, if_pos h7, bndX_inr]
                  · rw [hM1, isIn_eq, if_pos h7, bnd_some, if_neg one_ne]
                · refine ref eArg 2 agr_a ?_ ?_
                  · rw [hC2]
                    unfold fX4_order_49
                    rw [needWi_eq, if_neg h7, bndX_inl]
                  · rw [hM1, isIn_eq, if_neg h7, bnd_some, if_pos rfl, o86_1]
            · refine ref eArg 2 agr_a ?_ ?_
              · unfold fX4_order
                rw [needAcc_eq, if_pos h1, bndX_inr, needSym_eq, if_pos h2, bndX_inr, needSide_eq, if_pos h3, bndX_inr, needWi_eq, if_pos h4, bndX_inr, needWi_eq, if_pos h5, bndX_inr, needWi_eq, if_neg h6, bndX_inl]
              · rw [hM0]
                unfold fX5_order_19
                rw [isIn_eq, if_pos h3, bnd_some, if_neg one_ne, isIn_eq, if_pos h4, bnd_some, if_neg one_ne, isIn_eq, if_pos h5, bnd_some, if_neg one_ne, isIn_eq, if_neg h6, bnd_some, if_pos rfl, o86_1]
          · refine ref eArg 2 agr_a ?_ ?_
            · unfold fX4_order
              rw [needAcc_eq, if_pos h1, bndX_inr, needSym_eq, if_pos h2, bndX_inr, needSide_eq, if_pos h3, bndX_inr, needWi_eq, if_pos h4, bndX_inr, needWi_eq, if_neg h5, bndX_inl]
            · rw [hM0]
              unfold fX5_order_19
              rw [isIn_eq, if_pos h3, bnd_some, if_neg one_ne, isIn_eq, if_pos h4, bnd_some, if_neg one_ne, isIn_eq, if_neg h5, bnd_some, if_pos rfl, o86_1]
        · refine ref eArg 2 agr_a ?_ ?_
          · unfold fX4_order
            rw [needAcc_eq, if_pos h1, bndX_inr, needSym_eq, if_pos h2, bndX_inr, needSide_eq, if_pos h3, bndX_inr, needWi_eq, if_neg h4, bndX_inl]
          · rw [hM0]
            unfold fX5_order_19
            rw [isIn_eq, if_pos h3, bnd_some, if_neg one_ne, isIn_eq, if_neg h4, bnd_some, if_pos rfl, o86_1]
      · refine ref eArg 2 agr_a ?_ ?_
        · unfold fX4_order
          rw [needAcc_eq, if_pos h1, bndX_inr, needSym_eq, if_pos h2, bndX_inr, needSide_eq, if_neg h3, bndX_inl]
        · rw [hM0]
          unfold fX5_order_19
          rw [isIn_eq, if_neg h3, bnd_some, if_pos rfl, o86_1]
    · refine ref eIdx 1 agr_i ?_ ?_
      · unfold fX4_order
        rw [needAcc_eq, if_pos h1, bndX_inr, needSym_eq, if_neg h2, bndX_inl]
      · unfold fX5_order fX5_order_18
        rw [isAcc_eq, if_pos h1, bnd_some, if_neg one_ne, isSym_eq, if_neg h2, bnd_some, if_pos rfl, o19_0]
  · refine ref eIdx 1 agr_i ?_ ?_
    · unfold fX4_order
      rw [needAcc_eq, if_neg h1, bndX_inl]
    · unfold fX5_order fX5_order_18
      rw [isAcc_eq, if_neg h1, bnd_some, if_pos rfl, o19_0]
end Order2
