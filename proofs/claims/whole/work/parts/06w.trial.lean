/-! ===== the trial's rounds ===== -/
theorem Sm.mono {h h' : SH} {A A' I I' L L' : List Nat} (S : Sm h h' A I L) (hA : ∀ x, x ∈ A → x ∈ A') (hI : ∀ x, x ∈ I → x ∈ I') (hL : ∀ x, x ∈ L → x ∈ L') : Sm h h' A' I' L' :=
  ⟨fun k j hk => S.1 k j (fun z => hk (hA k z)), fun k hk => S.2.1 k (fun z => hk (hI k z)), fun k j hk => S.2.2 k j (fun z => hk (hL k z))⟩
section Trial2
variable {h h' h1 h2 t t' t1 t2 tt : SH} {q q' v : Nat → Nat → Nat} {Q Q' : Nat → List Nat} {n nt nt' B B' o o' k j a b d u y5 x5 x6 x7 x8 : Nat} {s : Option Nat}
/-- the trial's numbers after a round -/
theorem Try_tq {tt' : SH} {u' : Nat} (T : Try q o b n tt v u) (hj : j < n) (hne : j ≠ o) (hjb : inBook q b j = true) (hu : u ≤ u') (hr : ∀ r i, i ≠ j → gA tt' r i = gA tt r i) (e20 : gA tt' 20 j = nI x5) (h5 : x5 ≤ 10000) (h7 : x7 = 0 ↔ 0 < x5)
    (hx : 0 < x5 → gA tt' 21 j = nI x6 ∧ gA tt' 22 j = nI x8 ∧ 1 ≤ x6 ∧ x6 ≤ x5 ∧ (q 3 j ≠ 4 → x6 = x5) ∧ x8 < u') (hnj : inBook q b o = false) : Try q o b n tt' (tq v o j y5 x5 x6 x7 x8) u' := by
  obtain ⟨T1, T2, T3, T4⟩ := T
  refine ⟨fun f k hf => ?_, by rw [tq_o (by decide)]; exact T2, fun k hk hkb => ?_, fun k hk hkb => ?_⟩
  · rw [← T1 f k hf]
    exact tq_f (by omega) (by omega) (by omega) (by omega)
  · by_cases c : k = j
    · subst c
      rw [tq_j5 hne, tq_j6 hne, tq_j7 hne, tq_j8 hne]
      exact ⟨e20, h5, h7, hx⟩
    · have c2 : k ≠ o := fun z => by subst z; rw [hnj] at hkb; cases hkb
      rw [tq_k c2 c, tq_k c2 c, tq_k c2 c, tq_k c2 c, hr 20 k c, hr 21 k c, hr 22 k c]
      obtain ⟨w1, w2, w3, w4⟩ := T3 k hk hkb
      refine ⟨w1, w2, w3, fun z => ?_⟩
      obtain ⟨z1, z2, z3, z4, z5, z6⟩ := w4 z
      exact ⟨z1, z2, z3, z4, z5, by omega⟩
  · have c : k ≠ j := fun z => by subst z; rw [hjb] at hkb; cases hkb
    rw [inBook_tq hne T2 c]
    exact T4 k hk hkb
theorem stp_v (T : Try q o b n tt v u) : stp v o k = stp q o k := by
  unfold stp alw
  rw [T.1 0 _ (by simp), T.1 0 _ (by simp), T.1 2 _ (by simp), T.1 4 _ (by simp), T.1 4 _ (by simp)]
theorem trial_loop (RO : RelO h t q n nt o) (hn : n ≤ 64) (g2 : gi t 2 = nI n) (ho : o < n) (hb : b = 2 * q 1 o + (1 - q 2 o)) (hd : d = 1 - q 2 o) (ho7 : q 7 o = 3) (N : Nat) (hN : 20000 ≤ N) :
    ∀ (m : Nat) (tt : SH) (v : Nat → Nat → Nat) (u fu : Nat), Try q o b n tt v u → Sm t tt [20, 21, 22] [] [] → InvS v o b d n s → (∀ s', s = some s' → ∀ k, k < n → inBook v b k = true → k ≠ s' → qlt v d k s' = true ∨ qlt v d s' k = true) → m ≤ 10000 → u + m < 2 ^ 31 → m < fu →
    ∃ tt', fX5_wouldTrade_64_L N fu (nI o) (nI m) (nI u) tt = some ((if m ≤ av v d s b n then 1 else 0), tt') ∧ Sm t tt' [20, 21, 22] [] [] := by
  intro m
  induction m using Nat.strongRecOn with
  | _ m ih =>
    intro tt v u fu T S I D hm hu hf
    obtain ⟨fu', rfl⟩ : ∃ f, fu = f + 1 := ⟨fu - 1, by omega⟩
    show ∃ tt', fX5_wouldTrade_64 N (fX5_wouldTrade_64_L N fu') _ _ _ tt = _ ∧ _
    unfold fX5_wouldTrade_64
    by_cases c0 : m = 0
    · refine ⟨tt, ?_, S⟩
      rw [if_pos (by rw [le0_n (by omega)]; exact c0), gdb_1, if_pos (by omega)]
    · have hm0 : ¬ nI m ≤ 0 := by rw [le0_n (by omega)]; exact c0
      have hin := trial_in RO hn g2 ho hb hd T (by omega) S N (fX5_wouldTrade_64_L N fu') (nI m) (nI u) N 0 (by omega) (by omega)
      rw [show enc (bst (inBook v b) (qlt v d) 0) = -1 from rfl, nI_0] at hin
      rw [if_neg hm0, hin]
      have RO' : RelO h tt q n nt o := RO.t_ S (by decide)
      have Ao := RO'.at5 hn ho
      have g2' : gi tt 2 = nI n := by rw [S.2.1 _ (by decide)]; exact g2
      have ho6 : o < 520 := by omega
      unfold fX5_wouldTrade_74
      rw [rdi_n, g2', if_pos (nI_le (Nat.le_refl _) (by omega))]
      have hbm := bst_min (p := inBook v b) (lt := qlt v d) (fun _ => qlt_irr) (fun _ _ _ => qlt_tr) (n := n)
      cases hbs : bst (inBook v b) (qlt v d) n with
      | none =>
        rw [hbs] at hbm
        simp only at hbm
        refine ⟨tt, ?_, S⟩
        have : av v d s b n = 0 := smm_zero (fun k hk => by rw [if_neg (by rw [hbm k hk]; decide)])
        unfold fX5_wouldTrade_237
        rw [if_pos enc_none, gdb_0, if_neg (by omega)]
      | some j =>
        rw [hbs] at hbm
        simp only at hbm
        obtain ⟨j1, j2, j3⟩ := hbm
        have hjb : inBook q b j = true ∧ 0 < v 5 j := by
          have := j2
          rw [try_in T j1] at this
          simpa using this
        have hjm : ¬ nI j = -1 := nI_nem1 (by omega)
        have Aj := RO'.at5 hn j1
        have hj6 : j < 520 := by omega
        have hne : j ≠ o := fun z => by subst z; have := hjb.1; rw [inBook_o ho7] at this; cases this
        obtain ⟨w20, w5, w7, w4⟩ := T.2.2.1 j j1 hjb.1
        obtain ⟨w21, w22, w6, w65, w3, w8⟩ := w4 hjb.2
        have hstop : stp v o j = true → av v d s b n = 0 := fun hs => by
          refine smm_zero (fun k hk => ?_)
          by_cases c : inBook v b k = true
          · rw [if_pos c]
            cases s with
            | none => rw [I.1 rfl j j1 j2] at hs; cases hs
            | some s' =>
              obtain ⟨i1, i2, i3, i4⟩ := I.2 s' rfl
              have e : j = s' := by
                rcases i4 j j1 j2 hs with e | e
                · exact e
                · rw [j3 s' i1 i2] at e; cases e
              subst e
              exact trm_0 (j3 k hk c)
          · rw [if_neg c]
        rw [enc_some, if_neg hjm, allowM_eq Ao Aj, bnd_some]
        by_cases ca : alw q o j = true
        · rw [if_pos ca, if_neg one_ne, rda_n hj6, Aj.2.1.2.1, rda_n ho6, Ao.2.1.2.1]
          by_cases cc : q 0 j = q 0 o
          · refine ⟨tt, ?_, S⟩
            have := hstop (by rw [stp_v T]; unfold stp; simp [cc])
            unfold fX5_wouldTrade_237
            rw [if_pos (by rw [cc]), gdb_0, if_neg (by omega)]
          · have hcc : ¬ nI (q 0 j) = nI (q 0 o) := fun z => cc (nI_inj (by have := Aj.2.1.2.2; omega) (by have := Ao.2.1.2.2; omega) z)
            have hns : stp v o j = false := by rw [stp_v T]; unfold stp; simp [ca, cc]
            obtain ⟨a, ha⟩ : ∃ a, a = if v 6 j ≤ m then v 6 j else m := ⟨_, rfl⟩
            have ha1 : 1 ≤ a ∧ a ≤ m ∧ a ≤ v 6 j := by rw [ha]; split <;> omega
            have hA : ∀ x1, (if nI (v 6 j) ≤ nI m then (rda tt 21 520 (nI j) fun v7 => fX5_wouldTrade_261 N (fX5_wouldTrade_64_L N fu') x1 (nI m) (nI u) (nI j) v7 tt) else fX5_wouldTrade_261 N (fX5_wouldTrade_64_L N fu') x1 (nI m) (nI u) (nI j) (nI m) tt) = fX5_wouldTrade_261 N (fX5_wouldTrade_64_L N fu') x1 (nI m) (nI u) (nI j) (nI a) tt := by
              intro x1
              by_cases z : v 6 j ≤ m
              · rw [if_pos (nI_le z (by omega)), rda_n hj6, w21, ha, if_pos z]
              · rw [if_neg (nI_ge (by omega) (by omega)), ha, if_neg z]
            rw [if_neg hcc, rda_n hj6, w21, hA]
            have hsf : ∀ s', s = some s' → s' ≠ j ∧ s' ≠ o ∧ qlt v d j s' = true ∧ v 8 s' < u := fun s' hs' => by
              obtain ⟨i1, i2, i3, i4⟩ := I.2 s' hs'
              have w1 : s' ≠ j := fun z => by subst z; rw [hns] at i3; cases i3
              have hsb : inBook q b s' = true ∧ 0 < v 5 s' := by
                have := i2
                rw [try_in T i1] at this
                simpa using this
              refine ⟨w1, (fun z => by subst z; have := hsb.1; rw [inBook_o ho7] at this; cases this), ?_, ?_⟩
              · rcases D s' hs' j j1 j2 (fun z => w1 z.symm) with e | e
                · exact e
                · rw [j3 s' i1 i2] at e; cases e
              · obtain ⟨-, -, -, y4⟩ := T.2.2.1 s' i1 hsb.1
                exact (y4 hsb.2).2.2.2.2.2
            have hno : inBook q b o = false := inBook_o ho7
            obtain ⟨t1, ht1⟩ : ∃ t1, t1 = mA (mA tt 20 j (nI a)) 21 j (nI a) := ⟨_, rfl⟩
            have S1 : Sm t t1 [20, 21, 22] [] [] := by rw [ht1]; exact ((S.tr Sm_mA).tr Sm_mA).mono (by decide) (by decide) (by decide)
            have e20 : gA t1 20 j = nI (v 5 j - a) := by rw [ht1, gA_mA, if_neg (by omega), gA_mA, if_pos ⟨rfl, rfl⟩, w20, pk_sub (by omega)]
            have e21 : gA t1 21 j = nI (v 6 j - a) := by rw [ht1, gA_mA, if_pos ⟨rfl, rfl⟩, gA_mA, if_neg (by omega), w21, pk_sub (by omega)]
            have e22 : gA t1 22 j = nI (v 8 j) := by rw [ht1, gA_mA, if_neg (by omega), gA_mA, if_neg (by omega), w22]
            have er : ∀ r i, i ≠ j → gA t1 r i = gA tt r i := fun r i hi => by rw [ht1, gA_mA, if_neg (fun z => hi z.2), gA_mA, if_neg (fun z => hi z.2)]
            have hsub : (nI m - nI a : Int32) = nI (m - a) := pk_sub (by omega)
            -- going on
            have go : ∀ (tt' : SH) (x5 x6 x7 x8 u' : Nat), Try q o b n tt' (tq v o j (v 5 o) x5 x6 x7 x8) u' → Sm t tt' [20, 21, 22] [] [] → x5 = v 5 j - a → ((x7 = 0 ∧ x8 = v 8 j ∧ x6 = v 6 j - a) ∨ (x7 = 2 ∧ x5 = 0) ∨ (x7 = 0 ∧ x8 = u ∧ a = v 6 j)) → u' ≤ u + 1 →
                ∃ tt'', fX5_wouldTrade_64_L N fu' (nI o) (nI (m - a)) (nI u') tt' = some ((if m ≤ av v d s b n then 1 else 0), tt'') ∧ Sm t tt'' [20, 21, 22] [] [] := by
              intro tt' x5 x6 x7 x8 u' T' S' hx5 hx hu'
              have hav := av_step (y5 := v 5 o) (x5 := x5) (x6 := x6) (x7 := x7) (x8 := x8) (nt := u) j1 hne T.2.1 j2 ha1.2.2 w65 hx5 hx hsf
              obtain ⟨tt'', k1, k2⟩ := ih (m - a) (by omega) tt' _ u' fu' T' S' (InvS_tq hne T.2.1 hns j2 I) (fun s' hs' k hk hkb hks => by
                obtain ⟨y1, y2, y3, y4⟩ := hsf s' hs'
                by_cases c : k = j
                · subst c
                  rcases hx with ⟨z1, z2, z3⟩ | ⟨z1, z2⟩ | ⟨z1, z2, z3⟩
                  · left
                    rw [qlt_congr (q := v) (tq_f (by decide) (by decide) (by decide) (by decide)) (tq_f (by decide) (by decide) (by decide) (by decide)) (by rw [tq_j8 hne]; exact z2) (tq_8n y1)]
                    exact y3
                  · rw [inBook_tqj hne, z1] at hkb
                    simp at hkb
                  · by_cases cp : v 4 k = v 4 s'
                    · right
                      unfold qlt
                      rw [tq_j8 hne, tq_8n y1, tq_f (f := 4) (by decide) (by decide) (by decide) (by decide), tq_f (f := 4) (by decide) (by decide) (by decide) (by decide), cp, z2]
                      simp [y4]
                    · unfold qlt
                      rw [qbet_N, qbet_N, tq_f (f := 4) (by decide) (by decide) (by decide) (by decide), tq_f (f := 4) (by decide) (by decide) (by decide) (by decide)]
                      rcases betN_tot (d := d) cp with e | e
                      · left; simp [e]
                      · right; simp [e]
                · rw [inBook_tq hne T.2.1 c] at hkb
                  rw [qlt_tq c y1, qlt_tq y1 c]
                  exact D s' hs' k hk hkb hks) (by omega) (by omega) (by omega)
              refine ⟨tt'', ?_, k2⟩
              rw [k1]
              congr 2
              by_cases z : m - a ≤ av (tq v o j (v 5 o) x5 x6 x7 x8) d s b n
              · rw [if_pos z, if_pos (by omega)]
              · rw [if_neg z, if_neg (by omega)]
            unfold fX5_wouldTrade_261 fX5_wouldTrade_354
            rw [mA_n hj6, mA_n hj6, ← ht1, rda_n hj6, e21, hsub]
            by_cases cA : v 6 j - a = 0
            · rw [if_pos (by rw [z_eq (by omega)]; exact cA), rda_n hj6, e20, rda_n hj6]
              have hE : ∀ y, gA t1 15 y = gA t 15 y := fun y => S1.1 15 y (by decide)
              have h342 : ∀ x, fX5_wouldTrade_342 N (fX5_wouldTrade_64_L N fu') (nI o) (nI (m - a)) (nI u) (nI j) x (nI j) t1 = fX5_wouldTrade_64_L N fu' (nI o) (nI (m - a)) (nI (u + 1)) (uA (uA t1 21 j x) 22 j (nI u)) := by
                intro x
                unfold fX5_wouldTrade_342 fX5_wouldTrade_354
                rw [wra_n hj6, wra_n hj6, nI_1]
              have S2 : ∀ x, Sm t (uA (uA t1 21 j x) 22 j (nI u)) [20, 21, 22] [] [] := fun x => ((S1.tr Sm_uA).tr Sm_uA).mono (by decide) (by decide) (by decide)
              have f20 : ∀ x, gA (uA (uA t1 21 j x) 22 j (nI u)) 20 j = nI (v 5 j - a) := fun x => by rw [gA_uA_nk (by decide), gA_uA_nk (by decide), e20]
              have f21 : ∀ x, gA (uA (uA t1 21 j x) 22 j (nI u)) 21 j = x := fun x => by rw [gA_uA_nk (by decide), gA_uA_eq]
              have f22 : ∀ x, gA (uA (uA t1 21 j x) 22 j (nI u)) 22 j = nI u := fun x => by rw [gA_uA_eq]
              have fr : ∀ x r i, i ≠ j → gA (uA (uA t1 21 j x) 22 j (nI u)) r i = gA tt r i := fun x r i hi => by rw [gA_uA_ne hi, gA_uA_ne hi, er r i hi]
              by_cases cB : v 5 j - a = 0
              · have fin : ∀ x, ∃ tt'', fX5_wouldTrade_64_L N fu' (nI o) (nI (m - a)) (nI (u + 1)) (uA (uA t1 21 j x) 22 j (nI u)) = some ((if m ≤ av v d s b n then 1 else 0), tt'') ∧ Sm t tt'' [20, 21, 22] [] [] := fun x =>
                  go _ 0 0 2 u (u + 1) (Try_tq T j1 hne hjb.1 (by omega) (fr x) (by rw [f20, cB]) (by omega) (by omega) (fun z => by omega) hno) (S2 x) cB.symm (.inr (.inl ⟨rfl, rfl⟩)) (Nat.le_refl _)
                by_cases z : gA t1 15 j ≤ nI (v 5 j - a)
                · rw [if_pos z, rda_n hj6, h342]
                  exact fin _
                · rw [if_neg z, rda_n hj6, e20, h342]
                  exact fin _
              · have k4 : q 3 j = 4 := by
                  by_cases z : q 3 j = 4
                  · exact z
                  · have := w3 z
                    omega
                obtain ⟨-, -, -, -, -, -, -, -, ⟨-, x2⟩, -⟩ := RO j j1
                obtain ⟨x9, y9, z9⟩ := x2 (.inl k4)
                obtain ⟨m9, hm9⟩ : ∃ m9, m9 = if q 9 j ≤ v 5 j - a then q 9 j else v 5 j - a := ⟨_, rfl⟩
                have hm1 : 1 ≤ m9 ∧ m9 ≤ v 5 j - a := by rw [hm9]; split <;> omega
                have fin := go _ (v 5 j - a) m9 0 u (u + 1) (Try_tq T j1 hne hjb.1 (by omega) (fr (nI m9)) (f20 _) (by omega) (by omega) (fun z => ⟨f21 _, f22 _, hm1.1, hm1.2, fun y => absurd k4 y, by omega⟩) hno) (S2 _) rfl (.inr (.inr ⟨rfl, rfl, by omega⟩)) (Nat.le_refl _)
                rw [hE, x9]
                by_cases z : q 9 j ≤ v 5 j - a
                · rw [if_pos (nI_le z (by omega)), rda_n hj6, hE, x9, h342, show nI (q 9 j) = nI m9 by rw [hm9, if_pos z]]
                  exact fin
                · rw [if_neg (nI_ge (by omega) (by omega)), rda_n hj6, e20, h342, show nI (v 5 j - a) = nI m9 by rw [hm9, if_neg z]]
                  exact fin
            · rw [if_neg (by rw [z_eq (by omega)]; exact cA)]
              exact go t1 (v 5 j - a) (v 6 j - a) 0 (v 8 j) u (Try_tq T j1 hne hjb.1 (Nat.le_refl _) er e20 (by omega) (by omega) (fun z => ⟨e21, e22, by omega, by omega, fun y => by have := w3 y; omega, w8⟩) hno) S1 rfl (.inl ⟨rfl, rfl, rfl⟩) (by omega)
        · refine ⟨tt, ?_, S⟩
          have := hstop (by rw [stp_v T]; unfold stp; simp [ca])
          unfold fX5_wouldTrade_237
          rw [if_neg ca, if_pos rfl, gdb_0, if_neg (by omega)]
theorem copy_loop (RO : RelO h t q n nt o) (hn : n ≤ 64) (g2 : gi t 2 = nI n) (g3 : gi t 3 = nI nt) (ho : o < n) (N : Nat) : ∀ (fu k : Nat) (tt : SH), k ≤ n → n - k < fu → Sm t tt [20, 21, 22] [] [] → (∀ i, i < k → gA tt 20 i = gA t 13 i ∧ gA tt 21 i = gA t 14 i ∧ gA tt 22 i = gA t 19 i) →
    ∃ tt', fX5_wouldTrade_2_L N fu (nI o) (nI k) tt = fX5_wouldTrade_64_L N N (nI o) (nI (q 5 o)) (nI nt) tt' ∧ Sm t tt' [20, 21, 22] [] [] ∧ ∀ i, i < n → gA tt' 20 i = gA t 13 i ∧ gA tt' 21 i = gA t 14 i ∧ gA tt' 22 i = gA t 19 i := by
  intro fu
  induction fu with
  | zero => intro k tt _ hf; omega
  | succ fu ih =>
    intro k tt hk hf S H
    show ∃ tt', fX5_wouldTrade_2 N (fX5_wouldTrade_2_L N fu) _ _ tt = _ ∧ _
    unfold fX5_wouldTrade_2
    rw [rdi_n, S.2.1 2 (by decide), g2]
    by_cases c : n ≤ k
    · have : k = n := by omega
      subst this
      refine ⟨tt, ?_, S, H⟩
      rw [if_pos (nI_le (Nat.le_refl _) (by omega)), rda_n (show o < 520 by omega), S.1 13 o (by decide), (RO.five ho).2, rdi_n, S.2.1 3 (by decide), g3]
    · have hk6 : k < 520 := by omega
      rw [if_neg (nI_ge (by omega) (by omega)), rda_n hk6, wra_n hk6, rda_n hk6, wra_n hk6, rda_n hk6, wra_n hk6, nI_1]
      refine ih (k + 1) _ (by omega) (by omega) ((((S.tr Sm_uA).tr Sm_uA).tr Sm_uA).mono (by decide) (by decide) (by decide)) (fun i hi => ?_)
      by_cases e : i = k
      · subst e
        rw [gA_uA_nk (by decide), gA_uA_nk (by decide), gA_uA_eq, gA_uA_nk (by decide), gA_uA_eq, gA_uA_eq, gA_uA_nk (by decide), gA_uA_nk (by decide), gA_uA_nk (by decide)]
        exact ⟨S.1 13 _ (by decide), S.1 14 _ (by decide), S.1 19 _ (by decide)⟩
      · rw [gA_uA_ne e, gA_uA_ne e, gA_uA_ne e, gA_uA_ne e, gA_uA_ne e, gA_uA_ne e, gA_uA_ne e, gA_uA_ne e, gA_uA_ne e]
        exact H i (by omega)
theorem trial_eq (R : Rel h t q Q n nt B o) (ho : o < n) (N : Nat) (hN : 20000 ≤ N) : ∃ tt, fX5_wouldTrade N (nI o) t = some ((if q 5 o ≤ av q (1 - q 2 o) ((Q (2 * q 1 o + (1 - q 2 o))).find? (stp q o)) (2 * q 1 o + (1 - q 2 o)) n then 1 else 0), tt) ∧ Sm t tt [20, 21, 22] [] [] := by
  obtain ⟨b, hb⟩ : ∃ b, b = 2 * q 1 o + (1 - q 2 o) := ⟨_, rfl⟩
  obtain ⟨⟨hn, hB0, g1, g2, g3, g4, -⟩, RC, RH, RP, RO, RB, RT⟩ := R
  have Ao := RO.at5 hn ho
  have ob' := Ao.2.2.1.2.2
  have oc' := Ao.2.2.2.1.2.2
  obtain ⟨-, -, -, -, -, ⟨l1, l2, l3⟩, -, -, -, -, -, -, -, -, o14⟩ := RO o ho
  have o7 := o14 rfl
  have hb8 : b < 8 := by omega
  have hbd : b % 2 = 1 - q 2 o := by omega
  obtain ⟨t1, e1, S1, H1⟩ := copy_loop RO hn g2 g3 ho N N 0 t (by omega) (by omega) ⟨fun _ _ _ => rfl, fun _ _ => rfl, fun _ _ _ => rfl⟩ (fun i hi => by omega)
  have T0 : Try q o b n t1 q nt := by
    refine ⟨fun _ _ _ => rfl, o7, fun k hk hkb => ?_, fun k hk hkb => hkb⟩
    obtain ⟨-, -, -, -, -, ⟨-, m2, m3⟩, ⟨-, s2, s3⟩, -, -, -, -, w11, -⟩ := RO k hk
    have h7 := inBook_7 hkb
    obtain ⟨y1, y2, y3, y4⟩ := w11 h7
    obtain ⟨z1, z2, z3⟩ := H1 k hk
    exact ⟨z1.trans m2, m3, by omega, fun _ => ⟨z2.trans s2, z3.trans y1, y3, s3, y4, y2⟩⟩
  have r := RB b hb8
  rw [hbd] at r
  have I0 : InvS q o b (1 - q 2 o) n ((Q b).find? (stp q o)) := InvS_fs RB hb8 hbd
  obtain ⟨tt, k1, k2⟩ := trial_loop RO hn g2 ho hb rfl o7 N hN (q 5 o) t1 q nt N T0 S1 I0 (fun s' hs' k hk hkb hks => by
    obtain ⟨i1, i2, -⟩ := I0.2 s' hs'
    exact pw_or r.2.2.2 ((r.2.2.1.2 k).mpr ⟨hk, hkb⟩) ((r.2.2.1.2 s').mpr ⟨i1, i2⟩) hks) l3 (by omega) (by omega)
  refine ⟨tt, ?_, k2⟩
  rw [← hb, ← k1]
  exact e1
end Trial2
