/-! ===== acting by kind, and waking ===== -/
section Wake
variable {h h' h1 h2 t t' t1 t2 tt : SH} {q q' v : Nat → Nat → Nat} {Q Q' : Nat → List Nat} {n nt nt' B B' o o' k j a b d m : Nat} {s : Option Nat}
theorem match_eq (N : Nat) (hN : 20000 ≤ N) (R : Rel h t q Q n nt B o) (ho : o < n) (hB : B + q 5 o ≤ 64000000) : ∃ (c : Int32) (h' t' : SH) (q' : Nat → Nat → Nat) (Q' : Nat → List Nat) (nt' B' : Nat), fX4_tradeUntilStopped N (nI o) h = some (c, h') ∧ fX5_match N (nI o) t = some (c, t') ∧ (c = 0 ∨ c = 1) ∧ Rel h' t' q' Q' n nt' B' o ∧ B' + q' 5 o = B + q 5 o ∧ (∀ f, f ≠ 5 → q' f o = q f o) ∧ (∀ k, q' 3 k = q 3 k) ∧ gi t' 0 = gi t 0 ∧ (q 5 o ≤ av q (1 - q 2 o) ((Q (2 * q 1 o + (1 - q 2 o))).find? (stp q o)) (2 * q 1 o + (1 - q 2 o)) n → q' 5 o = 0) := by
  have R0 := R
  obtain ⟨⟨hn, hB0, g1, g2, g3, g4, -⟩, RC, RH, RP, RO, RB, RT⟩ := R
  have Ao := RO.at5 hn ho
  have ob' := Ao.2.2.1.2.2
  have oc' := Ao.2.2.2.1.2.2
  have l3 : q 5 o ≤ 10000 := (RO o ho).2.2.2.2.2.1.2.2
  obtain ⟨c, h', t', q', Q', nt', B', k1, k2, k3, k4, k5, k6, k7, k8, k9⟩ := match_loop N hN ho (q 5 o) h t q Q nt B 0 N N rfl R0 hB (by omega) (by omega) (by omega)
  refine ⟨c, h', t', q', Q', nt', B', ?_, ?_, k3, k4, k5, k6, k7, k8, fun z => k9 _ (InvS_fs RB (by omega) (by omega)) z⟩
  · unfold fX4_tradeUntilStopped
    rw [facing_eq Ao, bnd_some]
    exact k1
  · have e := m252_eq R0 ho N hN (fX5_match_21_L N N) 0
    unfold fX5_match
    unfold fX5_match_252 at e
    rw [e]
    exact k2
theorem finish_eq {x : Int32} (R : Rel h t q Q n nt B o) (ho : o < n) : fX5_finish (nI o) x t = if q 5 o = 0 then some ((), uA t 16 o 2) else if x = 0 then (bnd (fX5_cancelled (nI o) t) fun _ z2 => some ((), z2)) else bnd (fX5_rest (nI o) t) fun _ z3 => some ((), z3) := by
  have hn := R.1.1
  have F := (R.2.2.2.2.1).five ho
  have l3 : q 5 o ≤ 10000 := ((R.2.2.2.2.1) o ho).2.2.2.2.2.1.2.2
  unfold fX5_finish fX5_finish_36
  rw [rda_n (show o < 520 by omega), F.2]
  by_cases c : q 5 o = 0
  · rw [if_pos (by rw [z_eq (by omega)]; exact c), if_pos c, wra_n (show o < 520 by omega)]
  · rw [if_neg (by rw [z_eq (by omega)]; exact c), if_neg c]
theorem act_eq (N : Nat) (hN : 20000 ≤ N) (R : Rel h t q Q n nt B o) (ho : o < n) (h5 : 1 ≤ q 5 o) (hB : B + 10001 ≤ 64000000) : ∃ h' t' q' Q' nt', fX4_actByKind N (nI o) h = some ((), h') ∧ fX5_act N (nI o) t = some ((), t') ∧ Rel h' t' q' Q' n nt' (B + 10001) n ∧ (∀ k, q' 3 k = q 3 k) ∧ gi t' 0 = gi t 0 := by
  have R0 := R
  obtain ⟨⟨hn, hB0, g1, g2, g3, g4, -⟩, RC, RH, RP, RO, RB, RT⟩ := R
  have Ao := RO.at5 hn ho
  have ob' := Ao.2.2.1.2.2
  have oc' := Ao.2.2.2.1.2.2
  obtain ⟨-, -, -, ⟨kd1, kd2, kd3⟩, -, ⟨l1, l2, l3⟩, -⟩ := RO o ho
  have ho5 : o < 512 := by omega
  have ho6 : o < 520 := by omega
  have hfirst := first_eq RO RB hn (by omega) g2 ob' (show 1 - q 2 o < 2 by omega) N hN
  have hact : fX5_act N (nI o) t = (if nI (q 3 o) = 5 then some ((), uA t 16 o 1) else if nI (q 3 o) = 3 then (if enc (Q (2 * q 1 o + (1 - q 2 o))).head? = -1 then fX5_act_62 N (nI o) t else bnd (fX5_allows (nI o) (enc (Q (2 * q 1 o + (1 - q 2 o))).head?) t) fun v10 z9 => if v10 = 0 then fX5_act_62 N (nI o) z9 else fX5_act_67 N 0 (nI o) z9) else if nI (q 3 o) = 2 then (bnd (fX5_wouldTrade N (nI o) t) fun v7 z6 => if v7 = 0 then (bnd (fX5_cancelled (nI o) z6) fun _ z8 => some ((), z8)) else fX5_act_94 N (nI o) (nI (q 3 o)) z6) else fX5_act_94 N (nI o) (nI (q 3 o)) t) := by
    unfold fX5_act fX5_act_125
    rw [rda_n ho6, kd2, rda_n ho6, Ao.2.2.1.2.1, rda_n ho6, Ao.2.2.2.1.2.1, one_sub oc', hfirst, bnd_some, wra_n ho6]
  have hcls : fX4_actByKind N (nI o) h = (if nI (q 3 o) = 5 then some ((), h) else if nI (q 3 o) = 3 then (bnd (fX4_meetsOther (nI o) h) fun v6 z5 => if v6 = 0 then (bnd (fX4_rest N (nI o) z5) fun _ z7 => some ((), z7)) else bnd (fX4_close (nI o) 3 z5) fun _ z8 => some ((), z8)) else if nI (q 3 o) = 2 then (bnd (fX4_wouldTradeWholly N (nI o) h) fun v3 z2 => if v3 = 0 then (bnd (fX4_close (nI o) 3 z2) fun _ z4 => some ((), z4)) else fX4_actByKind_64 N (nI o) (nI (q 3 o)) z2) else fX4_actByKind_64 N (nI o) (nI (q 3 o)) h) := by
    unfold fX4_actByKind fX4_actByKind_43
    rw [rda_n ho5, kd1]
  have e5 : (nI (q 3 o) = 5) = (q 3 o = 5) := by rw [show (5 : Int32) = nI 5 by decide]; exact nI_eq' (by omega) (by decide)
  have e3 : (nI (q 3 o) = 3) = (q 3 o = 3) := by rw [show (3 : Int32) = nI 3 by decide]; exact nI_eq' (by omega) (by decide)
  have e2 : (nI (q 3 o) = 2) = (q 3 o = 2) := by rw [show (2 : Int32) = nI 2 by decide]; exact nI_eq' (by omega) (by decide)
  have e1 : (nI (q 3 o) = 1) = (q 3 o = 1) := by rw [show (1 : Int32) = nI 1 by decide]; exact nI_eq' (by omega) (by decide)
  have e4 : (nI (q 3 o) = 4) = (q 3 o = 4) := by rw [show (4 : Int32) = nI 4 by decide]; exact nI_eq' (by omega) (by decide)
  have e0 : (nI (q 3 o) = 0) = (q 3 o = 0) := z_eq (by omega)
  rw [hcls, hact]
  simp only [e5, e3, e2]
  -- the two ends that are not traded
  have hcan : ∀ tt, Sm t tt [20, 21, 22] [] [] → ∃ h' t' q' Q' nt', fX4_close (nI o) 3 h = some ((), h') ∧ fX5_cancelled (nI o) tt = some ((), t') ∧ Rel h' t' q' Q' n nt' (B + 10001) n ∧ (∀ k, q' 3 k = q 3 k) ∧ gi t' 0 = gi t 0 := fun tt S => by
    have Rt : Rel h tt q Q n nt B o := ⟨R0.1.t_ S (by decide) (by decide), RC.t_ S (by decide) (by decide), RH.t_ S (by decide), RP.t_ S (by decide), RO.t_ S (by decide), RB, RT⟩
    obtain ⟨h', t', q', k1, k2, k3, k4, k5⟩ := cano_eq Rt ho
    exact ⟨h', t', q', Q, nt, k1, k2, k3.B_ (by omega) hB, k4, by rw [k5, S.2.1 _ (by decide)]⟩
  have hrst : ∃ h' t' q' Q' nt', fX4_rest N (nI o) h = some ((), h') ∧ fX5_rest (nI o) t = some ((), t') ∧ Rel h' t' q' Q' n nt' (B + 10001) n ∧ (∀ k, q' 3 k = q 3 k) ∧ gi t' 0 = gi t 0 := by
    obtain ⟨h', t', q', Q', k1, k2, k3, k4, k5⟩ := rest_eq N hN R0 ho h5 (by omega)
    exact ⟨h', t', q', Q', nt + 1, k1, k2, k3.B_ (by omega) hB, k4, k5⟩
  have hS0 : Sm t t [20, 21, 22] [] [] := ⟨fun _ _ _ => rfl, fun _ _ => rfl, fun _ _ _ => rfl⟩
  have hfin1 : fX5_act_62 N (nI o) t = bnd (fX5_rest (nI o) t) fun _ z3 => some ((), z3) := by
    unfold fX5_act_62 fX5_act_67 fX5_act_125
    rw [finish_eq R0 ho, if_neg (by omega), if_neg one_ne]
    cases fX5_rest (nI o) t with
    | none => rfl
    | some x => rfl
  have hfin0 : fX5_act_67 N 0 (nI o) t = bnd (fX5_cancelled (nI o) t) fun _ z3 => some ((), z3) := by
    unfold fX5_act_67 fX5_act_125
    rw [finish_eq R0 ho, if_neg (by omega), if_pos rfl]
    cases fX5_cancelled (nI o) t with
    | none => rfl
    | some x => rfl
  -- trading
  have htrd : ∀ tt, Sm t tt [20, 21, 22] [] [] → (q 3 o = 0 ∨ q 3 o = 1 ∨ q 3 o = 4 ∨ (q 3 o = 2 ∧ q 5 o ≤ av q (1 - q 2 o) ((Q (2 * q 1 o + (1 - q 2 o))).find? (stp q o)) (2 * q 1 o + (1 - q 2 o)) n)) → ∃ h' t' q' Q' nt', fX4_actByKind_64 N (nI o) (nI (q 3 o)) h = some ((), h') ∧ fX5_act_94 N (nI o) (nI (q 3 o)) tt = some ((), t') ∧ Rel h' t' q' Q' n nt' (B + 10001) n ∧ (∀ k, q' 3 k = q 3 k) ∧ gi t' 0 = gi t 0 := fun tt S hk => by
    have Rt : Rel h tt q Q n nt B o := ⟨R0.1.t_ S (by decide) (by decide), RC.t_ S (by decide) (by decide), RH.t_ S (by decide), RP.t_ S (by decide), RO.t_ S (by decide), RB, RT⟩
    obtain ⟨c, h1, t1, q1, Q1, nt1, B1, k1, k2, k3, k4, k5, k6, k7, k8, k9⟩ := match_eq N hN Rt ho (by omega)
    have g0 : gi t1 0 = gi t 0 := by rw [k8, S.2.1 _ (by decide)]
    have F1 := (k4.2.2.2.2.1).five ho
    have l3' : q1 5 o ≤ 10000 := ((k4.2.2.2.2.1) o ho).2.2.2.2.2.1.2.2
    have hB1 : B1 ≤ B + 10000 := by omega
    unfold fX4_actByKind_64 fX4_actByKind_100 fX4_actByKind_114 fX5_act_94 fX5_act_117 fX5_act_121 fX5_act_122 fX5_act_125
    rw [k1, bnd_some, rda_n ho5, F1.1, k2, bnd_some, finish_eq k4 ho, finish_eq k4 ho, if_neg one_ne, if_pos rfl]
    by_cases c5 : q1 5 o = 0
    · obtain ⟨h', q', w1, w2, w3⟩ := trdo_eq k4 ho c5
      refine ⟨h', uA t1 16 o 2, q', Q1, nt1, ?_, ?_, w2.B_ (by omega) hB, fun k => by rw [w3, k7], g0⟩
      · rw [if_pos (by rw [z_eq (by omega)]; exact c5), w1, bnd_some]
      · rw [if_pos c5, bnd_some, if_pos c5, bnd_some]
        by_cases z1 : c = 0
        · rw [if_pos z1]
          by_cases z2 : nI (q 3 o) = 0
          · rw [if_pos z2]
          · rw [if_neg z2]
            by_cases z3 : nI (q 3 o) = 4
            · rw [if_pos z3]
            · rw [if_neg z3]
        · rw [if_neg z1]
    · have h2 : ¬ q 3 o = 2 := fun z => by
        rcases hk with w | w | w | w
        · omega
        · omega
        · omega
        · exact c5 (k9 w.2)
      rw [if_neg (by rw [z_eq (by omega)]; exact c5), if_neg c5, if_neg c5]
      have hC : (c = 0 → q 3 o = 1) → ∃ h' t' q' Q' nt', fX4_close (nI o) 3 h1 = some ((), h') ∧ fX5_cancelled (nI o) t1 = some ((), t') ∧ Rel h' t' q' Q' n nt' (B + 10001) n ∧ (∀ k, q' 3 k = q 3 k) ∧ gi t' 0 = gi t 0 := fun _ => by
        obtain ⟨h', t', q', w1, w2, w3, w4, w5⟩ := cano_eq k4 ho
        exact ⟨h', t', q', Q1, nt1, w1, w2, w3.B_ (by omega) hB, fun k => by rw [w4, k7], by rw [w5, g0]⟩
      by_cases z1 : c = 0
      · rw [if_pos z1, if_pos z1]
        by_cases z2 : q 3 o = 1
        · obtain ⟨h', t', q', Q', nt', w1, w2, w3⟩ := hC (fun _ => z2)
          refine ⟨h', t', q', Q', nt', ?_, ?_, w3⟩
          · rw [if_pos (by rw [e1]; exact z2), w1, bnd_some]
          · rw [if_neg (by rw [e0]; omega), if_neg (by rw [e4]; omega), w2, bnd_some, bnd_some]
        · obtain ⟨h', t', q', Q', w1, w2, w3, w4, w5⟩ := rest_eq N hN k4 ho (by omega) (by omega)
          refine ⟨h', t', q', Q', nt1 + 1, ?_, ?_, w3.B_ (by omega) hB, fun k => by rw [w4, k7], by rw [w5, g0]⟩
          · rw [if_neg (by rw [e1]; exact z2), w1, bnd_some]
          · rw [w2, bnd_some, bnd_some]
            by_cases z3 : q 3 o = 0
            · rw [if_pos (by rw [e0]; exact z3)]
            · rw [if_neg (by rw [e0]; exact z3), if_pos (by rw [e4]; omega)]
      · obtain ⟨h', t', q', Q', nt', w1, w2, w3⟩ := hC (fun z => absurd z z1)
        refine ⟨h', t', q', Q', nt', ?_, ?_, w3⟩
        · rw [if_neg z1, w1, bnd_some]
        · rw [if_neg z1, w2, bnd_some, bnd_some]
  by_cases c5 : q 3 o = 5
  · exact ⟨h, uA t 16 o 1, uq q 7 o 1, Q, nt, if_pos c5, if_pos c5, (stopo_eq R0 ho c5 h5).B_ (by omega) hB, fun k => uq_ne (by decide), rfl⟩
  · rw [if_neg c5, if_neg c5]
    by_cases c3 : q 3 o = 3
    · rw [if_pos c3, if_pos c3]
      have hoa := orderAt_eq RB hn (b := 2 * q 1 o + (1 - q 2 o)) (i := 0) (by omega) (by decide)
      rw [← List.head?_eq_getElem?, nI_0] at hoa
      unfold fX4_meetsOther fX4_meetsOther_38 fX4_meetsOther_39
      rw [facing_eq Ao, bnd_some, hoa, bnd_some]
      cases hh : (Q (2 * q 1 o + (1 - q 2 o))).head? with
      | none =>
        obtain ⟨h', t', q', Q', nt', w1, w2, w3⟩ := hrst
        refine ⟨h', t', q', Q', nt', ?_, ?_, w3⟩
        · rw [if_pos enc_none, gdb_0, bnd_some, if_pos rfl, w1, bnd_some]
        · rw [if_pos enc_none, hfin1, w2, bnd_some]
      | some j =>
        have hjQ : j ∈ Q (2 * q 1 o + (1 - q 2 o)) := List.mem_of_mem_head? (by rw [hh]; rfl)
        obtain ⟨j1, -⟩ := face_j R0 ho hjQ
        have Aj := RO.at5 hn j1
        have hjm : ¬ enc (some j) = -1 := nI_nem1 (by omega)
        have hH : fX2_pricesAllow (nI o) (enc (some j)) h = _ := allowH_eq Ao Aj
        have hM : fX5_allows (nI o) (enc (some j)) t = _ := allowM_eq Ao Aj
        rw [if_neg hjm, hH, bnd_some, if_neg hjm, hM, bnd_some]
        by_cases ca : alw q o j = true
        · obtain ⟨h', t', q', Q', nt', w1, w2, w3⟩ := hcan t hS0
          refine ⟨h', t', q', Q', nt', ?_, ?_, w3⟩
          · rw [if_pos ca, if_neg one_ne, gdb_1, bnd_some, if_neg one_ne, w1, bnd_some]
          · rw [if_pos ca, if_neg one_ne, hfin0, w2, bnd_some]
        · obtain ⟨h', t', q', Q', nt', w1, w2, w3⟩ := hrst
          refine ⟨h', t', q', Q', nt', ?_, ?_, w3⟩
          · rw [if_neg ca, if_pos rfl, gdb_0, bnd_some, if_pos rfl, w1, bnd_some]
          · rw [if_neg ca, if_pos rfl, hfin1, w2, bnd_some]
    · rw [if_neg c3, if_neg c3]
      by_cases c2 : q 3 o = 2
      · rw [if_pos c2, if_pos c2, wholly_eq R0 ho N hN, bnd_some]
        obtain ⟨tt, e, S⟩ := trial_eq R0 ho N hN
        rw [e, bnd_some]
        by_cases cw : q 5 o ≤ av q (1 - q 2 o) ((Q (2 * q 1 o + (1 - q 2 o))).find? (stp q o)) (2 * q 1 o + (1 - q 2 o)) n
        · rw [if_pos cw, if_neg one_ne, if_neg one_ne]
          exact htrd tt S (.inr (.inr (.inr ⟨c2, cw⟩)))
        · obtain ⟨h', t', q', Q', nt', w1, w2, w3⟩ := hcan tt S
          refine ⟨h', t', q', Q', nt', ?_, ?_, w3⟩
          · rw [if_neg cw, if_pos rfl, w1, bnd_some]
          · rw [if_neg cw, if_pos rfl, w2, bnd_some]
      · rw [if_neg c2, if_neg c2]
        exact htrd t hS0 (by omega)
end Wake
