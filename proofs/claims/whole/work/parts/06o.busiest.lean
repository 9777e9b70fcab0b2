/-! ===== busiest ===== -/
section Busiest
variable {h h' t t' : SH} {q q' : Nat → Nat → Nat} {Q Q' : Nat → List Nat} {n nt nt' B o o' k : Nat}
def cY (E : String) : Int32 := if E = eIdx then 1 else 0
def tov (t : SH) (s a : Nat) : Int32 := gA t 5 (4 * a + s) + gA t 6 (4 * a + s)
def bz (t : SH) (s a b : Nat) : Bool := decide (tov t s a < tov t s b) || (decide (tov t s b = tov t s a) && decide (b < a))
theorem turnover_eq (RH : RelH h t B) {s a : Nat} (hs : s < 4) (ha : a < 512) : fX1_turnover (nI a) (nI s) h = some (tov t s a, h) := by
  obtain ⟨-, -, r3, r4, -⟩ := RH (4 * a + s) (by omega)
  unfold fX1_turnover fX1_placeOf tov
  rw [bnd_some, place_n, rda_n (show 4 * a + s < 2048 by omega), rda_n (show 4 * a + s < 2048 by omega), r3, r4]
theorem business_eq {s a : Nat} (hs : s < 4) (ha : a < 512) (t : SH) : fX5_business (nI a) (nI s) t = some (tov t s a, t) := by
  unfold fX5_business fX5_cell tov
  rw [bnd_some, cell_n, rda_n (show 4 * a + s < 2048 by omega), bnd_some, rda_n (show 4 * a + s < 2048 by omega)]
theorem cnt_s {p : Nat → Bool} {k : Nat} : cnt p (k + 1) = cnt p k + (if p k = true then 1 else 0) := rfl
theorem n512 : (512 : Int32) = nI 512 := by decide
theorem busier_loop (RH : RelH h t B) {s a : Nat} (hs : s < 4) (ha : a < 512) (N : Nat) : ∀ (fu k : Nat), k ≤ 512 → 512 - k < fu → fX1_countBusier_13_L N fu (nI a) (nI s) (tov t s a) (nI (cnt (bz t s a) k)) (nI k) h = some (nI (cnt (bz t s a) 512), h) := by
  intro fu
  induction fu with
  | zero => intro k _ hf; omega
  | succ fu ih =>
    intro k hk hf
    show fX1_countBusier_13 N (fX1_countBusier_13_L N fu) _ _ _ _ _ h = _
    unfold fX1_countBusier_13 fX1_countBusier_48 fX1_countBusier_51
    rw [n512]
    by_cases c : 512 ≤ k
    · have : k = 512 := by omega
      subst this
      rw [if_pos (nI_le (Nat.le_refl _) (by omega))]
    · have e := ih (k + 1) (by omega) (by omega)
      rw [cnt_s] at e
      rw [if_neg (nI_ge (by omega) (by omega)), turnover_eq RH hs (by omega), bnd_some, nI_1, nI_1]
      by_cases c1 : tov t s a < tov t s k
      · rw [if_pos c1]
        rw [if_pos (by unfold bz; simp [c1])] at e
        exact e
      · rw [if_neg c1]
        by_cases c2 : tov t s k = tov t s a
        · rw [if_pos c2]
          by_cases c3 : a ≤ k
          · rw [if_pos (nI_le c3 (by omega))]
            rw [if_neg (by unfold bz; simp [c1]; intro _; omega)] at e
            exact e
          · rw [if_neg (nI_ge (by omega) (by omega))]
            rw [if_pos (by unfold bz; simp [c2]; omega)] at e
            exact e
        · rw [if_neg c2]
          rw [if_neg (by unfold bz; simp [c1, c2])] at e
          exact e
theorem busierM_loop {s a : Nat} (hs : s < 4) (ha : a < 512) (t : SH) (hp : ¬ tov t s a ≤ 0) (N : Nat) (k22 : Int32 → Int32 → Int32 → SH → Option (Int32 × SH)) (i : Int32) : ∀ (fu k : Nat), k ≤ 512 → 512 - k < fu → fX5_busiest_42_L N k22 fu (nI s) i (nI a) (nI (cnt (bz t s a) k)) (nI k) t = fX5_busiest_114 N k22 (nI s) i (nI a) (nI (cnt (bz t s a) 512)) t := by
  intro fu
  induction fu with
  | zero => intro k _ hf; omega
  | succ fu ih =>
    intro k hk hf
    show fX5_busiest_42 N k22 (fX5_busiest_42_L N k22 fu) _ _ _ _ _ t = _
    unfold fX5_busiest_42 fX5_busiest_97 fX5_busiest_104 fX5_busiest_106
    rw [n512]
    by_cases c : 512 ≤ k
    · have : k = 512 := by omega
      subst this
      rw [if_pos (nI_le (Nat.le_refl _) (by omega))]
    · have e := ih (k + 1) (by omega) (by omega)
      rw [cnt_s] at e
      rw [if_neg (nI_ge (by omega) (by omega)), business_eq hs ha, bnd_some, if_neg hp, business_eq hs (show k < 512 by omega), bnd_some, business_eq hs ha, bnd_some, business_eq hs (show k < 512 by omega), bnd_some, business_eq hs ha, bnd_some, nI_1, nI_1]
      by_cases c1 : tov t s a < tov t s k
      · rw [if_pos c1]
        rw [if_pos (by unfold bz; simp [c1])] at e
        exact e
      · rw [if_neg c1]
        by_cases c2 : tov t s k = tov t s a
        · rw [if_pos c2]
          by_cases c3 : a ≤ k
          · rw [if_pos (nI_le c3 (by omega))]
            rw [if_neg (by unfold bz; simp [c1]; intro _; omega)] at e
            exact e
          · rw [if_neg (nI_ge (by omega) (by omega))]
            rw [if_pos (by unfold bz; simp [c2]; omega)] at e
            exact e
        · rw [if_neg c2]
          rw [if_neg (by unfold bz; simp [c1, c2])] at e
          exact e
theorem busiest_loop (RH : RelH h t B) (g0 : gi t 0 = 0) {s : Nat} (hs : s < 4) (N : Nat) (hN : 20000 ≤ N) (i : Int32) : ∀ (fu a : Nat), a ≤ 512 → 512 - a < fu → ∃ (r : String ⊕ Int32) (b : Int32) (t' : SH), fX4_busiest_6_L N fu (nI s) i (nI a) h = some (r, h) ∧ fX5_busiest_22_L N fu (nI s) i (nI a) t = some (b, t') ∧ agr cY r b t' ∧ (t' = t ∨ t' = si t 0 1) := by
  intro fu
  induction fu with
  | zero => intro k _ hf; omega
  | succ fu ih =>
    intro a ha hf
    show ∃ (r : String ⊕ Int32) (b : Int32) (t' : SH), fX4_busiest_6 N (fX4_busiest_6_L N fu) _ _ _ h = _ ∧ fX5_busiest_22 N (fX5_busiest_22_L N fu) _ _ _ t = _ ∧ _
    by_cases c : 512 ≤ a
    · refine ⟨.inl eIdx, 0, si t 0 1, ?_, ?_, ⟨by show (1 : Int32) = cY eIdx; decide, by decide⟩, .inr rfl⟩
      · unfold fX4_busiest_6
        rw [n512, if_pos (nI_le c (by omega))]
        rfl
      · unfold fX5_busiest_22 fX5_busiest_137
        rw [n512, if_pos (nI_le c (by omega)), wri_n]
    · have ha' : a < 512 := by omega
      obtain ⟨r, b, t', e1, e2, e3⟩ := ih (a + 1) (by omega) (by omega)
      have hT := turnover_eq RH hs ha'
      by_cases hp : tov t s a ≤ 0
      · refine ⟨r, b, t', ?_, ?_, e3⟩
        · unfold fX4_busiest_6 fX4_busiest_40
          rw [n512, if_neg (nI_ge (by omega) (by omega)), hT, bnd_some, if_pos hp, nI_1]
          exact e1
        · unfold fX5_busiest_22
          rw [n512, if_neg (nI_ge (by omega) (by omega)), rdi_n, g0, if_pos rfl]
          obtain ⟨N', hN'⟩ : ∃ N', N = N' + 1 := ⟨N - 1, by omega⟩
          rw [hN']
          show fX5_busiest_42 _ _ (fX5_busiest_42_L _ _ N') _ _ _ _ _ t = _
          unfold fX5_busiest_42 fX5_busiest_114 fX5_busiest_131
          rw [if_neg (by decide), business_eq hs ha', bnd_some, if_pos hp, business_eq hs ha', bnd_some, if_pos hp, nI_1, ← hN']
          exact e2
      · have hB := busier_loop RH hs ha' N N 0 (by omega) (by omega)
        have hM := busierM_loop hs ha' t hp N (fX5_busiest_22_L N fu) i N 0 (by omega) (by omega)
        by_cases ci : nI (cnt (bz t s a) 512) = i
        · refine ⟨.inr (nI a), nI a, t, ?_, ?_, ⟨g0, rfl⟩, .inl rfl⟩
          · unfold fX4_busiest_6 fX1_countBusier
            rw [n512, if_neg (nI_ge (by omega) (by omega)), hT, bnd_some, if_neg hp, hT, bnd_some]
            rw [show fX1_countBusier_13_L N N (nI a) (nI s) (tov t s a) 0 0 h = _ from hB, bnd_some, if_pos ci]
          · unfold fX5_busiest_22
            rw [n512, if_neg (nI_ge (by omega) (by omega)), rdi_n, g0, if_pos rfl]
            refine Eq.trans hM ?_
            unfold fX5_busiest_114
            rw [business_eq hs ha', bnd_some, if_neg hp, if_pos ci]
        · refine ⟨r, b, t', ?_, ?_, e3⟩
          · unfold fX4_busiest_6 fX1_countBusier fX4_busiest_40
            rw [n512, if_neg (nI_ge (by omega) (by omega)), hT, bnd_some, if_neg hp, hT, bnd_some]
            rw [show fX1_countBusier_13_L N N (nI a) (nI s) (tov t s a) 0 0 h = _ from hB, bnd_some, if_neg ci, nI_1]
            exact e1
          · unfold fX5_busiest_22
            rw [n512, if_neg (nI_ge (by omega) (by omega)), rdi_n, g0, if_pos rfl]
            refine Eq.trans hM ?_
            unfold fX5_busiest_114 fX5_busiest_131
            rw [business_eq hs ha', bnd_some, if_neg hp, if_neg ci, nI_1]
            exact e2
theorem busiest_neg (RH : RelH h t B) {s : Nat} (hs : s < 4) (N : Nat) (hN : 20000 ≤ N) {i : Int32} (hi : i < 0) : ∀ (fu a : Nat), a ≤ 512 → 512 - a < fu → fX4_busiest_6_L N fu (nI s) i (nI a) h = some (.inl eIdx, h) := by
  intro fu
  induction fu with
  | zero => intro k _ hf; omega
  | succ fu ih =>
    intro a ha hf
    show fX4_busiest_6 N (fX4_busiest_6_L N fu) _ _ _ h = _
    unfold fX4_busiest_6 fX4_busiest_40
    rw [n512]
    by_cases c : 512 ≤ a
    · rw [if_pos (nI_le c (by omega))]
      rfl
    · have ha' : a < 512 := by omega
      rw [if_neg (nI_ge (by omega) (by omega)), turnover_eq RH hs ha', bnd_some, nI_1, ih (a + 1) (by omega) (by omega)]
      by_cases hp : tov t s a ≤ 0
      · rw [if_pos hp]
      · unfold fX1_countBusier
        rw [if_neg hp, turnover_eq RH hs ha', bnd_some, show fX1_countBusier_13_L N N (nI a) (nI s) (tov t s a) 0 0 h = _ from busier_loop RH hs ha' N N 0 (by omega) (by omega), bnd_some, if_neg (fun z => absurd (show nI (cnt (bz t s a) 512) < 0 by rw [z]; exact hi) (nI_pos (by have hc := cnt_le (bz t s a) 512; omega)))]
        exact ih (a + 1) (by omega) (by omega)
theorem busiestM_thrown (N : Nat) (hN : 20000 ≤ N) (x i : Int32) (t : SH) (g0 : ¬ gi t 0 = 0) : fX5_busiest_22_L N N x i 0 t = some (0, si t 0 1) := by
  obtain ⟨N', rfl⟩ : ∃ N', N = N' + 1 := ⟨N - 1, by omega⟩
  show fX5_busiest_22 _ _ _ _ _ t = _
  unfold fX5_busiest_22 fX5_busiest_137
  rw [if_neg (by decide), rdi_n, if_neg g0, wri_n]
theorem op_busiest (N : Nat) (hN : 20000 ≤ N) (R : Rel h t q Q n nt B o) (a i : Int32) : ∃ (r : String ⊕ Int32) (h' : SH) (b : Int32) (t' : SH), fX4_busiest N a i h = some (r, h') ∧ fX5_busiest N a i t = some (b, t') ∧ agr cY r b t' ∧ Rel h' t' q Q n nt B o := by
  have R0 := R
  obtain ⟨-, RC, RH, -⟩ := R
  by_cases h1 : 0 ≤ a ∧ a ≤ 3
  · obtain ⟨s, -, hs, rfl⟩ := between (a := 0) (b := 3) (by decide) (by decide) h1.1 h1.2
    by_cases hi : i < 0
    · refine ⟨.inl eIdx, h, 0, si (si t 0 1) 0 1, ?_, ?_, ⟨by show (1 : Int32) = cY eIdx; decide, by decide⟩, Rel_thr (Rel_thr R0)⟩
      · unfold fX4_busiest
        rw [needSym_eq, if_pos h1, bndX_inr]
        exact busiest_neg RH (by omega) N hN hi N 0 (by omega) (by omega)
      · unfold fX5_busiest fX5_busiest_16 fX5_busiest_17
        rw [isSym_eq, if_pos h1, bnd_some, if_neg one_ne, if_pos hi, wri_n]
        exact busiestM_thrown N hN _ _ _ (by rw [thr_si]; decide)
    · obtain ⟨r, b, t', e1, e2, e3, e4⟩ := busiest_loop (t := si t 0 0) RH rfl (show s < 4 by omega) N hN i N 0 (by omega) (by omega)
      refine ⟨r, h, b, t', ?_, ?_, e3, ?_⟩
      · unfold fX4_busiest
        rw [needSym_eq, if_pos h1, bndX_inr]
        exact e1
      · unfold fX5_busiest fX5_busiest_17
        rw [isSym_eq, if_pos h1, bnd_some, if_neg one_ne, if_neg hi, wri_n]
        exact e2
      · rcases e4 with rfl | rfl
        · exact Rel_thr R0
        · exact Rel_thr (Rel_thr R0)
  · refine ⟨.inl eIdx, h, 0, si (si t 0 1) 0 1, ?_, ?_, ⟨by show (1 : Int32) = cY eIdx; decide, by decide⟩, Rel_thr (Rel_thr R0)⟩
    · unfold fX4_busiest
      rw [needSym_eq, if_neg h1, bndX_inl]
    · unfold fX5_busiest fX5_busiest_16 fX5_busiest_17
      rw [isSym_eq, if_neg h1, bnd_some, if_pos rfl, wri_n]
      exact busiestM_thrown N hN _ _ _ (by rw [thr_si]; decide)
end Busiest
