/-! ===== stops wake ===== -/
def wk (q : Nat → Nat → Nat) (l s k : Nat) : Bool := decide (q 7 k = 1) && decide (q 1 k = s) && (if q 2 k = 0 then decide (q 9 k ≤ l) else decide (l ≤ q 9 k))
def bdg (c : Nat) : Nat := 10001 * (c + 1)
theorem bdg_0 : bdg 0 = 10001 := by unfold bdg; omega
theorem bdg_s {c : Nat} : bdg (c + 1) = bdg c + 10001 := by unfold bdg; omega
theorem bdg_1 {c : Nat} : 10001 ≤ bdg c := by unfold bdg; omega
section Wake2
variable {h h' h1 h2 t t' t1 t2 tt : SH} {q q' v : Nat → Nat → Nat} {Q Q' : Nat → List Nat} {n nt nt' B B' o o' k j a b d m l s i : Nat}
theorem woken_eq (RO : RelO h t q n nt n) (hn : n ≤ 64) (hk : k < n) (hl : l ≤ 10000) (h1 : q 1 k = s) : fX2_isWokenBy (nI k) (nI l) h = some ((if wk q l s k = true then 1 else 0), h) := by
  have hk5 : k < 512 := by omega
  have r := RO k hk
  unfold RelO1 at r
  rw [if_neg (show ¬ k = n by omega)] at r
  obtain ⟨-, -, ⟨c1, -, c3⟩, -, -, -, -, ⟨s1, -, s3⟩, ⟨x1, x2⟩, -, -, -, r12, -⟩ := r
  unfold fX2_isWokenBy fX2_isWokenBy_54 wk
  rw [rda_n hk5, s1]
  by_cases c7 : q 7 k = 1
  · have w := x2 (.inr (r12 c7).1)
    rw [if_pos (by rw [c7]; decide), rda_n hk5, c1]
    by_cases cs : q 2 k = 0
    · rw [if_pos (by rw [z_eq (by omega)]; exact cs), rda_n hk5, x1, w.1]
      by_cases z : q 9 k ≤ l
      · rw [if_neg (nI_nlt z (by omega)), gdb_1, if_pos (by simp [c7, h1, cs, z])]
      · rw [if_pos (nI_lt (by omega) (by omega)), gdb_0, if_neg (by simp [c7, h1, cs]; omega)]
    · rw [if_neg (by rw [z_eq (by omega)]; exact cs), rda_n hk5, x1, w.1]
      by_cases z : l ≤ q 9 k
      · rw [if_neg (nI_nlt z (by omega)), gdb_1, if_pos (by simp [c7, h1, cs, z])]
      · rw [if_pos (nI_lt (by omega) (by omega)), gdb_0, if_neg (by simp [c7, h1, cs]; omega)]
  · rw [if_neg (fun z => c7 (nI_inj (by omega) (by decide) (z.trans (by decide)))), gdb_0, if_neg (by simp [c7])]
/-- a round of the reference's search -/
theorem ready_step (RO : RelO h t q n nt n) (hn : n ≤ 64) (g2 : gi t 2 = nI n) (hk : k < n) (hs : s < 4) (hl : l ≤ 10000) (e24 : gA t 24 s = nI l) (N : Nat) (k2 : Int32 → Int32 → SH → Option (Int32 × SH)) : fX5_ready_2 N k2 (nI s) (nI k) t = if wk q l s k = true ∧ 0 < l then some (nI k, t) else k2 (nI s) (nI (k + 1)) t := by
  have hk6 : k < 520 := by omega
  have r := RO k hk
  unfold RelO1 at r
  obtain ⟨-, ⟨-, b2, b3⟩, ⟨-, c2, c3⟩, -, -, -, -, ⟨-, s2, s3⟩, ⟨x1, x2⟩, -, -, -, r12, -⟩ := r
  have hkn : ¬ nI n ≤ nI k := nI_ge (by omega) (by omega)
  unfold fX5_ready_2 fX5_ready_43 fX5_ready_44 fX5_ready_91 fX5_ready_93
  rw [rdi_n, g2, if_neg hkn, rda_n hk6, s2, if_pos (rfl : (0 : Int32) = 0), nI_1]
  by_cases c7 : q 7 k = 1
  · rw [if_pos (by rw [c7]; decide), rda_n hk6, b2]
    by_cases c1 : q 1 k = s
    · rw [if_pos (by rw [c1]), rda_n hs, e24]
      by_cases c0 : l = 0
      · rw [if_pos (by rw [le0_n (by omega)]; exact c0), if_neg (by omega)]
      · have w := x2 (.inr (r12 c7).1)
        rw [if_neg (by rw [le0_n (by omega)]; exact c0), if_neg one_ne, rda_n hk6, c2]
        by_cases cs : q 2 k = 0
        · rw [if_pos (by rw [z_eq (by omega)]; exact cs), rda_n hs, e24, rda_n hk6, w.1]
          by_cases z : q 9 k ≤ l
          · rw [if_neg (nI_nlt z (by omega)), if_pos ⟨by unfold wk; simp [c7, c1, cs, z], by omega⟩]
          · rw [if_pos (nI_lt (by omega) (by omega)), if_neg (by unfold wk; simp [c7, c1, cs]; omega)]
        · rw [if_neg (by rw [z_eq (by omega)]; exact cs), rda_n hs, e24, rda_n hk6, w.1]
          by_cases z : l ≤ q 9 k
          · rw [if_neg (nI_nlt z (by omega)), if_pos ⟨by unfold wk; simp [c7, c1, cs, z], by omega⟩]
          · rw [if_pos (nI_lt (by omega) (by omega)), if_neg (by unfold wk; simp [c7, c1, cs]; omega)]
    · rw [if_neg (fun z => c1 (nI_inj (by omega) (by omega) z)), if_neg (by unfold wk; simp [c7, c1])]
  · rw [if_neg (fun z => c7 (nI_inj (by omega) (by decide) (z.trans (by decide)))), if_neg (by unfold wk; simp [c7])]
theorem wake_loop (RO : RelO h t q n nt n) (hn : n ≤ 64) (g1 : gi h 2 = nI n) (g2 : gi t 2 = nI n) (hs : s < 4) (hl : l ≤ 10000) (e24 : gA t 24 s = nI l) (N : Nat) : ∀ (fu k : Nat), k ≤ n → n - k < fu →
    ((0 < l → fX4_wakeStop_18_L N fu (nI s) (nI l) (nI k) h = some (-1, h)) ∧ fX5_ready_2_L N fu (nI s) (nI k) t = some (-1, t)) ∨
    ∃ i, i < n ∧ wk q l s i = true ∧ 0 < l ∧ fX4_wakeStop_18_L N fu (nI s) (nI l) (nI k) h = some (nI i, uA h 15 i 0) ∧ fX5_ready_2_L N fu (nI s) (nI k) t = some (nI i, t) := by
  intro fu
  induction fu with
  | zero => intro k _ hf; omega
  | succ fu ih =>
    intro k hk hf
    show ((0 < l → fX4_wakeStop_18 N (fX4_wakeStop_18_L N fu) _ _ _ h = _) ∧ fX5_ready_2 N (fX5_ready_2_L N fu) _ _ t = _) ∨ ∃ i, i < n ∧ wk q l s i = true ∧ 0 < l ∧ fX4_wakeStop_18 N (fX4_wakeStop_18_L N fu) _ _ _ h = _ ∧ fX5_ready_2 N (fX5_ready_2_L N fu) _ _ t = _
    by_cases c : n ≤ k
    · left
      unfold fX4_wakeStop_18 fX5_ready_2
      rw [rdi_n, rdi_n, g1, g2, if_pos (nI_le c (by omega)), if_pos (nI_le c (by omega))]
      exact ⟨fun _ => rfl, rfl⟩
    · have hk' : k < n := by omega
      have hk5 : k < 512 := by omega
      rw [ready_step RO hn g2 hk' hs hl e24]
      have hkn : ¬ nI n ≤ nI k := nI_ge (by omega) (by omega)
      obtain ⟨-, ⟨b1, -, b3⟩, -⟩ := RO k hk'
      by_cases cw : wk q l s k = true ∧ 0 < l
      · right
        have h1 : q 1 k = s := by have := cw.1; unfold wk at this; simp at this; exact this.1.2
        refine ⟨k, hk', cw.1, cw.2, ?_, if_pos cw⟩
        unfold fX4_wakeStop_18
        rw [rdi_n, g1, if_neg hkn, rda_n hk5, b1, if_pos (by rw [h1]), woken_eq RO hn hk' hl h1, bnd_some, if_pos cw.1, if_neg one_ne, wra_n hk5]
      · rw [if_neg cw]
        have hstep : 0 < l → fX4_wakeStop_18 N (fX4_wakeStop_18_L N fu) (nI s) (nI l) (nI k) h = fX4_wakeStop_18_L N fu (nI s) (nI l) (nI (k + 1)) h := fun hl0 => by
          have cw' : ¬ wk q l s k = true := fun z => cw ⟨z, hl0⟩
          unfold fX4_wakeStop_18 fX4_wakeStop_66
          rw [rdi_n, g1, if_neg hkn, rda_n hk5, b1, nI_1]
          by_cases h1 : q 1 k = s
          · rw [if_pos (by rw [h1]), woken_eq RO hn hk' hl h1, bnd_some, if_neg cw', if_pos rfl]
          · rw [if_neg (fun z => h1 (nI_inj (by omega) (by omega) z))]
        rcases ih (k + 1) (by omega) (by omega) with ⟨e1, e2⟩ | ⟨i, i1, i2, i3, i4, i5⟩
        · exact .inl ⟨fun z => by rw [hstep z]; exact e1 z, e2⟩
        · exact .inr ⟨i, i1, i2, i3, by rw [hstep i3]; exact i4, i5⟩
theorem wake_rel (R : Rel h t q Q n nt B n) (hi : i < n) (hw : wk q l s i = true) : Rel (uA h 15 i 0) (uA (uA t 11 i 0) 16 i 3) (uq (uq q 3 i 0) 7 i 3) Q n nt B i ∧ 1 ≤ q 5 i ∧ q 3 i = 5 := by
  obtain ⟨RS, RC, RH, RP, RO, RB, RT⟩ := R
  have i7 : q 7 i = 1 := by unfold wk at hw; simp at hw; exact hw.1.1
  have ri := RO i hi
  unfold RelO1 at ri
  rw [if_neg (show ¬ i = n by omega)] at ri
  obtain ⟨r0, r1, r2, r3, r4, r5, r6, r7, r8, r9, r10, r11, r12, r13, r14⟩ := ri
  have w12 := r12 i7
  have S2 : Sm t (uA (uA t 11 i 0) 16 i 3) [11, 16] [] [] := Sm_uA.tr Sm_uA
  have eq' : ∀ f, f ≠ 3 → f ≠ 7 → ∀ k, uq (uq q 3 i 0) 7 i 3 f k = q f k := fun f h3 h7 k => by rw [uq_ne h7, uq_ne h3]
  refine ⟨⟨(RS.h_ Sm_uA (by decide) (by decide)).t_ S2 (by decide) (by decide), (RC.h_ Sm_uA (by decide) (by decide) (by decide)).t_ S2 (by decide) (by decide), (RH.h_ Sm_uA (by decide)).t_ S2 (by decide), (RP.h_ Sm_uA (by decide)).t_ S2 (by decide), fun k hk => ?_, ?_, ?_⟩, w12.2.1, w12.1⟩
  · by_cases c : k = i
    · subst c
      unfold RelO1
      rw [if_pos rfl, uq_eq, eq' 0 (by decide) (by decide), eq' 1 (by decide) (by decide), eq' 2 (by decide) (by decide), uq_ne (f := 7) (f' := 3) (by decide), uq_eq, eq' 4 (by decide) (by decide), eq' 5 (by decide) (by decide), eq' 6 (by decide) (by decide), eq' 8 (by decide) (by decide), eq' 9 (by decide) (by decide), eq' 10 (by decide) (by decide)]
      have H : ∀ r, r ≠ 15 → gA (uA h 15 k 0) r k = gA h r k := fun r hr => gA_uA_nk hr
      rw [H 12 (by decide), H 13 (by decide), H 14 (by decide), H 16 (by decide), H 17 (by decide), H 18 (by decide), H 19 (by decide), H 20 (by decide), H 21 (by decide), H 22 (by decide)]
      rw [S2.1 8 k (by decide), S2.1 9 k (by decide), S2.1 10 k (by decide), S2.1 12 k (by decide), S2.1 13 k (by decide), S2.1 14 k (by decide), S2.1 15 k (by decide), S2.1 17 k (by decide), S2.1 18 k (by decide), S2.1 19 k (by decide)]
      refine ⟨r0, r1, r2, ⟨by rw [gA_uA_eq]; rfl, by rw [gA_uA_nk (by decide), gA_uA_eq]; rfl, by omega⟩, r4, r5, r6, ⟨by rw [r7.1, i7], by rw [gA_uA_eq]; rfl, by omega⟩, ⟨r8.1, fun z => by omega⟩, r9, r10, fun z => by omega, fun z => by omega, fun _ => ⟨w12.2.2, fun z => absurd rfl z⟩, fun _ => rfl⟩
    · exact (RO k hk).same (fun r _ _ => gA_uA_ne c) (fun r _ _ => by rw [gA_uA_ne c, gA_uA_ne c]) (fun f => by rw [uq_nk c, uq_nk c]) (Nat.le_refl _) ⟨fun z => by omega, fun z => absurd z c⟩
  · intro b hb
    obtain ⟨b1, b2, b3, b4⟩ := (RB.h_ (h' := uA h 15 i 0) Sm_uA (by decide)) b hb
    have e1 : inBook (uq (uq q 3 i 0) 7 i 3) b = inBook q b := by
      funext k
      unfold inBook
      rw [eq' 1 (by decide) (by decide), eq' 2 (by decide) (by decide)]
      by_cases c : k = i
      · subst c; rw [uq_eq, i7]; rfl
      · rw [uq_nk c, uq_nk c]
    have e2 : ∀ d, qlt (uq (uq q 3 i 0) 7 i 3) d = qlt q d := fun d => by
      funext x y
      exact qlt_congr (eq' 4 (by decide) (by decide) _) (eq' 4 (by decide) (by decide) _) (eq' 8 (by decide) (by decide) _) (eq' 8 (by decide) (by decide) _)
    exact ⟨b1, b2, by rw [e1]; exact b3, by rw [e2]; exact b4⟩
  · rw [gi_uA, RT]
    congr 1
    refine cnt_congr (fun k hk => ?_)
    unfold isThereQ
    by_cases c : k = i
    · subst c
      rw [uq_eq, i7]
      simp
    · rw [uq_nk c, uq_nk c]
      simp [c, show ¬ k = n by omega]
/-- an order and the stops that it wakes -/
theorem order_loop (N : Nat) (hN : 20000 ≤ N) (hs : s < 4) (x8 : Int32) : ∀ (c : Nat) (h t : SH) (q : Nat → Nat → Nat) (Q : Nat → List Nat) (nt B o r fuC fuM : Nat), cnt (fun k => decide (q 3 k = 5)) n ≤ c → Rel h t q Q n nt B o → o < n → 1 ≤ q 5 o → B + bdg c ≤ 64000000 → r + c ≤ 64 → c + 1 < fuC → c < fuM →
    ∃ h' t' q' Q' nt' B', fX4_order_155_L N fuC (nI s) x8 (nI o) (nI r) h = some (.inr x8, h') ∧ (bnd (fX5_act N (nI o) t) fun _ z3 => bnd (fX5_ready N (nI s) z3) fun v5 z4 => fX5_order_319_L N fuM (nI s) x8 v5 z4) = some (x8, t') ∧ Rel h' t' q' Q' n nt' B' n ∧ B' ≤ B + bdg c ∧ gi t' 0 = gi t 0 := by
  intro c
  induction c with
  | zero =>
    intro h t q Q nt B o r fuC fuM hc R ho h5 hB hr hfC hfM
    rw [bdg_0] at hB ⊢
    obtain ⟨h1, t1, q1, Q1, nt1, k1, k2, k3, k4, k5⟩ := act_eq N hN R ho h5 (by omega)
    have hn := k3.1.1
    obtain ⟨p1, p2, p3, p4, l, g, m, hl, hg, hm, e24, -⟩ := k3.2.2.2.1 s hs
    obtain ⟨fuC', rfl⟩ : ∃ f, fuC = f + 2 := ⟨fuC - 2, by omega⟩
    obtain ⟨fuM', rfl⟩ : ∃ f, fuM = f + 1 := ⟨fuM - 1, by omega⟩
    have hom : ¬ nI o = -1 := nI_nem1 (by omega)
    have hr0 : ¬ (100 : Int32) < nI r := by rw [show (100 : Int32) = nI 100 by decide]; exact nI_nlt (by omega) (by omega)
    have hr1 : ¬ (100 : Int32) < nI (r + 1) := by rw [show (100 : Int32) = nI 100 by decide]; exact nI_nlt (by omega) (by omega)
    rcases wake_loop k3.2.2.2.2.1 hn k3.1.2.2.1 k3.1.2.2.2.1 hs hl e24 N N 0 (by omega) (by omega) with ⟨w1, w2⟩ | ⟨i, i1, i2, i3, i4, i5⟩
    · refine ⟨h1, t1, q1, Q1, nt1, B + 10001, ?_, ?_, k3, by omega, k5⟩
      · show fX4_order_155 N (fX4_order_155_L N (fuC' + 1)) _ _ _ _ h = _
        unfold fX4_order_155
        rw [if_neg hr0, if_neg hom, k1, bnd_some]
        have hw : fX4_wakeStop N (nI s) h1 = some (-1, h1) := by
          unfold fX4_wakeStop
          rw [rda_n hs, p1, e24]
          by_cases z : l = 0
          · rw [if_pos (by rw [z_eq (by omega)]; exact z)]
          · rw [if_neg (by rw [z_eq (by omega)]; exact z)]
            exact w1 (by omega)
        rw [hw, bnd_some, nI_1]
        show fX4_order_155 N (fX4_order_155_L N fuC') _ _ _ _ h1 = _
        unfold fX4_order_155 fX4_order_187
        rw [if_neg hr1, if_pos rfl]
      · have hrd : fX5_ready N (nI s) t1 = some (-1, t1) := w2
        rw [k2, bnd_some, hrd, bnd_some]
        show fX5_order_319 N (fX5_order_319_L N fuM') _ _ _ t1 = _
        unfold fX5_order_319
        rw [if_pos rfl]
    · exfalso
      have h3 := (wake_rel k3 i1 i2).2.2
      have : 1 ≤ cnt (fun k => decide (q 3 k = 5)) n := by
        have h4 : q 3 i = 5 := by rw [← k4]; exact h3
        have e := cnt_upd (p := fun k => decide (q 3 k = 5)) (q := fun k => if k = i then false else decide (q 3 k = 5)) i1 (fun k hk hne => by simp [hne])
        simp only [h4, decide_true, if_true] at e
        simp at e
        omega
      omega
  | succ c ih =>
    intro h t q Q nt B o r fuC fuM hc R ho h5 hB hr hfC hfM
    have b1 := bdg_1 (c := c)
    rw [bdg_s, ← Nat.add_assoc] at hB ⊢
    obtain ⟨h1, t1, q1, Q1, nt1, k1, k2, k3, k4, k5⟩ := act_eq N hN R ho h5 (by omega)
    have hn := k3.1.1
    obtain ⟨p1, p2, p3, p4, l, g, m, hl, hg, hm, e24, -⟩ := k3.2.2.2.1 s hs
    obtain ⟨fuC', rfl⟩ : ∃ f, fuC = f + 2 := ⟨fuC - 2, by omega⟩
    obtain ⟨fuM', rfl⟩ : ∃ f, fuM = f + 1 := ⟨fuM - 1, by omega⟩
    have hom : ¬ nI o = -1 := nI_nem1 (by omega)
    have hr0 : ¬ (100 : Int32) < nI r := by rw [show (100 : Int32) = nI 100 by decide]; exact nI_nlt (by omega) (by omega)
    have hr1 : ¬ (100 : Int32) < nI (r + 1) := by rw [show (100 : Int32) = nI 100 by decide]; exact nI_nlt (by omega) (by omega)
    rcases wake_loop k3.2.2.2.2.1 hn k3.1.2.2.1 k3.1.2.2.2.1 hs hl e24 N N 0 (by omega) (by omega) with ⟨w1, w2⟩ | ⟨i, i1, i2, i3, i4, i5⟩
    · refine ⟨h1, t1, q1, Q1, nt1, B + 10001, ?_, ?_, k3, by omega, k5⟩
      · show fX4_order_155 N (fX4_order_155_L N (fuC' + 1)) _ _ _ _ h = _
        unfold fX4_order_155
        rw [if_neg hr0, if_neg hom, k1, bnd_some]
        have hw : fX4_wakeStop N (nI s) h1 = some (-1, h1) := by
          unfold fX4_wakeStop
          rw [rda_n hs, p1, e24]
          by_cases z : l = 0
          · rw [if_pos (by rw [z_eq (by omega)]; exact z)]
          · rw [if_neg (by rw [z_eq (by omega)]; exact z)]
            exact w1 (by omega)
        rw [hw, bnd_some, nI_1]
        show fX4_order_155 N (fX4_order_155_L N fuC') _ _ _ _ h1 = _
        unfold fX4_order_155 fX4_order_187
        rw [if_neg hr1, if_pos rfl]
      · have hrd : fX5_ready N (nI s) t1 = some (-1, t1) := w2
        rw [k2, bnd_some, hrd, bnd_some]
        show fX5_order_319 N (fX5_order_319_L N fuM') _ _ _ t1 = _
        unfold fX5_order_319
        rw [if_pos rfl]
    · obtain ⟨R2, h52, h3⟩ := wake_rel k3 i1 i2
      have hc' : cnt (fun k => decide (uq (uq q1 3 i 0) 7 i 3 3 k = 5)) n ≤ c := by
        have h4 : q 3 i = 5 := by rw [← k4]; exact h3
        have e := cnt_upd (p := fun k => decide (q 3 k = 5)) (q := fun k => decide (uq (uq q1 3 i 0) 7 i 3 3 k = 5)) i1 (fun k hk hne => by
          show decide _ = decide _
          rw [uq_ne (by decide), uq_nk hne, k4])
        have z : decide (uq (uq q1 3 i 0) 7 i 3 3 i = 5) = false := by rw [uq_ne (by decide), uq_eq]; rfl
        simp only [h4, decide_true, if_true, z, Bool.false_eq_true, if_false] at e
        omega
      have h5' : 1 ≤ uq (uq q1 3 i 0) 7 i 3 5 i := by rw [uq_ne (by decide), uq_ne (by decide)]; exact h52
      obtain ⟨h', t', q', Q', nt', B', y1, y2, y3, y4, y5⟩ := ih _ _ _ Q1 nt1 (B + 10001) i (r + 1) (fuC' + 1) fuM' hc' R2 i1 h5' (by omega) (by omega) (by omega) (by omega)
      refine ⟨h', t', q', Q', nt', B', ?_, ?_, y3, by omega, by rw [y5]; exact k5⟩
      · show fX4_order_155 N (fX4_order_155_L N (fuC' + 1)) _ _ _ _ h = _
        unfold fX4_order_155
        rw [if_neg hr0, if_neg hom, k1, bnd_some]
        have hw : fX4_wakeStop N (nI s) h1 = some (nI i, uA h1 15 i 0) := by
          unfold fX4_wakeStop
          rw [rda_n hs, p1, e24, if_neg (by rw [z_eq (by omega)]; omega)]
          exact i4
        rw [hw, bnd_some, nI_1]
        exact y1
      · have hrd : fX5_ready N (nI s) t1 = some (nI i, t1) := i5
        rw [k2, bnd_some, hrd, bnd_some]
        show fX5_order_319 N (fX5_order_319_L N fuM') _ _ _ t1 = _
        unfold fX5_order_319
        rw [if_neg (show ¬ nI i = -1 from nI_nem1 (by omega)), wra_n (show i < 520 by omega), wra_n (show i < 520 by omega)]
        exact y2
end Wake2
