/-! ===== an order goes out of a book, or comes into one ===== -/
section Put
variable {h h' t : SH} {q q' : Nat → Nat → Nat} {Q : Nat → List Nat} {n nt B o : Nat}
theorem gA_uA_ne {z : SH} {k j k' j' : Nat} {v : Int32} (hj : j' ≠ j) : gA (uA z k j v) k' j' = gA z k' j' := by rw [gA_uA, if_neg (fun e => hj e.2)]
theorem gA_uA_nk {z : SH} {k j k' j' : Nat} {v : Int32} (hk : k' ≠ k) : gA (uA z k j v) k' j' = gA z k' j' := by rw [gA_uA, if_neg (fun e => hk e.1)]
theorem gA_uA_eq {z : SH} {k j : Nat} {v : Int32} : gA (uA z k j v) k j = v := by rw [gA_uA, if_pos ⟨rfl, rfl⟩]
theorem qlt_congr {d i j : Nat} (hi4 : q' 4 i = q 4 i) (hj4 : q' 4 j = q 4 j) (hi8 : q' 8 i = q 8 i) (hj8 : q' 8 j = q 8 j) : qlt q' d i j = qlt q d i j := by
  unfold qlt qbet
  rw [hi4, hj4, hi8, hj8]
theorem RelB_drop (R : RelB h q Q n) {k i0 bb : Nat} (hk : k < n) (hbb : bb = 2 * q 1 k + q 2 k) (hi0 : i0 < (Q bb).length) (hg0 : (Q bb).getD i0 0 = k)
    (h24 : ∀ b, b < 8 → gA h' 24 b = nI ((if b = bb then (Q b).eraseIdx i0 else Q b)).length)
    (h23 : ∀ b, b < 8 → ∀ i, i < (if b = bb then (Q b).eraseIdx i0 else Q b).length → gA h' 23 (100 * b + ((if b = bb then (Q b).eraseIdx i0 else Q b).length - 1 - i)) = nI ((if b = bb then (Q b).eraseIdx i0 else Q b).getD i 0))
    (hq : ∀ f k', f = 1 ∨ f = 2 ∨ f = 4 ∨ f = 8 → q' f k' = q f k') (hq7 : ∀ k', k' ≠ k → q' 7 k' = q 7 k') (hq7k : q' 7 k ≠ 0) : RelB h' q' (fun b => if b = bb then (Q b).eraseIdx i0 else Q b) n := by
  intro b hb
  obtain ⟨r1, r2, r3, r4⟩ := R b hb
  refine ⟨h24 b hb, h23 b hb, ?_, ?_⟩
  · show holdsAll (inBook q' b) n (if b = bb then (Q b).eraseIdx i0 else Q b)
    by_cases c : b = bb
    · subst c
      rw [if_pos rfl]
      refine ⟨r3.1.sublist (List.eraseIdx_sublist _ _), fun k' => ?_⟩
      rw [List.mem_eraseIdx_iff_getElem]
      constructor
      · rintro ⟨i, hi, hne, rfl⟩
        have h1 := (r3.2 _).mp (List.getElem_mem hi)
        have h2 : (Q b)[i] ≠ k := by
          intro e
          apply hne
          refine getD_inj r3.1 hi hi0 ?_
          rw [hg0, List.getD_eq_getElem?_getD, List.getElem?_eq_getElem hi]
          exact e
        refine ⟨h1.1, ?_⟩
        have h3 := h1.2
        unfold inBook at h3 ⊢
        rw [hq7 _ h2, hq 1 _ (by simp), hq 2 _ (by simp)]
        exact h3
      · rintro ⟨h1, h2⟩
        have h3 : k' ≠ k := by
          rintro rfl
          unfold inBook at h2
          simp [hq7k] at h2
        have h4 : k' ∈ Q b := (r3.2 k').mpr ⟨h1, by
          unfold inBook at h2 ⊢
          rw [hq7 _ h3, hq 1 _ (by simp), hq 2 _ (by simp)] at h2
          exact h2⟩
        obtain ⟨i, hi, e⟩ := List.getElem_of_mem h4
        refine ⟨i, hi, ?_, e⟩
        rintro rfl
        rw [List.getD_eq_getElem?_getD, List.getElem?_eq_getElem hi] at hg0
        exact h3 (e.symm.trans hg0)
    · rw [if_neg c]
      refine ⟨r3.1, fun k' => ?_⟩
      rw [r3.2 k']
      unfold inBook
      rw [hq 1 _ (by simp), hq 2 _ (by simp)]
      by_cases e : k' = k
      · subst e
        simp [hq7k]
        intro _ _ h5
        exact c (by omega)
      · rw [hq7 _ e]
  · have hs : (if b = bb then (Q b).eraseIdx i0 else Q b).Pairwise (fun i j => qlt q (b % 2) i j = true) := by
      by_cases c : b = bb
      · rw [if_pos c]; exact r4.sublist (List.eraseIdx_sublist _ _)
      · rw [if_neg c]; exact r4
    exact hs.imp (fun {i j} g => by rw [qlt_congr (hq 4 i (by simp)) (hq 4 j (by simp)) (hq 8 i (by simp)) (hq 8 j (by simp))]; exact g)
/-- the shift for an order that comes: rows from the best one down to the place p -/
theorem put_shift (N : Nat) {b s k : Nat} {x3 x4 : Int32} {stop : Nat → Prop} (hb : b < 8) (hk : k < 64) (hx : ∀ p, 1 ≤ p → p ≤ 10000 → ((x3 * nI p < x4) = stop p)) :
    ∀ (fu m : Nat) (h : SH), s + m < 800 → m < fu → (∀ x, s ≤ x → x < s + m → ∃ j, j < 64 ∧ gA h 23 x = nI j ∧ 1 ≤ q 4 j ∧ q 4 j ≤ 10000 ∧ gA h 16 j = nI (q 4 j)) →
      ∃ (h' : SH) (p : Nat), fX0_putLast_82_L N fu (nI k) (nI b) x3 x4 (nI s) (nI (s + m)) h = some ((), h') ∧ Sm h h' [23, 24] [] [] ∧ p ≤ m ∧
        (∀ x, x < s + p ∨ s + m < x → gA h' 23 x = gA h 23 x) ∧ gA h' 23 (s + p) = nI k ∧ (∀ x, s + p < x → x ≤ s + m → gA h' 23 x = gA h 23 (x - 1)) ∧ (∀ b', gA h' 24 b' = if b' = b then gA h 24 b + 1 else gA h 24 b') ∧
        (∀ x j, s + p ≤ x → x < s + m → j < 64 → gA h 23 x = nI j → ¬ stop (q 4 j)) ∧ (∀ x j, x + 1 = s + p → s ≤ x → j < 64 → gA h 23 x = nI j → stop (q 4 j)) := by
  intro fu
  induction fu with
  | zero => intro m h _ hf; omega
  | succ fu ih =>
    intro m h hs hf hrow
    have hstep : fX0_putLast_82_L N (fu + 1) (nI k) (nI b) x3 x4 (nI s) (nI (s + m)) h = fX0_putLast_82 N (fX0_putLast_82_L N fu) (nI k) (nI b) x3 x4 (nI s) (nI (s + m)) h := rfl
    rw [hstep]
    unfold fX0_putLast_82 fX0_putLast_135
    have hend : wra h 23 800 (nI (s + m)) (nI k) (fun z1 => rda z1 24 8 (nI b) fun v2 => wra z1 24 8 (nI b) (v2 + 1) fun z3 => some ((), z3)) = some ((), uA (uA h 23 (s + m) (nI k)) 24 b (gA h 24 b + 1)) := by
      rw [wra_n hs, rda_n hb, wra_n hb, gA_uA_nk (by decide)]
    have hSm : Sm h (uA (uA h 23 (s + m) (nI k)) 24 b (gA h 24 b + 1)) [23, 24] [] [] := Sm_uA.tr Sm_uA
    by_cases c : m = 0
    · subst c
      rw [if_pos (nI_le (by omega) (by omega)), hend]
      refine ⟨_, 0, rfl, hSm, Nat.le_refl _, fun x hx => ?_, ?_, fun x h1 h2 => by omega, fun b' => ?_, fun x j h1 h2 => by omega, fun x j h1 h2 => by omega⟩
      · rw [gA_uA_nk (by decide), gA_uA_ne (by omega)]
      · rw [gA_uA_nk (by decide), gA_uA_eq]
      · rw [gA_uA]
        by_cases e : b' = b
        · simp [e]
        · simp [e]; rw [gA_uA_nk (by decide)]
    · obtain ⟨m', rfl⟩ : ∃ m', m = m' + 1 := ⟨m - 1, by omega⟩
      obtain ⟨j, hj, hj1, hj2, hj3, hj4⟩ := hrow (s + m') (by omega) (by omega)
      have e1 : (nI (s + (m' + 1)) - 1 : Int32) = nI (s + m') := by rw [show (1 : Int32) = nI 1 by decide, pk_sub (by omega)]; congr 1
      rw [if_neg (nI_ge (by omega) (by omega)), e1, rda_n (show s + m' < 800 by omega), hj1, rda_n (show j < 512 by omega), hj4]
      by_cases c2 : stop (q 4 j)
      · rw [if_pos (by rw [hx _ hj2 hj3]; exact c2), hend]
        refine ⟨_, m' + 1, rfl, hSm, Nat.le_refl _, fun x hx => ?_, ?_, fun x h1 h2 => by omega, fun b' => ?_, fun x j h1 h2 => by omega, fun x j' h1 h2 h3 h4 => ?_⟩
        · rw [gA_uA_nk (by decide), gA_uA_ne (by omega)]
        · rw [gA_uA_nk (by decide), gA_uA_eq]
        · rw [gA_uA]
          by_cases e : b' = b
          · simp [e]
          · simp [e]; rw [gA_uA_nk (by decide)]
        · have : x = s + m' := by omega
          subst this
          rw [hj1] at h4
          rw [← nI_inj (by omega) (by omega) h4]
          exact c2
      · rw [if_neg (by rw [hx _ hj2 hj3]; exact c2), rda_n (show s + m' < 800 by omega), hj1, wra_n (show s + (m' + 1) < 800 by omega), show nI (s + (m' + 1)) + -1 = nI (s + m') from pk_m1 (s + m')]
        obtain ⟨h', p, k1, k2, k3, k4, k5, k6, k7, k8, k9⟩ := ih m' (uA h 23 (s + (m' + 1)) (nI j)) (by omega) (by omega) (fun x h1 h2 => by
          obtain ⟨j', g1, g2, g3, g4, g5⟩ := hrow x h1 (by omega)
          exact ⟨j', g1, by rw [gA_uA_ne (by omega)]; exact g2, g3, g4, by rw [gA_uA_nk (by decide)]; exact g5⟩)
        refine ⟨h', p, k1, ?_, by omega, fun x hx => ?_, k5, fun x h1 h2 => ?_, fun b' => ?_, fun x j' h1 h2 h3 h4 => ?_, fun x j' h1 h2 h3 h4 => ?_⟩
        · have S := Sm.tr (Sm_uA (h := h) (k := 23) (j := s + (m' + 1)) (v := nI j)) k2
          exact ⟨fun k j hk => S.1 k j (fun z => hk (by simp at z ⊢; omega)), fun k hk => S.2.1 k (fun z => by simp at z), fun k j hk => S.2.2 k j (fun z => by simp at z)⟩
        · rw [k4 x (by omega), gA_uA_ne (by omega)]
        · by_cases e : x = s + (m' + 1)
          · subst e
            rw [k4 _ (by omega), gA_uA_eq, show s + (m' + 1) - 1 = s + m' by omega, hj1]
          · rw [k6 x h1 (by omega), gA_uA_ne (by omega)]
        · rw [k7 b', gA_uA_nk (by decide), gA_uA_nk (by decide)]
        · by_cases e : x = s + m'
          · subst e
            rw [hj1] at h4
            rw [← nI_inj (by omega) (by omega) h4]
            exact c2
          · exact k8 x j' h1 (by omega) h3 (by rw [gA_uA_ne (by omega)]; exact h4)
        · exact k9 x j' h1 h2 h3 (by rw [gA_uA_ne (by omega)]; exact h4)
theorem sgn1 {a : Nat} : (1 * nI a : Int32) = nI a := Int32.one_mul _
theorem sgnm {a b : Nat} (ha : a < 2 ^ 30) (hb : b < 2 ^ 30) : ((-1) * nI a < (-1) * nI b) = (b < a) := by
  have e : ∀ c : Nat, c < 2 ^ 30 → ((-1) * nI c : Int32).toInt = -(c : Int) := by
    intro c hc
    have h1 := nI_toInt (n := c) (by omega)
    have h2 : (-1 : Int32).toInt = -1 := by decide
    rw [fb_mulI (by rw [h1, h2]; omega) (by rw [h1, h2]; omega), h1, h2]
    omega
  apply propext
  rw [Int32.lt_iff_toInt_lt, e a ha, e b hb]
  omega
/-- an order comes into its book, behind all that are as good -/
theorem putLast_eq (N : Nat) (hN : 20000 ≤ N) (R : RelB h q Q n) (hn : n ≤ 64) {k : Nat} (hk : k < n) (hpr : ∀ j, j < n → gA h 16 j = nI (q 4 j) ∧ 1 ≤ q 4 j ∧ q 4 j ≤ 10000) (h13 : gA h 13 k = nI (q 1 k)) (h14 : gA h 14 k = nI (q 2 k)) (hq1 : q 1 k < 4) (hq2 : q 2 k < 2) (hq7 : q 7 k ≠ 0)
    (hq : ∀ f k', f = 1 ∨ f = 2 ∨ f = 4 → q' f k' = q f k') (hq78 : ∀ k', k' ≠ k → q' 7 k' = q 7 k' ∧ q' 8 k' = q 8 k') (hq7k : q' 7 k = 0) (hq8k : q' 8 k = nt) (ht : ∀ j, j < n → q 7 j = 0 → q 8 j < nt) :
    ∃ (h' : SH) (Q' : Nat → List Nat), fX0_putLast N (nI k) h = some ((), h') ∧ Sm h h' [23, 24] [] [] ∧ RelB h' q' Q' n := by
  obtain ⟨bb, hbb⟩ : ∃ bb, bb = 2 * q 1 k + q 2 k := ⟨_, rfl⟩
  have hb8 : bb < 8 := by omega
  obtain ⟨r1, r2, r3, r4⟩ := R bb hb8
  have hlen : (Q bb).length < 64 := by
    have h1 := cnt_list r3
    have h2 := cnt_upd (p := inBook q bb) (q := fun j => if j = k then true else inBook q bb j) (i := k) hk (fun j _ hne => by simp [hne])
    have h3 : inBook q bb k = false := by unfold inBook; simp [hq7]
    have h4 := cnt_le (fun j => if j = k then true else inBook q bb j) n
    simp only [h3, if_true, Bool.false_eq_true, if_false] at h2
    omega
  have hkQ : k ∉ Q bb := fun hm => by
    have := ((r3.2 k).mp hm).2
    unfold inBook at this
    simp [hq7] at this
  have hmem : ∀ j, j ∈ Q bb → j < n ∧ j ≠ k ∧ q 7 j = 0 := fun j hj => by
    have h1 := (r3.2 j).mp hj
    refine ⟨h1.1, fun e => hkQ (e ▸ hj), ?_⟩
    have h2 := h1.2
    unfold inBook at h2
    simp at h2
    exact h2.1
  have e1 : (nI bb * 100 : Int32) = nI (100 * bb) := by rw [show (100 : Int32) = nI 100 by decide, pk_mul, Nat.mul_comm]
  have e3 : ((nI (q 1 k) * 2) + nI (q 2 k) : Int32) = nI bb := by rw [show (2 : Int32) = nI 2 by decide, pk_mul, nI_add, hbb, Nat.mul_comm]
  obtain ⟨g16, hp1, hp2⟩ := hpr k hk
  generalize hl : (Q bb).length = len at *
  have hrow : ∀ x, 100 * bb ≤ x → x < 100 * bb + len → ∃ j, j < 64 ∧ gA h 23 x = nI j ∧ 1 ≤ q 4 j ∧ q 4 j ≤ 10000 ∧ gA h 16 j = nI (q 4 j) := by
    intro x h1 h2
    have h3 := r2 (100 * bb + len - 1 - x) (by omega)
    rw [show 100 * bb + (len - 1 - (100 * bb + len - 1 - x)) = x by omega] at h3
    have h4 := (hmem _ (getD_mem (L := Q bb) (i := 100 * bb + len - 1 - x) (by omega))).1
    obtain ⟨a, b, c⟩ := hpr _ h4
    exact ⟨_, by omega, h3, b, c, a⟩
  have hcall : ∃ (h' : SH) (p : Nat), fX0_putLast N (nI k) h = some ((), h') ∧ Sm h h' [23, 24] [] [] ∧ p ≤ len ∧
        (∀ x, x < 100 * bb + p ∨ 100 * bb + len < x → gA h' 23 x = gA h 23 x) ∧ gA h' 23 (100 * bb + p) = nI k ∧ (∀ x, 100 * bb + p < x → x ≤ 100 * bb + len → gA h' 23 x = gA h 23 (x - 1)) ∧ (∀ b', gA h' 24 b' = if b' = bb then gA h 24 bb + 1 else gA h 24 b') ∧
        (∀ x j, 100 * bb + p ≤ x → x < 100 * bb + len → j < 64 → gA h 23 x = nI j → qbet q (bb % 2) k j = false) ∧ (∀ x j, x + 1 = 100 * bb + p → 100 * bb ≤ x → j < 64 → gA h 23 x = nI j → qbet q (bb % 2) k j = true) := by
    have hk5 : k < 512 := by omega
    unfold fX0_putLast fX0_bookOf fX0_putLast_51
    rw [rda_n hk5, h13, rda_n hk5, h14, bnd_some, e3, rda_n hb8, r1, if_pos (by rw [show (100 : Int32) = nI 100 by decide]; exact nI_lt (by omega) (by decide)), rda_n hk5, h14]
    have hz : (nI (q 2 k) = 0) = (q 2 k = 0) := by rw [show (0 : Int32) = nI 0 by decide]; exact nI_eq' (by omega) (by decide)
    by_cases c : q 2 k = 0
    · rw [if_pos (by rw [hz]; exact c), rda_n hk5, g16, rda_n hb8, r1, e1, nI_add]
      have hd : bb % 2 = 0 := by omega
      obtain ⟨h', p, k1, k2, k3, k4, k5, k6, k7, k8, k9⟩ := put_shift (q := q) N (b := bb) (s := 100 * bb) (k := k) (x3 := 1) (x4 := 1 * nI (q 4 k)) (stop := fun p => p < q 4 k) hb8 (by omega) (fun p h1 h2 => by rw [sgn1, sgn1]; exact nI_lt' (by omega) (by omega)) N len h (by omega) (by omega) hrow
      refine ⟨h', p, k1, k2, k3, k4, k5, k6, fun b' => by rw [k7 b', r1], fun x j a1 a2 a3 a4 => ?_, fun x j a1 a2 a3 a4 => ?_⟩
      · have := k8 x j a1 a2 a3 a4
        unfold qbet
        rw [if_pos hd]
        simp only [decide_eq_false_iff_not]
        exact this
      · have := k9 x j a1 a2 a3 a4
        unfold qbet
        rw [if_pos hd]
        simp only [decide_eq_true_eq]
        exact this
    · rw [if_neg (by rw [hz]; exact c), rda_n hk5, g16, rda_n hb8, r1, e1, nI_add]
      have hd : ¬ bb % 2 = 0 := by omega
      obtain ⟨h', p, k1, k2, k3, k4, k5, k6, k7, k8, k9⟩ := put_shift (q := q) N (b := bb) (s := 100 * bb) (k := k) (x3 := -1) (x4 := (-1) * nI (q 4 k)) (stop := fun p => q 4 k < p) hb8 (by omega) (fun p h1 h2 => sgnm (by omega) (by omega)) N len h (by omega) (by omega) hrow
      refine ⟨h', p, k1, k2, k3, k4, k5, k6, fun b' => by rw [k7 b', r1], fun x j a1 a2 a3 a4 => ?_, fun x j a1 a2 a3 a4 => ?_⟩
      · have := k8 x j a1 a2 a3 a4
        unfold qbet
        rw [if_neg hd]
        simp only [decide_eq_false_iff_not]
        exact this
      · have := k9 x j a1 a2 a3 a4
        unfold qbet
        rw [if_neg hd]
        simp only [decide_eq_true_eq]
        exact this
  obtain ⟨h', p, k1, k2, k3, k4, k5, k6, k7, k8, k9⟩ := hcall
  have hQl : ((Q bb).take (len - p) ++ k :: (Q bb).drop (len - p)).length = len + 1 := by simp; omega
  have hget : ∀ i, ((Q bb).take (len - p) ++ k :: (Q bb).drop (len - p)).getD i 0 = if i < len - p then (Q bb).getD i 0 else if i = len - p then k else (Q bb).getD (i - 1) 0 := by
    intro i
    rw [List.getD_eq_getElem?_getD, List.getElem?_append, List.length_take, hl, Nat.min_eq_left (by omega)]
    by_cases c : i < len - p
    · rw [if_pos c, if_pos c, List.getElem?_take, if_pos c, ← List.getD_eq_getElem?_getD]
    · rw [if_neg c, if_neg c]
      by_cases c2 : i = len - p
      · rw [if_pos c2, c2]; simp
      · rw [if_neg c2, show i - (len - p) = (i - (len - p) - 1) + 1 by omega, List.getElem?_cons_succ, List.getElem?_drop, ← List.getD_eq_getElem?_getD]
        congr 1
        omega
  -- the rows of the book, by number
  have hbetT : ∀ i, i < len - p → qbet q (bb % 2) k ((Q bb).getD i 0) = false := fun i hi => by
    have hm := hmem _ (getD_mem (L := Q bb) (i := i) (by omega))
    exact k8 (100 * bb + (len - 1 - i)) _ (by omega) (by omega) (by omega) (r2 i (by omega))
  have hbetD0 : ∀ hp : 0 < p, qbet q (bb % 2) k ((Q bb).getD (len - p) 0) = true := fun hp => by
    have hm := hmem _ (getD_mem (L := Q bb) (i := len - p) (by omega))
    exact k9 (100 * bb + (len - 1 - (len - p))) _ (by omega) (by omega) (by omega) (r2 (len - p) (by omega))
  have hpw := List.pairwise_iff_getElem.mp r4
  have hbetD : ∀ i, len - p ≤ i → i < len → qbet q (bb % 2) k ((Q bb).getD i 0) = true := fun i h1 h2 => by
    by_cases c : i = len - p
    · rw [c]; exact hbetD0 (by omega)
    · have g1 := hbetD0 (by omega)
      have g2 := hpw (len - p) i (by omega) (by omega) (by omega)
      rw [List.getD_eq_getElem?_getD, List.getElem?_eq_getElem (by omega)] at g1 ⊢
      simp only [Option.getD_some] at g1 ⊢
      unfold qlt at g2
      unfold qbet at g1 g2 ⊢
      split <;> rename_i hd <;> simp [hd] at g1 g2 ⊢ <;> omega
  refine ⟨h', fun b => if b = bb then (Q bb).take (len - p) ++ k :: (Q bb).drop (len - p) else Q b, k1, k2, fun b hb => ?_⟩
  by_cases c : b = bb
  · subst c
    simp only [if_true]
    refine ⟨?_, fun i hi => ?_, ⟨?_, fun j => ?_⟩, ?_⟩
    · rw [k7, if_pos rfl, hQl, r1, nI_1]
    · rw [hQl] at hi ⊢
      rw [hget]
      by_cases c1 : i < len - p
      · rw [if_pos c1, k6 _ (by omega) (by omega), ← r2 i (by omega)]
        congr 1
        omega
      · rw [if_neg c1]
        by_cases c2 : i = len - p
        · rw [if_pos c2, ← k5]
          congr 1
          omega
        · rw [if_neg c2, k4 _ (by omega), ← r2 (i - 1) (by omega)]
          congr 1
          omega
    · rw [List.nodup_append]
      refine ⟨r3.1.sublist (List.take_sublist _ _), List.nodup_cons.mpr ⟨fun hm => hkQ (List.mem_of_mem_drop hm), r3.1.sublist (List.drop_sublist _ _)⟩, fun a ha b' hb' => ?_⟩
      rcases List.mem_cons.mp hb' with e | e
      · subst e
        intro e2
        exact hkQ (e2 ▸ List.mem_of_mem_take ha)
      · have := r3.1
        rw [← List.take_append_drop (len - p) (Q b), List.nodup_append] at this
        exact this.2.2 a ha b' e
    · rw [List.mem_append, List.mem_cons]
      have hj : (j ∈ (Q b).take (len - p) ∨ j ∈ (Q b).drop (len - p)) ↔ j ∈ Q b := by rw [← List.mem_append, List.take_append_drop]
      by_cases e : j = k
      · subst e
        simp only [true_or, or_true, true_iff]
        refine ⟨hk, ?_⟩
        unfold inBook
        rw [hq7k, hq 1 _ (by simp), hq 2 _ (by simp)]
        simp [hbb]
      · have h1 : inBook q' b j = inBook q b j := by
          unfold inBook
          rw [(hq78 j e).1, hq 1 _ (by simp), hq 2 _ (by simp)]
        rw [h1, ← r3.2 j, ← hj]
        simp [e]
    · have hcg : ∀ i j, i ≠ k → j ≠ k → qlt q' (b % 2) i j = qlt q (b % 2) i j := fun i j hi hj => qlt_congr (hq 4 i (by simp)) (hq 4 j (by simp)) (hq78 i hi).2 (hq78 j hj).2
      have hin : ∀ a, a ∈ (Q b).take (len - p) → ∃ i, i < len - p ∧ (Q b).getD i 0 = a := fun a ha => by
        obtain ⟨i, hi, e⟩ := List.getElem_of_mem ha
        rw [List.length_take] at hi
        refine ⟨i, by omega, ?_⟩
        rw [List.getD_eq_getElem?_getD, List.getElem?_eq_getElem (by omega)]
        simpa using e
      have hin2 : ∀ a, a ∈ (Q b).drop (len - p) → ∃ i, len - p ≤ i ∧ i < len ∧ (Q b).getD i 0 = a := fun a ha => by
        obtain ⟨i, hi, e⟩ := List.getElem_of_mem ha
        rw [List.length_drop] at hi
        refine ⟨len - p + i, by omega, by omega, ?_⟩
        rw [List.getD_eq_getElem?_getD, List.getElem?_eq_getElem (by omega)]
        simpa using e
      have r4' : ((Q b).take (len - p) ++ (Q b).drop (len - p)).Pairwise (fun i j => qlt q (b % 2) i j = true) := by rw [List.take_append_drop]; exact r4
      obtain ⟨p1, p2, p3⟩ := List.pairwise_append.mp r4'
      refine List.pairwise_append.mpr ⟨p1.imp_of_mem (fun {i j} hi hj g => ?_), List.pairwise_cons.mpr ⟨fun a ha => ?_, p2.imp_of_mem (fun {i j} hi hj g => ?_)⟩, fun a ha c hc => ?_⟩
      · rw [hcg i j (hmem i (List.mem_of_mem_take hi)).2.1 (hmem j (List.mem_of_mem_take hj)).2.1]; exact g
      · obtain ⟨i, i1, i2, e⟩ := hin2 a ha
        have g := hbetD i i1 i2
        rw [e] at g
        unfold qlt
        have : qbet q' (b % 2) k a = qbet q (b % 2) k a := by unfold qbet; rw [hq 4 _ (by simp), hq 4 _ (by simp)]
        rw [this, g]
        rfl
      · rw [hcg i j (hmem i (List.mem_of_mem_drop hi)).2.1 (hmem j (List.mem_of_mem_drop hj)).2.1]; exact g
      · rcases List.mem_cons.mp hc with e | e
        · subst e
          obtain ⟨i, i1, e⟩ := hin a ha
          have g := hbetT i i1
          rw [e] at g
          have hm := hmem a (List.mem_of_mem_take ha)
          have h8 := ht a hm.1 hm.2.2
          unfold qlt
          rw [(hq78 a hm.2.1).2, hq8k, hq 4 _ (by simp), hq 4 _ (by simp)]
          have : qbet q' (b % 2) a c = qbet q (b % 2) a c := by unfold qbet; rw [hq 4 _ (by simp), hq 4 _ (by simp)]
          rw [this]
          unfold qbet at g ⊢
          split <;> rename_i hd <;> simp [hd] at g ⊢ <;> omega
        · rw [hcg a c (hmem a (List.mem_of_mem_take ha)).2.1 (hmem c (List.mem_of_mem_drop e)).2.1]
          exact p3 a ha c e
  · simp only [if_neg c]
    obtain ⟨s1, s2, s3, s4⟩ := R b hb
    have hl2 := book_len R hn hb
    refine ⟨by rw [k7, if_neg c]; exact s1, fun i hi => by rw [k4 _ (by omega)]; exact s2 i hi, ⟨s3.1, fun j => ?_⟩, s4.imp_of_mem (fun {i j} hi hj g => ?_)⟩
    · rw [s3.2 j]
      unfold inBook
      rw [hq 1 _ (by simp), hq 2 _ (by simp)]
      by_cases e : j = k
      · subst e
        have h9 : ¬ 2 * q 1 j + q 2 j = b := by omega
        simp [hq7, hq7k, h9]
      · rw [(hq78 j e).1]
    · have hne : ∀ j, j ∈ Q b → j ≠ k := fun j hj e => by
        have := ((s3.2 j).mp hj).2
        unfold inBook at this
        rw [e] at this
        simp [hq7] at this
      rw [qlt_congr (hq 4 i (by simp)) (hq 4 j (by simp)) (hq78 i (hne i hi)).2 (hq78 j (hne j hj)).2]
      exact g
end Put
