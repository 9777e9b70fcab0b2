/-! ===== the prices of a book ===== -/
/-- the prices of a row one by one, those left out that are as the one before -/
def dd (bf : Nat) : List Nat → List Nat
  | [] => []
  | a :: L => if a = bf then dd bf L else a :: dd a L
def hd0 (L : List Nat) : Nat := L.headD 0
theorem dd_n {bf : Nat} : dd bf [] = [] := rfl
theorem dd_c {bf a : Nat} {L : List Nat} : dd bf (a :: L) = if a = bf then dd bf L else a :: dd a L := rfl
theorem dd_len {a : Nat} (ha : a ≠ 0) : ∀ {L : List Nat}, (∀ x, x ∈ L → x ≠ 0) → (dd 0 (a :: L)).length = (dd 0 L).length + (if a = hd0 L then 0 else 1)
  | [], _ => by rw [dd_c, if_neg ha, dd_n, dd_n, if_neg (show ¬ a = hd0 [] from ha)]; rfl
  | b :: M, h => by
    have hb := h b List.mem_cons_self
    rw [dd_c, if_neg ha, dd_c, dd_c, if_neg hb]
    show (if b = a then dd a M else b :: dd b M).length + 1 = (dd b M).length + 1 + (if a = b then 0 else 1)
    by_cases c : b = a
    · subst c
      rw [if_pos rfl, if_pos rfl]
    · rw [if_neg c, if_neg (fun z => c z.symm)]
      rfl
theorem betN_irr {d a : Nat} : betN d a a = false := by unfold betN; by_cases c : d = 0 <;> simp [c]
theorem betN_tr {d a b c : Nat} (h1 : betN d a b = true) (h2 : betN d b c = true) : betN d a c = true := by
  unfold betN at *
  by_cases e : d = 0 <;> simp [e] at h1 h2 ⊢ <;> omega
theorem betN_tot {d a b : Nat} (h : a ≠ b) : betN d a b = true ∨ betN d b a = true := by
  unfold betN
  by_cases e : d = 0 <;> simp [e] <;> omega
/-- of prices that get worse: those behind the one before -/
theorem dd_mem {d : Nat} : ∀ {L : List Nat} {bf : Nat}, L.Pairwise (fun a b => a = b ∨ betN d a b = true) → (bf = 0 ∧ (∀ x, x ∈ L → x ≠ 0) ∨ (∀ x, x ∈ L → bf = x ∨ betN d bf x = true)) → (dd bf L).Pairwise (fun a b => betN d a b = true) ∧ ∀ v, v ∈ dd bf L ↔ (v ∈ L ∧ v ≠ bf)
  | [], bf, _, _ => ⟨List.Pairwise.nil, fun v => by rw [dd_n]; simp⟩
  | a :: L, bf, hp, hb => by
    obtain ⟨p1, p2⟩ := List.pairwise_cons.mp hp
    rw [dd_c]
    by_cases c : a = bf
    · subst c
      rw [if_pos rfl]
      obtain ⟨r1, r2⟩ := dd_mem (bf := a) p2 (.inr p1)
      refine ⟨r1, fun v => ?_⟩
      rw [r2 v, List.mem_cons]
      constructor
      · rintro ⟨x, y⟩; exact ⟨.inr x, y⟩
      · rintro ⟨x | x, y⟩
        · exact absurd x y
        · exact ⟨x, y⟩
    · rw [if_neg c]
      obtain ⟨r1, r2⟩ := dd_mem (bf := a) p2 (.inr p1)
      refine ⟨List.pairwise_cons.mpr ⟨fun v hv => ?_, r1⟩, fun v => ?_⟩
      · obtain ⟨x, y⟩ := (r2 v).mp hv
        rcases p1 v x with e | e
        · exact absurd e.symm y
        · exact e
      · rw [List.mem_cons, r2 v, List.mem_cons]
        constructor
        · rintro (x | ⟨x, y⟩)
          · exact ⟨.inl x, x ▸ c⟩
          · refine ⟨.inr x, fun z => ?_⟩
            rcases hb with ⟨e1, e2⟩ | e
            · exact e2 v (List.mem_cons_of_mem _ x) (z.trans e1)
            · have q1 : betN d bf a = true := by
                rcases e a List.mem_cons_self with e | e
                · exact absurd e.symm c
                · exact e
              have q2 : betN d a v = true := by
                rcases p1 v x with e | e
                · exact absurd e.symm y
                · exact e
              have q3 := betN_tr q1 q2
              rw [z, betN_irr] at q3
              cases q3
        · rintro ⟨x | x, y⟩
          · exact .inl x
          · by_cases e : v = a
            · exact .inl e
            · exact .inr ⟨x, e⟩
section Levels
variable {h h' t t' : SH} {q q' : Nat → Nat → Nat} {Q Q' : Nat → List Nat} {n nt nt' B o o' k : Nat}
def prs (q : Nat → Nat → Nat) (L : List Nat) : List Nat := L.map (q 4)
theorem prs_c {a : Nat} {L : List Nat} : prs q (a :: L) = q 4 a :: prs q L := rfl
theorem prs_ne (RO : RelO h t q n nt o) (RB : RelB h q Q n) {b : Nat} (hb : b < 8) : ∀ x, x ∈ prs q (Q b) → x ≠ 0 ∧ x ≤ 10000 := by
  intro x hx
  obtain ⟨m, m1, rfl⟩ := List.mem_map.mp hx
  obtain ⟨-, -, -, -, ⟨-, -, p3, p4⟩, -⟩ := RO m (RB.mem hb m1).1
  exact ⟨by omega, p4⟩
theorem prs_pw (RB : RelB h q Q n) {b : Nat} (hb : b < 8) : (prs q (Q b)).Pairwise (fun x y => x = y ∨ betN (b % 2) x y = true) := by
  unfold prs
  rw [List.pairwise_map]
  refine (RB b hb).2.2.2.imp (fun {i j} z => ?_)
  unfold qlt at z
  rw [qbet_N] at z
  simp only [Bool.or_eq_true, Bool.and_eq_true, decide_eq_true_eq] at z
  rcases z with z | z
  · exact .inr z
  · exact .inl z.1
theorem lv_facts (RO : RelO h t q n nt o) (RB : RelB h q Q n) {b : Nat} (hb : b < 8) : (dd 0 (prs q (Q b))).Pairwise (fun x y => betN (b % 2) x y = true) ∧ ∀ v, v ∈ dd 0 (prs q (Q b)) ↔ ∃ j, j < n ∧ inBook q b j = true ∧ q 4 j = v := by
  have hne := prs_ne RO RB hb
  obtain ⟨r1, r2⟩ := dd_mem (bf := 0) (prs_pw RB hb) (.inl ⟨rfl, fun x hx => (hne x hx).1⟩)
  refine ⟨r1, fun v => ?_⟩
  rw [r2 v]
  constructor
  · rintro ⟨x, y⟩
    obtain ⟨m, m1, rfl⟩ := List.mem_map.mp x
    have := ((RB b hb).2.2.1.2 m).mp m1
    exact ⟨m, this.1, this.2, rfl⟩
  · rintro ⟨j, j1, j2, rfl⟩
    have hm : q 4 j ∈ prs q (Q b) := List.mem_map.mpr ⟨j, ((RB b hb).2.2.1.2 j).mpr ⟨j1, j2⟩, rfl⟩
    exact ⟨hm, (hne _ hm).1⟩
theorem dd_lenle : ∀ {L : List Nat} {bf : Nat}, (dd bf L).length ≤ L.length
  | [], bf => Nat.le_refl _
  | a :: L, bf => by
    rw [dd_c]
    by_cases c : a = bf
    · rw [if_pos c]
      have := dd_lenle (L := L) (bf := bf)
      show _ ≤ L.length + 1
      omega
    · rw [if_neg c]
      exact Nat.succ_le_succ dd_lenle
/-! the class's loops -/
theorem countPrices_loop (RO : RelO h t q n nt o) (RB : RelB h q Q n) (hn : n ≤ 64) {b : Nat} (hb : b < 8) (N : Nat) : ∀ (fu x : Nat), x ≤ (Q b).length → (Q b).length - x < fu →
    fX0_countPrices_7_L N fu (nI b) (nI (dd 0 (prs q ((Q b).drop ((Q b).length - x)))).length) (nI (hd0 (prs q ((Q b).drop ((Q b).length - x))))) (nI x) h = some (nI (dd 0 (prs q (Q b))).length, h) := by
  have hl := book_len RB hn hb
  have hne := prs_ne RO RB hb
  intro fu
  induction fu with
  | zero => intro x _ hf; omega
  | succ fu ih =>
    intro x hx hf
    show fX0_countPrices_7 N (fX0_countPrices_7_L N fu) _ _ _ _ h = _
    unfold fX0_countPrices_7 fX0_countPrices_52
    rw [rda_n hb, (RB b hb).1]
    by_cases c : (Q b).length ≤ x
    · have : x = (Q b).length := by omega
      subst this
      rw [if_pos (nI_le (Nat.le_refl _) (by omega)), Nat.sub_self, List.drop_zero]
    · obtain ⟨m, m1, m3, m4, m5, m6⟩ := drop_row RB hn hb (x := x) (by omega)
      have e := ih (x + 1) (by omega) (by omega)
      obtain ⟨-, -, -, -, ⟨p1, -, p3, p4⟩, -⟩ := RO m m3
      have hne' : ∀ x', x' ∈ prs q ((Q b).drop ((Q b).length - x)) → x' ≠ 0 ∧ x' ≤ 10000 := fun x' hx' => by
        obtain ⟨m', w1, rfl⟩ := List.mem_map.mp hx'
        exact hne _ (List.mem_map.mpr ⟨m', List.mem_of_mem_drop w1, rfl⟩)
      have hh : hd0 (prs q ((Q b).drop ((Q b).length - x))) ≤ 10000 := by
        cases hL : prs q ((Q b).drop ((Q b).length - x)) with
        | nil => exact Nat.zero_le _
        | cons y L => exact (hne' y (by rw [hL]; exact List.mem_cons_self)).2
      rw [m1, prs_c, dd_len (by omega) (fun y hy => (hne' y hy).1)] at e
      rw [if_neg (nI_ge (by omega) (by omega)), m4, rda_n m5, m6, rda_n (show m < 512 by omega), p1]
      by_cases c2 : q 4 m = hd0 (prs q ((Q b).drop ((Q b).length - x)))
      · rw [if_pos (by rw [c2]), nI_1, ← e, if_pos c2, Nat.add_zero, ← c2]
        rfl
      · rw [if_neg (fun z => c2 (nI_inj (by omega) (by omega) z)), nI_1, nI_1, ← e, if_neg c2]
        rfl
theorem countPrices_eq (RO : RelO h t q n nt o) (RB : RelB h q Q n) (hn : n ≤ 64) {b : Nat} (hb : b < 8) (N : Nat) (hN : 20000 ≤ N) : fX0_countPrices N (nI b) h = some (nI (dd 0 (prs q (Q b))).length, h) := by
  have hl := book_len RB hn hb
  have e := countPrices_loop RO RB hn hb N N 0 (by omega) (by omega)
  rw [Nat.sub_zero, List.drop_length] at e
  exact e
theorem priceOfLevel_loop (RO : RelO h t q n nt o) (RB : RelB h q Q n) (hn : n ≤ 64) {b : Nat} (hb : b < 8) {lv : Nat} (hlv : lv < 2 ^ 31) (N : Nat) : ∀ (fu j c bf : Nat), j ≤ (Q b).length → j < fu → c ≤ lv → c + j ≤ 64 → bf ≤ 10000 →
    fX0_priceOfLevel_15_L N fu (nI b) (nI lv) (nI c - 1) (nI bf) (nI j - 1) h = some (enc (dd bf (prs q ((Q b).drop ((Q b).length - j))))[lv - c]?, h) := by
  have hl := book_len RB hn hb
  intro fu
  induction fu with
  | zero => intro j c bf _ hf; omega
  | succ fu ih =>
    intro j c bf hj hf hc hcj hbf
    show fX0_priceOfLevel_15 N (fX0_priceOfLevel_15_L N fu) _ _ _ _ _ h = _
    unfold fX0_priceOfLevel_15 fX0_priceOfLevel_56
    by_cases c0 : j = 0
    · subst c0
      rw [if_pos (by rw [pred_neg (by decide)]), Nat.sub_zero, List.drop_length]
      rfl
    · obtain ⟨j', rfl⟩ : ∃ j', j = j' + 1 := ⟨j - 1, by omega⟩
      obtain ⟨m, m1, m3, m4, m5, m6⟩ := drop_row RB hn hb (x := j') (by omega)
      obtain ⟨-, -, -, -, ⟨p1, -, p3, p4⟩, -⟩ := RO m m3
      rw [if_neg (by rw [pred_neg (by omega)]; omega), nI_pred, m4, rda_n m5, m6, rda_n (show m < 512 by omega), p1, m1, prs_c, dd_c, ← Int32.sub_eq_add_neg]
      by_cases c2 : q 4 m = bf
      · have hk : ¬ (nI c - 1 = nI lv) := fun z => by
          have e1 : (nI c - 1).toInt = (c : Int) - 1 := by rw [show (1 : Int32) = nI 1 by decide]; exact pk_sub_toInt (by omega) (by decide)
          have e2 := nI_toInt hlv
          rw [z] at e1
          omega
        rw [if_pos (by rw [c2]), if_neg hk, if_pos c2, ih j' c bf (by omega) (by omega) hc (by omega) hbf]
      · rw [if_neg (fun z => c2 (nI_inj (by omega) (by omega) z)), if_neg c2]
        have e3 : (nI c - 1 + 1 : Int32) = nI c := by rw [Int32.sub_eq_add_neg, Int32.add_assoc]; exact Int32.add_zero _
        rw [e3]
        by_cases c3 : c = lv
        · rw [if_pos (by rw [c3]), c3, Nat.sub_self]
          rfl
        · rw [if_neg (fun z => c3 (nI_inj (by omega) hlv z))]
          have e := ih j' (c + 1) (q 4 m) (by omega) (by omega) (by omega) (by omega) p4
          rw [nI_pred] at e
          rw [e, show lv - c = (lv - (c + 1)) + 1 by omega, List.getElem?_cons_succ]
theorem priceOfLevel_eq (RO : RelO h t q n nt o) (RB : RelB h q Q n) (hn : n ≤ 64) {b : Nat} (hb : b < 8) {lv : Nat} (hlv : lv < 2 ^ 31) (N : Nat) (hN : 20000 ≤ N) : fX0_priceOfLevel N (nI b) (nI lv) h = some (enc (dd 0 (prs q (Q b)))[lv]?, h) := by
  have hl := book_len RB hn hb
  unfold fX0_priceOfLevel
  rw [rda_n hb, (RB b hb).1]
  have e := priceOfLevel_loop RO RB hn hb hlv N N (Q b).length 0 0 (Nat.le_refl _) (by omega) (by omega) (by omega) (by omega)
  rw [Nat.sub_self, List.drop_zero, Nat.sub_zero] at e
  exact e
/-! the reference's loops -/
def bh (d : Nat) (now : Option Nat) (v : Nat) : Bool := match now with
  | none => true
  | some a => betN d a v
theorem bst_best {p : Nat → Bool} {d : Nat} {f : Nat → Nat} : ∀ {n : Nat}, match bst p (fun i j => betN d (f i) (f j)) n with
    | none => ∀ k, k < n → p k = false
    | some b => b < n ∧ p b = true ∧ ∀ k, k < n → p k = true → betN d (f k) (f b) = false
  | 0 => fun k hk => by omega
  | n + 1 => by
    have ih := bst_best (p := p) (d := d) (f := f) (n := n)
    unfold bst
    cases hb : bst p (fun i j => betN d (f i) (f j)) n with
    | none =>
      rw [hb] at ih
      simp only at ih ⊢
      by_cases c : p n = true
      · rw [if_pos c]
        refine ⟨by omega, c, fun k hk hp => ?_⟩
        by_cases e : k = n
        · subst e; exact betN_irr
        · rw [ih k (by omega)] at hp; cases hp
      · rw [if_neg c]
        intro k hk
        by_cases e : k = n
        · subst e; simpa using c
        · exact ih k (by omega)
    | some b =>
      rw [hb] at ih
      simp only at ih ⊢
      obtain ⟨i1, i2, i3⟩ := ih
      by_cases c : p n = true ∧ betN d (f n) (f b) = true
      · rw [if_pos c]
        refine ⟨by omega, c.1, fun k hk hp => ?_⟩
        by_cases e : k = n
        · subst e; exact betN_irr
        · cases hz : betN d (f k) (f n) with
          | false => rfl
          | true =>
            have := betN_tr hz c.2
            rw [i3 k (by omega) hp] at this
            cases this
      · rw [if_neg c]
        refine ⟨by omega, i2, fun k hk hp => ?_⟩
        by_cases e : k = n
        · subst e
          cases hz : betN d (f k) (f b) with
          | false => rfl
          | true => exact absurd ⟨hp, hz⟩ c
        · exact i3 k (by omega) hp
theorem bst_head {p : Nat → Bool} {d : Nat} {f : Nat → Nat} {n : Nat} {M : List Nat} (hM : M.Pairwise (fun x y => betN d x y = true)) (hm : ∀ v, v ∈ M ↔ ∃ j, j < n ∧ p j = true ∧ f j = v) : (bst p (fun i j => betN d (f i) (f j)) n).map f = M.head? := by
  have hb := bst_best (p := p) (d := d) (f := f) (n := n)
  cases he : bst p (fun i j => betN d (f i) (f j)) n with
  | none =>
    rw [he] at hb
    cases M with
    | nil => rfl
    | cons v M =>
      obtain ⟨j, j1, j2, -⟩ := (hm v).mp List.mem_cons_self
      rw [hb j j1] at j2
      cases j2
  | some b =>
    rw [he] at hb
    obtain ⟨b1, b2, b3⟩ := hb
    have hin := (hm (f b)).mpr ⟨b, b1, b2, rfl⟩
    cases M with
    | nil => cases hin
    | cons v M =>
      show some (f b) = some v
      by_cases e : f b = v
      · rw [e]
      · have hin' : f b ∈ M := by
          rcases List.mem_cons.mp hin with z | z
          · exact absurd z e
          · exact z
        have h1 := (List.pairwise_cons.mp hM).1 _ hin'
        obtain ⟨j, j1, j2, j3⟩ := (hm v).mp List.mem_cons_self
        have h2 := b3 j j1 j2
        rw [j3, h1] at h2
        cases h2
theorem priceAt_in (RO : RelO h t q n nt o) (hn : n ≤ 64) (g2 : gi t 2 = nI n) {s d : Nat} (hs : s < 4) (hd : d < 2) (N : Nat) (k6 : Int32 → Int32 → Int32 → Int32 → Int32 → SH → Option (Int32 × SH)) (x3 x5 : Int32) {now : Option Nat} (hnow : ∀ v, now = some v → v ≤ 10000) {p : Nat → Bool} (pp : ∀ k, p k = (inBook q (2 * s + d) k && bh d now (q 4 k))) : ∀ (fu k : Nat), k ≤ n → n - k < fu →
    fX5_priceAt_18_L N k6 fu (nI s) (nI d) x3 (enc now) x5 (enc ((bst p (fun i j => betN d (q 4 i) (q 4 j)) k).map (q 4))) (nI k) t = (if enc ((bst p (fun i j => betN d (q 4 i) (q 4 j)) n).map (q 4)) = -1 then some (-1, t) else k6 (nI s) (nI d) x3 (enc ((bst p (fun i j => betN d (q 4 i) (q 4 j)) n).map (q 4))) (x5 + 1) t) := by
  intro fu
  induction fu with
  | zero => intro k _ hf; omega
  | succ fu ih =>
    intro k hk hf
    show fX5_priceAt_18 N k6 (fX5_priceAt_18_L N k6 fu) _ _ _ _ _ _ _ t = _
    unfold fX5_priceAt_18
    rw [rdi_n, g2]
    by_cases c : n ≤ k
    · have : k = n := by omega
      subst this
      rw [if_pos (nI_le (Nat.le_refl _) (by omega))]
    · have hk' : k < n := by omega
      have hk5 : k < 520 := by omega
      have e := ih (k + 1) (by omega) (by omega)
      rw [if_neg (nI_ge (by omega) (by omega)), rests_eq RO hn hk' hs hd, bnd_some]
      obtain ⟨-, -, -, -, ⟨-, p2, p3, p4⟩, -⟩ := RO k hk'
      -- not one of them
      have no : p k = false → fX5_priceAt_64 N k6 (fX5_priceAt_18_L N k6 fu) (nI s) (nI d) x3 (enc now) x5 (enc ((bst p (fun i j => betN d (q 4 i) (q 4 j)) k).map (q 4))) (nI k) t = (if enc ((bst p (fun i j => betN d (q 4 i) (q 4 j)) n).map (q 4)) = -1 then some (-1, t) else k6 (nI s) (nI d) x3 (enc ((bst p (fun i j => betN d (q 4 i) (q 4 j)) n).map (q 4))) (x5 + 1) t) := fun hp => by
        have e2 : bst p (fun i j => betN d (q 4 i) (q 4 j)) (k + 1) = bst p (fun i j => betN d (q 4 i) (q 4 j)) k := by
          show (match bst p (fun i j => betN d (q 4 i) (q 4 j)) k with | none => _ | some b => _) = _
          cases hb : bst p (fun i j => betN d (q 4 i) (q 4 j)) k with
          | none => simp [hp]
          | some b => simp [hp]
        rw [e2] at e
        unfold fX5_priceAt_64 fX5_priceAt_65 fX5_priceAt_104 fX5_priceAt_106
        rw [if_pos rfl, nI_1]
        exact e
      have yes : p k = true → fX5_priceAt_60 N k6 (fX5_priceAt_18_L N k6 fu) (nI s) (nI d) x3 (enc now) x5 (enc ((bst p (fun i j => betN d (q 4 i) (q 4 j)) k).map (q 4))) (nI k) t = (if enc ((bst p (fun i j => betN d (q 4 i) (q 4 j)) n).map (q 4)) = -1 then some (-1, t) else k6 (nI s) (nI d) x3 (enc ((bst p (fun i j => betN d (q 4 i) (q 4 j)) n).map (q 4))) (x5 + 1) t) := fun hp => by
        unfold fX5_priceAt_60 fX5_priceAt_65 fX5_priceAt_104 fX5_priceAt_94 fX5_priceAt_106
        rw [if_neg one_ne, nI_1]
        cases hb : bst p (fun i j => betN d (q 4 i) (q 4 j)) k with
        | none =>
          have e2 : bst p (fun i j => betN d (q 4 i) (q 4 j)) (k + 1) = some k := by unfold bst; rw [hb]; simp [hp]
          rw [e2] at e
          rw [if_pos (by rfl), rda_n hk5, p2]
          exact e
        | some m =>
          have hm := bst_in hb
          obtain ⟨-, -, -, -, ⟨-, u2, u3, u4⟩, -⟩ := RO m (by omega)
          rw [show enc (Option.map (q 4) (some m)) = nI (q 4 m) from rfl, if_neg (nI_nem1 (by omega)), rda_n hk5, p2, better_eq hd (by omega) (by omega), bnd_some]
          by_cases c2 : betN d (q 4 k) (q 4 m) = true
          · have e2 : bst p (fun i j => betN d (q 4 i) (q 4 j)) (k + 1) = some k := by
              unfold bst
              rw [hb]
              simp only
              rw [if_pos ⟨hp, c2⟩]
            rw [e2] at e
            rw [if_pos c2, if_neg one_ne, rda_n hk5, p2]
            exact e
          · have e2 : bst p (fun i j => betN d (q 4 i) (q 4 j)) (k + 1) = some m := by
              unfold bst
              rw [hb]
              simp only
              rw [if_neg (fun z => c2 z.2)]
            rw [e2] at e
            rw [if_neg c2, if_pos rfl]
            exact e
      by_cases c1 : inBook q (2 * s + d) k = true
      · rw [if_pos c1, if_neg one_ne]
        cases now with
        | none =>
          rw [if_pos enc_none]
          exact yes (by rw [pp, c1]; rfl)
        | some v =>
          have hv := hnow v rfl
          rw [if_neg (show ¬ enc (some v) = -1 from nI_nem1 (by omega)), rda_n hk5, p2]
          have eb := better_eq hd (show v < 2 ^ 31 by omega) (show q 4 k < 2 ^ 31 by omega) t
          rw [show enc (some v) = nI v from rfl, eb, bnd_some]
          by_cases c2 : betN d v (q 4 k) = true
          · rw [if_pos c2, if_neg one_ne]
            exact yes (by rw [pp, c1]; exact c2)
          · rw [if_neg c2, if_pos rfl]
            exact no (by rw [pp, c1]; show betN d v (q 4 k) = false; simpa using c2)
      · rw [if_neg c1, if_pos rfl]
        exact no (by rw [pp]; simp [c1])
theorem priceAt_loop (RO : RelO h t q n nt o) (hn : n ≤ 64) (g2 : gi t 2 = nI n) {s d : Nat} (hs : s < 4) (hd : d < 2) (N : Nat) (hN : 20000 ≤ N) {i : Nat} (hi : i < 2 ^ 31) : ∀ (fu : Nat) (M : List Nat) (k : Nat) (now : Option Nat), M.length < fu → k + M.length ≤ 64 → M.Pairwise (fun x y => betN d x y = true) → (∀ v, v ∈ M ↔ ∃ j, j < n ∧ (inBook q (2 * s + d) j && bh d now (q 4 j)) = true ∧ q 4 j = v) → (∀ v, now = some v → v ≤ 10000) → k ≤ i + 1 →
    fX5_priceAt_6_L N fu (nI s) (nI d) (nI i) (enc now) (nI k) t = some (enc (if i < k then now else M[i - k]?), t) := by
  intro fu
  induction fu with
  | zero => intro M k now hf; omega
  | succ fu ih =>
    intro M k now hf hk hM hm hnow hki
    show fX5_priceAt_6 N (fX5_priceAt_6_L N fu) _ _ _ _ _ t = _
    unfold fX5_priceAt_6
    by_cases c : i < k
    · rw [if_pos (nI_lt c (by omega)), if_pos c]
    · rw [if_neg (nI_nlt (by omega) (by omega)), if_neg c]
      have e := priceAt_in RO hn g2 hs hd N (fX5_priceAt_6_L N fu) (nI i) (nI k) hnow (p := fun k => inBook q (2 * s + d) k && bh d now (q 4 k)) (fun _ => rfl) N 0 (by omega) (by omega)
      rw [bst_head hM hm] at e
      refine Eq.trans e ?_
      cases M with
      | nil => rw [if_pos (show enc ([] : List Nat).head? = -1 from rfl)]; rfl
      | cons v M =>
        have hv : v ≤ 10000 := by
          obtain ⟨j, j1, -, j3⟩ := (hm v).mp List.mem_cons_self
          obtain ⟨-, -, -, -, ⟨-, -, -, p4⟩, -⟩ := RO j j1
          omega
        obtain ⟨w1, w2⟩ := List.pairwise_cons.mp hM
        rw [show (v :: M).head? = some v from rfl, if_neg (show ¬ enc (some v) = -1 from nI_nem1 (by omega)), nI_1]
        simp only [List.length_cons] at hf hk
        have hbv : bh d now v = true := by
          obtain ⟨j, -, j2, j3⟩ := (hm v).mp List.mem_cons_self
          rw [Bool.and_eq_true, j3] at j2
          exact j2.2
        rw [ih M (k + 1) (some v) (by omega) (by omega) w2 (fun u => ?_) (fun u hu => by cases hu; exact hv) (by omega)]
        · by_cases c3 : i = k
          · subst c3
            rw [if_pos (by omega), Nat.sub_self]
            rfl
          · rw [if_neg (by omega), show i - k = (i - (k + 1)) + 1 by omega, List.getElem?_cons_succ]
        · constructor
          · intro hu
            obtain ⟨j, j1, j2, j3⟩ := (hm u).mp (List.mem_cons_of_mem _ hu)
            rw [Bool.and_eq_true] at j2
            exact ⟨j, j1, by rw [Bool.and_eq_true]; exact ⟨j2.1, by rw [j3]; exact w1 u hu⟩, j3⟩
          · rintro ⟨j, j1, j2, j3⟩
            rw [Bool.and_eq_true] at j2
            have hbu : betN d v u = true := by have := j2.2; rw [j3] at this; exact this
            have hb2 : bh d now u = true := by
              cases now with
              | none => rfl
              | some a => exact betN_tr (show betN d a v = true from hbv) hbu
            have hin := (hm u).mpr ⟨j, j1, by rw [Bool.and_eq_true, j3]; exact ⟨j2.1, hb2⟩, j3⟩
            rcases List.mem_cons.mp hin with z | z
            · rw [z, betN_irr] at hbu; cases hbu
            · exact z
theorem priceAt_eq (RO : RelO h t q n nt o) (RB : RelB h q Q n) (hn : n ≤ 64) (g2 : gi t 2 = nI n) {s d : Nat} (hs : s < 4) (hd : d < 2) (N : Nat) (hN : 20000 ≤ N) {i : Nat} (hi : i < 2 ^ 31) : fX5_priceAt N (nI s) (nI d) (nI i) t = some (enc (dd 0 (prs q (Q (2 * s + d))))[i]?, t) := by
  obtain ⟨r1, r2⟩ := lv_facts RO RB (b := 2 * s + d) (by omega)
  rw [show (2 * s + d) % 2 = d by omega] at r1
  have hl := book_len RB hn (b := 2 * s + d) (by omega)
  have hl2 : (dd 0 (prs q (Q (2 * s + d)))).length ≤ (Q (2 * s + d)).length := by
    have := dd_lenle (L := prs q (Q (2 * s + d))) (bf := 0)
    unfold prs at this ⊢
    rw [List.length_map] at this
    exact this
  have e := priceAt_loop RO hn g2 hs hd N hN hi N _ 0 none (by omega) (by omega) r1 (fun v => by rw [r2 v]; constructor <;> (rintro ⟨j, j1, j2, j3⟩; exact ⟨j, j1, by simpa [bh] using j2, j3⟩)) (fun v hv => by cases hv) (by omega)
  rw [if_neg (by omega), Nat.sub_zero] at e
  exact e
theorem priceCount_loop (RO : RelO h t q n nt o) (RB : RelB h q Q n) (hn : n ≤ 64) (g2 : gi t 2 = nI n) {s d : Nat} (hs : s < 4) (hd : d < 2) (N : Nat) (hN : 20000 ≤ N) : ∀ (fu k : Nat), k ≤ (dd 0 (prs q (Q (2 * s + d)))).length → (dd 0 (prs q (Q (2 * s + d)))).length - k < fu → fX5_priceCount_2_L N fu (nI s) (nI d) (nI k) t = some (nI (dd 0 (prs q (Q (2 * s + d)))).length, t) := by
  have hl := book_len RB hn (b := 2 * s + d) (by omega)
  have hl2 : (dd 0 (prs q (Q (2 * s + d)))).length ≤ (Q (2 * s + d)).length := by
    have := dd_lenle (L := prs q (Q (2 * s + d))) (bf := 0)
    unfold prs at this ⊢
    rw [List.length_map] at this
    exact this
  intro fu
  induction fu with
  | zero => intro k _ hf; omega
  | succ fu ih =>
    intro k hk hf
    show fX5_priceCount_2 N (fX5_priceCount_2_L N fu) _ _ _ t = _
    unfold fX5_priceCount_2
    rw [priceAt_eq RO RB hn g2 hs hd N hN (by omega), bnd_some]
    by_cases c : k < (dd 0 (prs q (Q (2 * s + d)))).length
    · rw [List.getElem?_eq_getElem c, enc_some]
      have hp : (dd 0 (prs q (Q (2 * s + d))))[k] ≤ 10000 := by
        obtain ⟨j, j1, -, j3⟩ := ((lv_facts RO RB (b := 2 * s + d) (by omega)).2 _).mp (List.getElem_mem c)
        obtain ⟨-, -, -, -, ⟨-, -, -, p4⟩, -⟩ := RO j j1
        omega
      rw [if_neg (nI_nem1 (by omega)), nI_1, ih (k + 1) (by omega) (by omega)]
    · rw [List.getElem?_eq_none (by omega), if_pos enc_none, show k = (dd 0 (prs q (Q (2 * s + d)))).length by omega]
theorem depth_fin {x : Int32} : ∀ {v : Int32}, v = 1 ∨ v = 2 → ∀ (N : Nat) (a b : Int32) (t : SH), fX5_depth_37 N a b x v t = some (0, si t 0 v) := by
  intro v hv N a b t
  unfold fX5_depth_37
  rw [wri_n, rdi_n, thr_si]
  rcases hv with rfl | rfl <;> rw [if_neg (by decide)]
/-- depth -/
theorem op_depth (N : Nat) (hN : 20000 ≤ N) (R : Rel h t q Q n nt B o) (a x p : Int32) : ∃ (r : String ⊕ Int32) (h' : SH) (b : Int32) (t' : SH), fX4_depth N a x p h = some (r, h') ∧ fX5_depth N a x p t = some (b, t') ∧ agr c2 r b t' ∧ Rel h' t' q Q n nt B o := by
  have R0 := R
  obtain ⟨⟨hn, hB, g1, g2, g3, g4, -⟩, RC, RH, RP, RO, RB, RT⟩ := R
  by_cases h1 : 0 ≤ a ∧ a ≤ 3
  · by_cases h2 : 0 ≤ x ∧ x ≤ 1
    · by_cases h3 : 0 ≤ p ∧ p ≤ 10000
      · obtain ⟨s, -, hs, rfl⟩ := between (a := 0) (b := 3) (by decide) (by decide) h1.1 h1.2
        obtain ⟨d, -, hd, rfl⟩ := between (a := 0) (b := 1) (by decide) (by decide) h2.1 h2.2
        obtain ⟨v, -, hv, rfl⟩ := between (a := 0) (b := 10000) (by decide) (by decide) h3.1 h3.2
        by_cases c : v = 0
        · subst c
          have hc : fX4_depth N (nI s) (nI d) (nI 0) h = some (.inr (nI (dd 0 (prs q (Q (2 * s + d)))).length), h) := by
            unfold fX4_depth fX0_bookOf fX4_depth_50
            rw [needSym_eq, if_pos h1, bndX_inr, needSide_eq, if_pos h2, bndX_inr, needWi_eq, if_pos h3, bndX_inr, bnd_some, book_n, if_pos nI_0, countPrices_eq RO RB hn (by omega) N hN, bnd_some]
          have hm : fX5_depth N (nI s) (nI d) (nI 0) t = some (nI (dd 0 (prs q (Q (2 * s + d)))).length, si t 0 0) := by
            unfold fX5_depth fX5_depth_37 fX5_priceCount
            rw [isSym_eq, if_pos h1, bnd_some, if_neg one_ne, isIn_eq, if_pos h2, bnd_some, if_neg one_ne, isIn_eq, if_pos h3, bnd_some, if_neg one_ne, wri_n, rdi_n, thr_si, if_pos (by decide), if_pos nI_0]
            have e := priceCount_loop (t := si t 0 0) RO RB hn g2 (show s < 4 by omega) (show d < 2 by omega) N hN N 0 (by omega) (by have := book_len RB hn (b := 2 * s + d) (by omega); have h5 := dd_lenle (L := prs q (Q (2 * s + d))) (bf := 0); unfold prs at h5 ⊢; rw [List.length_map] at h5; omega)
            rw [nI_0] at e
            rw [e, bnd_some]
          exact ⟨_, _, _, _, hc, hm, ⟨rfl, rfl⟩, Rel_thr R0⟩
        · have hv0 : ¬ nI v = 0 := fun z => c (by rw [z_eq (by omega)] at z; exact z)
          have hS := sumShown_eq RO RB hn (b := 2 * s + d) (by omega) (p := v) hv (f := fun i => if q 4 i = v then q 6 i else 0) (fun _ => rfl) (x3 := -1) (stop := fun _ => false) (fun j hj => ⟨fun z => absurd z (nI_nem1 (by omega)), fun z => by cases z⟩) N hN
          rw [sumTo_never] at hS
          obtain ⟨f, hfd⟩ : ∃ f : Nat → Nat, f = fun j => if inBook q (2 * s + d) j = true then (if q 4 j = v then q 6 j else 0) else 0 := ⟨_, rfl⟩
          have hfs : smm f n = ((Q (2 * s + d)).map (fun i => if q 4 i = v then q 6 i else 0)).sum := by rw [hfd]; exact smm_list (RB (2 * s + d) (by omega)).2.2.1
          rw [← hfs] at hS
          have hM := depthM_loop (t := si t 0 0) RO hn g2 (show s < 4 by omega) (show d < 2 by omega) (p := v) hv (f := f) (fun _ => by rw [hfd]) N N 0 (by omega) (by omega)
          have hc : fX4_depth N (nI s) (nI d) (nI v) h = some (.inr (nI (smm f n)), h) := by
            unfold fX4_depth fX0_bookOf fX4_depth_50
            rw [needSym_eq, if_pos h1, bndX_inr, needSide_eq, if_pos h2, bndX_inr, needWi_eq, if_pos h3, bndX_inr, bnd_some, book_n, if_neg hv0, hS, bnd_some]
          have hm : fX5_depth N (nI s) (nI d) (nI v) t = some (nI (smm f n), si t 0 0) := by
            unfold fX5_depth fX5_depth_37
            rw [isSym_eq, if_pos h1, bnd_some, if_neg one_ne, isIn_eq, if_pos h2, bnd_some, if_neg one_ne, isIn_eq, if_pos h3, bnd_some, if_neg one_ne, wri_n, rdi_n, thr_si, if_pos (by decide), if_neg hv0]
            exact hM
          exact ⟨_, _, _, _, hc, hm, ⟨rfl, rfl⟩, Rel_thr R0⟩
      · have hc : fX4_depth N a x p h = some (.inl eArg, h) := by
          unfold fX4_depth
          rw [needSym_eq, if_pos h1, bndX_inr, needSide_eq, if_pos h2, bndX_inr, needWi_eq, if_neg h3, bndX_inl]
        have hm : fX5_depth N a x p t = some (0, si t 0 2) := by
          unfold fX5_depth fX5_depth_32
          rw [isSym_eq, if_pos h1, bnd_some, if_neg one_ne, isIn_eq, if_pos h2, bnd_some, if_neg one_ne, isIn_eq, if_neg h3, bnd_some, if_pos rfl, depth_fin (.inr rfl)]
        exact ⟨_, _, _, _, hc, hm, agr2_a, Rel_thr R0⟩
    · have hc : fX4_depth N a x p h = some (.inl eArg, h) := by
        unfold fX4_depth
        rw [needSym_eq, if_pos h1, bndX_inr, needSide_eq, if_neg h2, bndX_inl]
      have hm : fX5_depth N a x p t = some (0, si t 0 2) := by
        unfold fX5_depth fX5_depth_32
        rw [isSym_eq, if_pos h1, bnd_some, if_neg one_ne, isIn_eq, if_neg h2, bnd_some, if_pos rfl, depth_fin (.inr rfl)]
      exact ⟨_, _, _, _, hc, hm, agr2_a, Rel_thr R0⟩
  · have hc : fX4_depth N a x p h = some (.inl eIdx, h) := by
      unfold fX4_depth
      rw [needSym_eq, if_neg h1, bndX_inl]
    have hm : fX5_depth N a x p t = some (0, si t 0 1) := by
      unfold fX5_depth
      rw [isSym_eq, if_neg h1, bnd_some, if_pos rfl, depth_fin (.inl rfl)]
    exact ⟨_, _, _, _, hc, hm, agr2_i, Rel_thr R0⟩
theorem lvl_fin {v w x : Int32} (hv : v = 1 ∨ v = 2) (N : Nat) (a b : Int32) (t : SH) : fX5_level_84 N a b w x v t = some (0, si t 0 v) := by
  unfold fX5_level_84 fX5_level_99 fX5_level_112
  rw [wri_n, rdi_n, thr_si, rdi_n, thr_si]
  rcases hv with rfl | rfl <;> rw [if_pos (by decide), if_neg (by decide)]
/-- level -/
theorem op_level (N : Nat) (hN : 20000 ≤ N) (R : Rel h t q Q n nt B o) (a x p w : Int32) : ∃ (r : String ⊕ Int32) (h' : SH) (b : Int32) (t' : SH), fX4_level N a x p w h = some (r, h') ∧ fX5_level N a x p w t = some (b, t') ∧ agr c2 r b t' ∧ Rel h' t' q Q n nt B o := by
  have R0 := R
  obtain ⟨⟨hn, hB, g1, g2, g3, g4, -⟩, RC, RH, RP, RO, RB, RT⟩ := R
  by_cases h1 : 0 ≤ a ∧ a ≤ 3
  · by_cases h3 : 0 ≤ p
    · have h3' : ¬ p < 0 := Int32.not_lt.mpr h3
      by_cases h2 : 0 ≤ x ∧ x ≤ 1
      · obtain ⟨s, -, hs, rfl⟩ := between (a := 0) (b := 3) (by decide) (by decide) h1.1 h1.2
        obtain ⟨d, -, hd, rfl⟩ := between (a := 0) (b := 1) (by decide) (by decide) h2.1 h2.2
        obtain ⟨i, -, hi, rfl⟩ := between (a := 0) (b := 2147483647) (hi := 2147483647) (by decide) (by decide) h3 (by rw [Int32.le_iff_toInt_le]; have := i32_range p; have h9 : (2147483647 : Int32).toInt = 2147483647 := (by decide); omega)
        have hP := priceOfLevel_eq RO RB hn (b := 2 * s + d) (by omega) (lv := i) (by omega) N hN
        have hA := priceAt_eq RO RB hn g2 (show s < 4 by omega) (show d < 2 by omega) N hN (i := i) (by omega)
        have hcB : ∀ (F : Int32 → SH → Option (Int32 × SH)), True := fun _ => trivial
        cases hq : (dd 0 (prs q (Q (2 * s + d))))[i]? with
        | none =>
          rw [hq] at hP hA
          have hc : fX4_level N (nI s) (nI d) (nI i) w h = some (.inl eIdx, h) := by
            unfold fX4_level fX0_bookOf
            rw [needSym_eq, if_pos h1, bndX_inr, if_pos h3, needSide_eq, if_pos h2, bndX_inr, bnd_some, book_n, hP, bnd_some, if_pos enc_none]
            rfl
          have hm : fX5_level N (nI s) (nI d) (nI i) w t = some (0, si t 0 1) := by
            unfold fX5_level fX5_level_35 fX5_level_60
            rw [isIn_eq, if_pos h2, bnd_some, isSym_eq, if_pos h1, bnd_some, if_neg one_ne, if_neg one_ne, if_neg h3', hA, bnd_some, isSym_eq, if_pos h1, bnd_some, if_neg one_ne, if_neg h3', if_neg one_ne, if_pos enc_none, lvl_fin (.inl rfl)]
          exact ⟨_, _, _, _, hc, hm, agr2_i, Rel_thr R0⟩
        | some v =>
          rw [hq] at hP hA
          have hv : v ≤ 10000 := by
            obtain ⟨j, j1, -, j3⟩ := ((lv_facts RO RB (b := 2 * s + d) (by omega)).2 v).mp (List.mem_of_getElem? hq)
            obtain ⟨-, -, -, -, ⟨-, -, -, p4⟩, -⟩ := RO j j1
            omega
          have hv1 : ¬ enc (some v) = -1 := nI_nem1 (by omega)
          by_cases hw : 0 ≤ w ∧ w ≤ 2
          · obtain ⟨u, -, hu, rfl⟩ := between (a := 0) (b := 2) (by decide) (by decide) hw.1 hw.2
            have hm0 : fX5_level N (nI s) (nI d) (nI i) (nI u) t = fX5_level_84 N (nI s) (nI d) (nI u) (nI v) 0 t := by
              unfold fX5_level fX5_level_35 fX5_level_64
              rw [isIn_eq, if_pos h2, bnd_some, isSym_eq, if_pos h1, bnd_some, if_neg one_ne, if_neg one_ne, if_neg h3', hA, bnd_some, isSym_eq, if_pos h1, bnd_some, if_neg one_ne, if_neg h3', if_neg one_ne, if_neg hv1, if_neg one_ne, isIn_eq, if_pos hw, bnd_some, if_neg one_ne]
              rfl
            by_cases u0 : u = 0
            · subst u0
              have hc : fX4_level N (nI s) (nI d) (nI i) (nI 0) h = some (.inr (nI v), h) := by
                unfold fX4_level fX0_bookOf
                rw [needSym_eq, if_pos h1, bndX_inr, if_pos h3, needSide_eq, if_pos h2, bndX_inr, bnd_some, book_n, hP, bnd_some, if_neg hv1, if_pos nI_0]
                rfl
              have hm : fX5_level N (nI s) (nI d) (nI i) (nI 0) t = some (nI v, si t 0 0) := by
                rw [hm0]
                unfold fX5_level_84 fX5_level_99 fX5_level_112
                rw [wri_n, rdi_n, thr_si, rdi_n, thr_si, if_neg (by decide), if_pos nI_0, if_pos (by decide)]
              exact ⟨_, _, _, _, hc, hm, ⟨rfl, rfl⟩, Rel_thr R0⟩
            · have hu0 : ¬ nI u = 0 := fun z => u0 (by rw [z_eq (by omega)] at z; exact z)
              obtain ⟨f, hfd⟩ : ∃ f : Nat → Nat, f = fun k => if inBook q (2 * s + d) k = true then (if q 4 k = v then (if u = 1 then 1 else q 5 k) else 0) else 0 := ⟨_, rfl⟩
              have hfs : smm f n = ((Q (2 * s + d)).map (fun k => if q 4 k = v then (if u = 1 then 1 else q 5 k) else 0)).sum := by rw [hfd]; exact smm_list (RB (2 * s + d) (by omega)).2.2.1
              have hM := levelM_loop (t := si t 0 0) RO hn g2 (show s < 4 by omega) (show d < 2 by omega) (p := v) (w := u) hv (by omega) (f := f) (fun _ => by rw [hfd]) N N 0 (by omega) (by omega)
              have hm : fX5_level N (nI s) (nI d) (nI i) (nI u) t = some (nI (smm f n), si t 0 0) := by
                rw [hm0]
                unfold fX5_level_84
                rw [wri_n, rdi_n, thr_si, if_neg (by decide), if_neg hu0]
                exact hM
              have hl := book_len RB hn (b := 2 * s + d) (by omega)
              have hc : fX4_level N (nI s) (nI d) (nI i) (nI u) h = some (.inr (nI (smm f n)), h) := by
                unfold fX4_level fX0_bookOf
                rw [needSym_eq, if_pos h1, bndX_inr, if_pos h3, needSide_eq, if_pos h2, bndX_inr, bnd_some, book_n, hP, bnd_some, if_neg hv1, if_neg hu0]
                by_cases u1 : u = 1
                · subst u1
                  have e := countOrders_loop RO RB hn (b := 2 * s + d) (by omega) (p := v) hv (f := fun k => if q 4 k = v then (if 1 = 1 then 1 else q 5 k) else 0) (fun _ => by simp) N N 0 (by omega) (by omega)
                  rw [Nat.sub_zero, List.drop_length, ← hfs] at e
                  rw [if_pos (by decide)]
                  unfold fX0_countOrders
                  rw [show fX0_countOrders_5_L N N (nI (2 * s + d)) (enc (some v)) 0 0 h = _ from e, bnd_some]
                · have u2 : u = 2 := by omega
                  subst u2
                  have e := sumLeft_loop RO RB hn (b := 2 * s + d) (by omega) (p := v) hv (f := fun k => if q 4 k = v then (if 2 = 1 then 1 else q 5 k) else 0) (fun _ => by simp) N N 0 (by omega) (by omega)
                  rw [Nat.sub_zero, List.drop_length, ← hfs] at e
                  rw [if_neg (by decide), if_pos (by decide)]
                  unfold fX0_sumLeft
                  rw [show fX0_sumLeft_5_L N N (nI (2 * s + d)) (enc (some v)) 0 0 h = _ from e, bnd_some]
              exact ⟨_, _, _, _, hc, hm, ⟨rfl, rfl⟩, Rel_thr R0⟩
          · have w0 : ¬ w = 0 := fun z => hw (by rw [z]; decide)
            have w1 : ¬ w = 1 := fun z => hw (by rw [z]; decide)
            have w2 : ¬ w = 2 := fun z => hw (by rw [z]; decide)
            have hc : fX4_level N (nI s) (nI d) (nI i) w h = some (.inl eArg, h) := by
              unfold fX4_level fX0_bookOf
              rw [needSym_eq, if_pos h1, bndX_inr, if_pos h3, needSide_eq, if_pos h2, bndX_inr, bnd_some, book_n, hP, bnd_some, if_neg hv1, if_neg w0, if_neg w1, if_neg w2]
              rfl
            have hm : fX5_level N (nI s) (nI d) (nI i) w t = some (0, si t 0 2) := by
              unfold fX5_level fX5_level_35 fX5_level_64 fX5_level_79
              rw [isIn_eq, if_pos h2, bnd_some, isSym_eq, if_pos h1, bnd_some, if_neg one_ne, if_neg one_ne, if_neg h3', hA, bnd_some, isSym_eq, if_pos h1, bnd_some, if_neg one_ne, if_neg h3', if_neg one_ne, if_neg hv1, if_neg one_ne, isIn_eq, if_neg hw, bnd_some, if_pos rfl, lvl_fin (.inr rfl)]
            exact ⟨_, _, _, _, hc, hm, agr2_a, Rel_thr R0⟩
      · have hc : fX4_level N a x p w h = some (.inl eArg, h) := by
          unfold fX4_level
          rw [needSym_eq, if_pos h1, bndX_inr, if_pos h3, needSide_eq, if_neg h2, bndX_inl]
        have hm : fX5_level N a x p w t = some (0, si t 0 2) := by
          unfold fX5_level fX5_level_34 fX5_level_35 fX5_level_64 fX5_level_79
          rw [isIn_eq, if_neg h2, bnd_some, isSym_eq, if_pos h1, bnd_some, if_neg one_ne, if_pos rfl, isSym_eq, if_pos h1, bnd_some, if_neg one_ne, if_neg h3', if_pos rfl, if_pos rfl, lvl_fin (.inr rfl)]
        exact ⟨_, _, _, _, hc, hm, agr2_a, Rel_thr R0⟩
    · have h3' : p < 0 := Int32.not_le.mp h3
      have hc : fX4_level N a x p w h = some (.inl eIdx, h) := by
        unfold fX4_level
        rw [needSym_eq, if_pos h1, bndX_inr, if_neg h3]
        rfl
      have hm : fX5_level N a x p w t = some (0, si t 0 1) := by
        unfold fX5_level fX5_level_34 fX5_level_35 fX5_level_60
        rw [isIn_eq, bnd_some, isSym_eq, if_pos h1, bnd_some, if_neg one_ne]
        by_cases h2 : 0 ≤ x ∧ x ≤ 1
        · rw [if_pos h2, if_neg one_ne, if_pos h3', isSym_eq, if_pos h1, bnd_some, if_neg one_ne, if_pos h3', lvl_fin (.inl rfl)]
        · rw [if_neg h2, if_pos rfl, isSym_eq, if_pos h1, bnd_some, if_neg one_ne, if_pos h3', lvl_fin (.inl rfl)]
      exact ⟨_, _, _, _, hc, hm, agr2_i, Rel_thr R0⟩
  · have hc : fX4_level N a x p w h = some (.inl eIdx, h) := by
      unfold fX4_level
      rw [needSym_eq, if_neg h1, bndX_inl]
    have hm : fX5_level N a x p w t = some (0, si t 0 1) := by
      unfold fX5_level fX5_level_34 fX5_level_35 fX5_level_60
      rw [isIn_eq, bnd_some, isSym_eq, if_neg h1, bnd_some, if_pos rfl, isSym_eq, if_neg h1, bnd_some, if_pos rfl, lvl_fin (.inl rfl)]
    exact ⟨_, _, _, _, hc, hm, agr2_i, Rel_thr R0⟩
end Levels
