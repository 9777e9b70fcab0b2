/-! ===== sums over a book ===== -/
def sumTo (stop : Nat → Bool) (f : Nat → Nat) : List Nat → Nat
  | [] => 0
  | a :: L => if stop a = true then 0 else f a + sumTo stop f L
def cA (E : String) : Int32 := if E = eIdx then 1 else if E = eNo then 2 else 0
theorem smm_s {f : Nat → Nat} {k : Nat} : smm f (k + 1) = smm f k + f k := rfl
section Sums
variable {h h' t t' : SH} {q q' : Nat → Nat → Nat} {Q Q' : Nat → List Nat} {n nt nt' B o o' k : Nat}
theorem sumTo_never {f : Nat → Nat} : ∀ L : List Nat, sumTo (fun _ => false) f L = (L.map f).sum
  | [] => rfl
  | a :: L => by
    show (if false = true then 0 else f a + sumTo (fun _ => false) f L) = _
    rw [if_neg (by decide), sumTo_never L]
    rfl
/-- row x of the book b is the order with number length - 1 - x of the list -/
theorem row_eq (RB : RelB h q Q n) (hn : n ≤ 64) {b i : Nat} (hb : b < 8) (hi : i < (Q b).length) : ∃ j, (Q b)[i]? = some j ∧ j ∈ Q b ∧ j < n ∧ ((nI b * 100) + nI ((Q b).length - 1 - i) : Int32) = nI (100 * b + ((Q b).length - 1 - i)) ∧ 100 * b + ((Q b).length - 1 - i) < 800 ∧ gA h 23 (100 * b + ((Q b).length - 1 - i)) = nI j := by
  have hl := book_len RB hn hb
  have hm := List.getElem_mem hi
  refine ⟨(Q b)[i], List.getElem?_eq_getElem hi, hm, (RB.mem hb hm).1, ?_, by omega, ?_⟩
  · rw [show (100 : Int32) = nI 100 by decide, pk_mul, nI_add, Nat.mul_comm]
  · rw [(RB b hb).2.1 i hi, List.getD_eq_getElem?_getD, List.getElem?_eq_getElem hi]
    rfl
theorem pred_neg {j : Nat} (hj : j < 2 ^ 30) : (nI j - 1 < 0) = (j = 0) := by
  apply propext
  have e : (nI j - 1).toInt = (j : Int) - 1 := by rw [show (1 : Int32) = nI 1 by decide]; exact pk_sub_toInt hj (by decide)
  have e0 : (0 : Int32).toInt = 0 := by decide
  rw [Int32.lt_iff_toInt_lt, e, e0]
  omega
theorem sumShown_loop (RO : RelO h t q n nt o) (RB : RelB h q Q n) (hn : n ≤ 64) {b : Nat} (hb : b < 8) {p : Nat} (hp : p ≤ 10000) {f : Nat → Nat} (ff : ∀ i, f i = if q 4 i = p then q 6 i else 0) {x3 : Int32} {stop : Nat → Bool} (hst : ∀ j, j < n → (nI j = x3 ↔ stop j = true)) (N : Nat) : ∀ (fu j acc : Nat), j ≤ (Q b).length → j < fu →
    fX0_sumShown_13_L N fu (nI b) (nI p) x3 (nI acc) (nI j - 1) h = some (nI (acc + sumTo stop f ((Q b).drop ((Q b).length - j))), h) := by
  have hl := book_len RB hn hb
  intro fu
  induction fu with
  | zero => intro j acc _ hf; omega
  | succ fu ih =>
    intro j acc hj hf
    show fX0_sumShown_13 N (fX0_sumShown_13_L N fu) _ _ _ _ _ h = _
    unfold fX0_sumShown_13 fX0_sumShown_70
    by_cases c : j = 0
    · subst c
      rw [if_pos (by rw [pred_neg (by decide)]), Nat.sub_zero, List.drop_length]
      rfl
    · obtain ⟨j', rfl⟩ : ∃ j', j = j' + 1 := ⟨j - 1, by omega⟩
      obtain ⟨m, m1, m2, m3, m4, m5, m6⟩ := row_eq RB hn hb (i := (Q b).length - 1 - j') (by omega)
      rw [show (Q b).length - 1 - ((Q b).length - 1 - j') = j' by omega] at m4 m5 m6
      have hd : (Q b).drop ((Q b).length - (j' + 1)) = m :: (Q b).drop ((Q b).length - j') := by
        rw [List.drop_eq_getElem_cons (by omega)]
        have e1 : (Q b).length - (j' + 1) = (Q b).length - 1 - j' := by omega
        have e2 : (Q b).length - 1 - j' + 1 = (Q b).length - j' := by omega
        rw [List.getElem?_eq_getElem (by omega)] at m1
        simp only [e1, e2]
        rw [Option.some.inj m1]
      rw [if_neg (by rw [pred_neg (by omega)]; omega), nI_pred, m4, rda_n m5, m6, hd]
      obtain ⟨-, -, -, -, ⟨p1, -, -, p4⟩, -, ⟨s1, -⟩, -⟩ := RO m m3
      show _ = some (nI (acc + if stop m = true then 0 else _), h)
      by_cases c1 : stop m = true
      · rw [if_pos ((hst m m3).mpr c1), if_pos c1]
        rfl
      · rw [if_neg (fun z => c1 ((hst m m3).mp z)), if_neg c1, rda_n (show m < 512 by omega), p1, ← Int32.sub_eq_add_neg]
        by_cases c2 : q 4 m = p
        · rw [if_pos (by rw [c2]), rda_n (show m < 512 by omega), s1, nI_add, ih j' (acc + q 6 m) (by omega) (by omega), ff m, if_pos c2, Nat.add_assoc]
        · rw [if_neg (fun z => c2 (nI_inj (by omega) (by omega) z)), ih j' acc (by omega) (by omega), ff m, if_neg c2, Nat.zero_add]
theorem sumShown_eq (RO : RelO h t q n nt o) (RB : RelB h q Q n) (hn : n ≤ 64) {b : Nat} (hb : b < 8) {p : Nat} (hp : p ≤ 10000) {f : Nat → Nat} (ff : ∀ i, f i = if q 4 i = p then q 6 i else 0) {x3 : Int32} {stop : Nat → Bool} (hst : ∀ j, j < n → (nI j = x3 ↔ stop j = true)) (N : Nat) (hN : 20000 ≤ N) : fX0_sumShown N (nI b) (nI p) x3 h = some (nI (sumTo stop f (Q b)), h) := by
  have hl := book_len RB hn hb
  unfold fX0_sumShown
  rw [rda_n hb, (RB b hb).1]
  have e := sumShown_loop RO RB hn hb hp ff hst N N (Q b).length 0 (Nat.le_refl _) (by omega)
  rw [Nat.sub_self, List.drop_zero, Nat.zero_add, nI_0] at e
  exact e
/-- the rows from the worst one on: what is behind is a tail of the list -/
theorem drop_row (RB : RelB h q Q n) (hn : n ≤ 64) {b x : Nat} (hb : b < 8) (hx : x < (Q b).length) : ∃ j, (Q b).drop ((Q b).length - (x + 1)) = j :: (Q b).drop ((Q b).length - x) ∧ j < n ∧ ((nI b * 100) + nI x : Int32) = nI (100 * b + x) ∧ 100 * b + x < 800 ∧ gA h 23 (100 * b + x) = nI j := by
  obtain ⟨m, m1, m2, m3, m4, m5, m6⟩ := row_eq RB hn hb (i := (Q b).length - 1 - x) (by omega)
  rw [show (Q b).length - 1 - ((Q b).length - 1 - x) = x by omega] at m4 m5 m6
  refine ⟨m, ?_, m3, m4, m5, m6⟩
  rw [List.drop_eq_getElem_cons (by omega)]
  have e1 : (Q b).length - (x + 1) = (Q b).length - 1 - x := by omega
  have e2 : (Q b).length - 1 - x + 1 = (Q b).length - x := by omega
  rw [List.getElem?_eq_getElem (by omega)] at m1
  simp only [e1, e2]
  rw [Option.some.inj m1]
theorem countOrders_loop (RO : RelO h t q n nt o) (RB : RelB h q Q n) (hn : n ≤ 64) {b : Nat} (hb : b < 8) {p : Nat} (hp : p ≤ 10000) {f : Nat → Nat} (ff : ∀ i, f i = if q 4 i = p then 1 else 0) (N : Nat) : ∀ (fu x : Nat), x ≤ (Q b).length → (Q b).length - x < fu →
    fX0_countOrders_5_L N fu (nI b) (nI p) (nI (((Q b).drop ((Q b).length - x)).map f).sum) (nI x) h = some (nI ((Q b).map f).sum, h) := by
  have hl := book_len RB hn hb
  intro fu
  induction fu with
  | zero => intro x _ hf; omega
  | succ fu ih =>
    intro x hx hf
    show fX0_countOrders_5 N (fX0_countOrders_5_L N fu) _ _ _ _ h = _
    unfold fX0_countOrders_5 fX0_countOrders_43
    rw [rda_n hb, (RB b hb).1]
    by_cases c : (Q b).length ≤ x
    · have : x = (Q b).length := by omega
      subst this
      rw [if_pos (nI_le (Nat.le_refl _) (by omega)), Nat.sub_self, List.drop_zero]
    · obtain ⟨m, m1, m3, m4, m5, m6⟩ := drop_row RB hn hb (x := x) (by omega)
      have e := ih (x + 1) (by omega) (by omega)
      rw [m1, List.map_cons, List.sum_cons, ff m] at e
      obtain ⟨-, -, -, -, ⟨p1, -, -, p4⟩, -⟩ := RO m m3
      rw [if_neg (nI_ge (by omega) (by omega)), m4, rda_n m5, m6, rda_n (show m < 512 by omega), p1]
      by_cases c2 : q 4 m = p
      · rw [if_pos (by rw [c2]), nI_1, nI_1, ← e, if_pos c2, Nat.add_comm]
      · rw [if_neg (fun z => c2 (nI_inj (by omega) (by omega) z)), nI_1, ← e, if_neg c2, Nat.zero_add]
theorem sumLeft_loop (RO : RelO h t q n nt o) (RB : RelB h q Q n) (hn : n ≤ 64) {b : Nat} (hb : b < 8) {p : Nat} (hp : p ≤ 10000) {f : Nat → Nat} (ff : ∀ i, f i = if q 4 i = p then q 5 i else 0) (N : Nat) : ∀ (fu x : Nat), x ≤ (Q b).length → (Q b).length - x < fu →
    fX0_sumLeft_5_L N fu (nI b) (nI p) (nI (((Q b).drop ((Q b).length - x)).map f).sum) (nI x) h = some (nI ((Q b).map f).sum, h) := by
  have hl := book_len RB hn hb
  intro fu
  induction fu with
  | zero => intro x _ hf; omega
  | succ fu ih =>
    intro x hx hf
    show fX0_sumLeft_5 N (fX0_sumLeft_5_L N fu) _ _ _ _ h = _
    unfold fX0_sumLeft_5 fX0_sumLeft_57
    rw [rda_n hb, (RB b hb).1]
    by_cases c : (Q b).length ≤ x
    · have : x = (Q b).length := by omega
      subst this
      rw [if_pos (nI_le (Nat.le_refl _) (by omega)), Nat.sub_self, List.drop_zero]
    · obtain ⟨m, m1, m3, m4, m5, m6⟩ := drop_row RB hn hb (x := x) (by omega)
      have e := ih (x + 1) (by omega) (by omega)
      rw [m1, List.map_cons, List.sum_cons, ff m] at e
      obtain ⟨-, -, -, -, ⟨p1, -, -, p4⟩, ⟨l1, -⟩, -⟩ := RO m m3
      rw [if_neg (nI_ge (by omega) (by omega)), m4, rda_n m5, m6, rda_n (show m < 512 by omega), p1]
      by_cases c2 : q 4 m = p
      · rw [if_pos (by rw [c2]), rda_n (show m < 512 by omega), l1, nI_add, nI_1, ← e, if_pos c2, Nat.add_comm]
      · rw [if_neg (fun z => c2 (nI_inj (by omega) (by omega) z)), nI_1, ← e, if_neg c2, Nat.zero_add]
/-! the reference's sums -/
theorem depthM_loop (RO : RelO h t q n nt o) (hn : n ≤ 64) (g2 : gi t 2 = nI n) {s d p : Nat} (hs : s < 4) (hd : d < 2) (hp : p ≤ 10000) {f : Nat → Nat} (ff : ∀ k, f k = if inBook q (2 * s + d) k = true then (if q 4 k = p then q 6 k else 0) else 0) (N : Nat) : ∀ (fu k : Nat), k ≤ n → n - k < fu →
    fX5_depth_66_L N fu (nI s) (nI d) (nI p) (nI (smm f k)) (nI k) t = some (nI (smm f n), t) := by
  intro fu
  induction fu with
  | zero => intro k _ hf; omega
  | succ fu ih =>
    intro k hk hf
    show fX5_depth_66 N (fX5_depth_66_L N fu) _ _ _ _ _ t = _
    unfold fX5_depth_66 fX5_depth_110 fX5_depth_112
    rw [rdi_n, g2]
    by_cases c : n ≤ k
    · have : k = n := by omega
      subst this
      rw [if_pos (nI_le (Nat.le_refl _) (by omega))]
    · have hk' : k < n := by omega
      have e := ih (k + 1) (by omega) (by omega)
      rw [smm_s, ff k] at e
      rw [if_neg (nI_ge (by omega) (by omega)), rests_eq RO hn hk' hs hd, bnd_some, nI_1]
      obtain ⟨-, -, -, -, ⟨-, p2, -, p4⟩, -, ⟨-, s2, -⟩, -⟩ := RO k hk'
      by_cases c1 : inBook q (2 * s + d) k = true
      · rw [if_pos c1, if_neg one_ne, rda_n (show k < 520 by omega), p2]
        simp only [c1, if_true] at e
        by_cases c2 : q 4 k = p
        · rw [if_pos (by rw [c2]), rda_n (show k < 520 by omega), s2, nI_add]
          simp only [c2, if_true] at e
          exact e
        · rw [if_neg (fun z => c2 (nI_inj (by omega) (by omega) z))]
          simp only [c2, if_false, Nat.add_zero] at e
          exact e
      · rw [if_neg c1, if_pos rfl]
        rw [if_neg c1, Nat.add_zero] at e
        exact e
theorem levelM_loop (RO : RelO h t q n nt o) (hn : n ≤ 64) (g2 : gi t 2 = nI n) {s d p w : Nat} (hs : s < 4) (hd : d < 2) (hp : p ≤ 10000) (hw : w = 1 ∨ w = 2) {f : Nat → Nat} (ff : ∀ k, f k = if inBook q (2 * s + d) k = true then (if q 4 k = p then (if w = 1 then 1 else q 5 k) else 0) else 0) (N : Nat) : ∀ (fu k : Nat), k ≤ n → n - k < fu →
    fX5_level_119_L N fu (nI s) (nI d) (nI w) (nI p) (nI (smm f k)) (nI k) t = some (nI (smm f n), t) := by
  intro fu
  induction fu with
  | zero => intro k _ hf; omega
  | succ fu ih =>
    intro k hk hf
    show fX5_level_119 N (fX5_level_119_L N fu) _ _ _ _ _ _ t = _
    unfold fX5_level_119 fX5_level_155 fX5_level_156 fX5_level_182 fX5_level_188
    rw [rdi_n, g2]
    by_cases c : n ≤ k
    · have : k = n := by omega
      subst this
      rw [if_pos (nI_le (Nat.le_refl _) (by omega))]
    · have hk' : k < n := by omega
      have e := ih (k + 1) (by omega) (by omega)
      rw [smm_s, ff k] at e
      rw [if_neg (nI_ge (by omega) (by omega)), rests_eq RO hn hk' hs hd, bnd_some, nI_1]
      obtain ⟨-, -, -, -, ⟨-, p2, -, p4⟩, ⟨-, l2, -⟩, -⟩ := RO k hk'
      by_cases c1 : inBook q (2 * s + d) k = true
      · rw [if_pos c1, if_neg one_ne, rda_n (show k < 520 by omega), p2]
        simp only [c1, if_true] at e
        by_cases c2 : q 4 k = p
        · rw [if_pos (by rw [c2]), if_neg one_ne]
          simp only [c2, if_true] at e
          by_cases c3 : w = 1
          · subst c3
            rw [if_pos (by decide), nI_1]
            simp only [if_true] at e
            exact e
          · rw [if_neg (fun z => c3 (nI_inj (by omega) (by decide) (z.trans (by decide)))), rda_n (show k < 520 by omega), l2, nI_add]
            simp only [c3, if_false] at e
            exact e
        · rw [if_neg (fun z => c2 (nI_inj (by omega) (by omega) z)), if_pos rfl]
          simp only [c2, if_false, Nat.add_zero] at e
          exact e
      · rw [if_neg c1, if_pos rfl, if_pos rfl]
        rw [if_neg c1, Nat.add_zero] at e
        exact e
theorem aheadM_loop (RO : RelO h t q n nt o) (hn : n ≤ 64) (hB : nt < 2 ^ 31) (g2 : gi t 2 = nI n) (g0 : gi t 0 = 0) {m : Nat} (hm : m < n) (hm7 : q 7 m = 0) {f : Nat → Nat} (ff : ∀ k, f k = if inBook q (2 * q 1 m + q 2 m) k = true then (if q 4 k = q 4 m ∧ q 8 k < q 8 m then q 6 k else 0) else 0) (N : Nat) : ∀ (fu k : Nat), k ≤ n → n - k < fu →
    fX5_ahead_40_L N fu (nI m) (nI (smm f k)) (nI k) t = some (nI (smm f n), t) := by
  obtain ⟨-, ⟨-, a2, a3⟩, ⟨-, b2, b3⟩, -, ⟨-, d2, -, d4⟩, -, -, -, -, -, -, tm, -⟩ := RO m hm
  have tm1 := tm hm7
  have hm5 : m < 520 := by omega
  intro fu
  induction fu with
  | zero => intro k _ hf; omega
  | succ fu ih =>
    intro k hk hf
    show fX5_ahead_40 N (fX5_ahead_40_L N fu) _ _ _ t = _
    unfold fX5_ahead_40 fX5_ahead_124 fX5_ahead_116 fX5_ahead_117
    rw [rdi_n, g2]
    by_cases c : n ≤ k
    · have : k = n := by omega
      subst this
      rw [if_pos (nI_le (Nat.le_refl _) (by omega))]
    · have hk' : k < n := by omega
      have hk5 : k < 520 := by omega
      have e := ih (k + 1) (by omega) (by omega)
      rw [smm_s, ff k] at e
      rw [if_neg (nI_ge (by omega) (by omega)), rdi_n, g0, if_pos rfl, rda_n hm5, a2, rda_n hm5, b2, rests_eq RO hn hk' a3 b3, bnd_some, nI_1]
      obtain ⟨-, -, -, -, ⟨-, p2, -, p4⟩, -, ⟨-, s2, -⟩, -, -, -, -, tk, -⟩ := RO k hk'
      by_cases c1 : inBook q (2 * q 1 m + q 2 m) k = true
      · have tk1 := tk (inBook_7 c1)
        rw [if_pos c1, if_neg one_ne, rda_n hk5, p2, rda_n hm5, d2]
        simp only [c1, if_true] at e
        by_cases c2 : q 4 k = q 4 m
        · rw [if_pos (by rw [c2]), rda_n hk5, tk1.1, rda_n hm5, tm1.1]
          by_cases c3 : q 8 k < q 8 m
          · rw [if_neg (nI_ge c3 (by omega)), rda_n hk5, s2, nI_add]
            simp only [c2, c3, and_self, if_true] at e
            exact e
          · rw [if_pos (nI_le (by omega) (by omega))]
            simp only [c3, and_false, if_false, Nat.add_zero] at e
            exact e
        · rw [if_neg (fun z => c2 (nI_inj (by omega) (by omega) z))]
          simp only [c2, false_and, if_false, Nat.add_zero] at e
          exact e
      · rw [if_neg c1, if_pos rfl]
        rw [if_neg c1, Nat.add_zero] at e
        exact e
/-- what is before an order in a sorted list -/
theorem ahead_list {d m : Nat} : ∀ {L : List Nat}, L.Pairwise (fun i j => qlt q d i j = true) → m ∈ L → sumTo (fun j => decide (j = m)) (fun i => if q 4 i = q 4 m then q 6 i else 0) L = (L.map (fun i => if q 4 i = q 4 m ∧ q 8 i < q 8 m then q 6 i else 0)).sum
  | [], _, hm => by cases hm
  | a :: L, hp, hm => by
    obtain ⟨h1, h2⟩ := List.pairwise_cons.mp hp
    show (if decide (a = m) = true then 0 else _) = _
    by_cases c : a = m
    · subst c
      rw [if_pos (by simp), List.map_cons, List.sum_cons, if_neg (by omega), Nat.zero_add]
      have : ∀ j, j ∈ L → (if q 4 j = q 4 a ∧ q 8 j < q 8 a then q 6 j else 0) = 0 := fun j hj => by
        have := h1 j hj
        unfold qlt qbet at this
        rw [if_neg]
        rintro ⟨e1, e2⟩
        simp [e1] at this
        omega
      clear h1 h2 hp hm
      induction L with
      | nil => rfl
      | cons b L ih =>
        rw [List.map_cons, List.sum_cons, this b List.mem_cons_self, Nat.zero_add]
        exact ih (fun j hj => this j (List.mem_cons_of_mem _ hj))
    · have hm' : m ∈ L := by
        rcases List.mem_cons.mp hm with e | e
        · exact absurd e.symm c
        · exact e
      rw [if_neg (by simpa using c), ahead_list h2 hm', List.map_cons, List.sum_cons]
      have := h1 m hm'
      congr 1
      by_cases c2 : q 4 a = q 4 m
      · show (if q 4 a = q 4 m then q 6 a else 0) = _
        unfold qlt qbet at this
        have c3 : q 8 a < q 8 m := by
          simp [c2] at this
          exact this
        rw [if_pos c2, if_pos ⟨c2, c3⟩]
      · show (if q 4 a = q 4 m then q 6 a else 0) = _
        rw [if_neg c2, if_neg (fun z => c2 z.1)]
theorem agrA_i {α : Type} {b : α} {t : SH} (e : gi t 0 = 1) : agr cA (.inl eIdx) b t := ⟨by rw [e]; decide, by decide⟩
theorem agrA_n {α : Type} {b : α} {t : SH} (e : gi t 0 = 2) : agr cA (.inl eNo) b t := ⟨by rw [e]; decide, by decide⟩
theorem ahead_no (N : Nat) (hN : 20000 ≤ N) {v : Int32} (hv : ¬ v = 0) (x : Int32) (hn : n ≤ 64) (g2 : gi t 2 = nI n) : fX5_ahead_40_L N N x 0 0 (si t 0 v) = some (0, si t 0 v) := by
  obtain ⟨N', rfl⟩ : ∃ N', N = N' + 1 := ⟨N - 1, by omega⟩
  show fX5_ahead_40 _ _ _ _ _ _ = _
  unfold fX5_ahead_40 fX5_ahead_124
  rw [rdi_n, rdi_n, thr_si, if_neg hv]
  by_cases c : gi (si t 0 v) 2 ≤ 0
  · rw [if_pos c]
  · rw [if_neg c]
theorem op_ahead (N : Nat) (hN : 20000 ≤ N) (R : Rel h t q Q n nt B o) (ho : n ≤ o) (a : Int32) : ∃ (r : String ⊕ Int32) (h' : SH) (b : Int32) (t' : SH), fX4_ahead N a h = some (r, h') ∧ fX5_ahead N a t = some (b, t') ∧ agr cA r b t' ∧ Rel h' t' q Q n nt B o := by
  have R0 := R
  obtain ⟨⟨hn, hB, g1, g2, g3, g4, -⟩, RC, RH, RP, RO, RB, RT⟩ := R
  by_cases h1 : 0 ≤ a ∧ a ≤ nI n - 1
  · obtain ⟨k, hk, rfl⟩ := (isInO hn).mp h1
    obtain ⟨-, ⟨b1, b2, b3⟩, ⟨c1, c2, c3⟩, -, ⟨d1, d2, -, d4⟩, -, -, ⟨s1, s2, s3⟩, -⟩ := RO k hk
    rw [if_neg (show k ≠ o by omega)] at s1
    by_cases c7 : q 7 k = 0
    · have hS := sumShown_eq RO RB hn (b := 2 * q 1 k + q 2 k) (by omega) (p := q 4 k) d4 (f := fun i => if q 4 i = q 4 k then q 6 i else 0) (fun _ => rfl) (x3 := nI k) (stop := fun j => decide (j = k)) (fun j hj => by rw [nI_eq (by omega) (by omega)]; simp) N hN
      have hm : k ∈ Q (2 * q 1 k + q 2 k) := ((RB _ (by omega)).2.2.1.2 k).mpr ⟨hk, by unfold inBook; simp [c7]⟩
      obtain ⟨f, hfd⟩ : ∃ f : Nat → Nat, f = fun j => if inBook q (2 * q 1 k + q 2 k) j = true then (if q 4 j = q 4 k ∧ q 8 j < q 8 k then q 6 j else 0) else 0 := ⟨_, rfl⟩
      have hfs : smm f n = ((Q (2 * q 1 k + q 2 k)).map (fun i => if q 4 i = q 4 k ∧ q 8 i < q 8 k then q 6 i else 0)).sum := by rw [hfd]; exact smm_list (RB (2 * q 1 k + q 2 k) (by omega)).2.2.1
      rw [ahead_list (RB (2 * q 1 k + q 2 k) (by omega)).2.2.2 hm, ← hfs] at hS
      have hM := aheadM_loop (t := si t 0 0) RO hn (by omega) g2 rfl hk c7 (f := f) (fun _ => by rw [hfd]) N N 0 (by omega) (by omega)
      have hc : fX4_ahead N (nI k) h = some (.inr (nI (smm f n)), h) := by
        unfold fX4_ahead fX0_bookOf
        rw [needO_eq g1 hn, if_pos h1, bndX_inr, rda_n (show k < 512 by omega), s1, if_pos (by rw [c7]; decide), rda_n (show k < 512 by omega), b1, rda_n (show k < 512 by omega), c1, bnd_some, book_n, rda_n (show k < 512 by omega), d1, hS, bnd_some]
      have hmm : fX5_ahead N (nI k) t = some (nI (smm f n), si t 0 0) := by
        unfold fX5_ahead fX5_ahead_33
        rw [rdi_n, g2, isIn_eq, if_pos h1, bnd_some, if_neg one_ne, rda_n (show k < 520 by omega), s2, if_pos (by rw [c7]; decide), wri_n]
        exact hM
      exact ⟨_, _, _, _, hc, hmm, ⟨rfl, rfl⟩, Rel_thr R0⟩
    · have hc : fX4_ahead N (nI k) h = some (.inl eNo, h) := by
        unfold fX4_ahead
        rw [needO_eq g1 hn, if_pos h1, bndX_inr, rda_n (show k < 512 by omega), s1, if_neg (by rw [z_eq (by omega)]; exact c7)]
        rfl
      have hmm : fX5_ahead N (nI k) t = some (0, si t 0 2) := by
        unfold fX5_ahead fX5_ahead_33
        rw [rdi_n, g2, isIn_eq, if_pos h1, bnd_some, if_neg one_ne, rda_n (show k < 520 by omega), s2, if_neg (by rw [z_eq (by omega)]; exact c7), wri_n]
        exact ahead_no N hN (by decide) _ hn g2
      exact ⟨_, _, _, _, hc, hmm, agrA_n rfl, Rel_thr R0⟩
  · have hc : fX4_ahead N a h = some (.inl eIdx, h) := by
      unfold fX4_ahead
      rw [needO_eq g1 hn, if_neg h1, bndX_inl]
    have hmm : fX5_ahead N a t = some (0, si t 0 1) := by
      unfold fX5_ahead fX5_ahead_33
      rw [rdi_n, g2, isIn_eq, if_neg h1, bnd_some, if_pos rfl, wri_n]
      exact ahead_no N hN (by decide) _ hn g2
    exact ⟨_, _, _, _, hc, hmm, agrA_i rfl, Rel_thr R0⟩
end Sums
