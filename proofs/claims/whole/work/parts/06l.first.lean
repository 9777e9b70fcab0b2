/-! ===== the first of a book ===== -/
def enc (x : Option Nat) : Int32 := match x with
  | none => -1
  | some k => nI k
def cB (E : String) : Int32 := if E = eIdx then 1 else if E = eArg then 2 else if E = eNo then 3 else 0
def betN (d a b : Nat) : Bool := if d = 0 then decide (b < a) else decide (a < b)
theorem enc_some {k : Nat} : enc (some k) = nI k := rfl
theorem enc_none : enc none = -1 := rfl
section First
variable {h h' t t' : SH} {q q' : Nat → Nat → Nat} {Q Q' : Nat → List Nat} {n nt nt' B o o' k : Nat}
theorem qbet_N {d i j : Nat} : qbet q d i j = betN d (q 4 i) (q 4 j) := rfl
theorem z_eq {a : Nat} (ha : a < 2 ^ 31) : (nI a = 0) = (a = 0) := by rw [show (0 : Int32) = nI 0 by decide]; exact nI_eq' ha (by decide)
theorem rests_eq (RO : RelO h t q n nt o) (hn : n ≤ 64) (hk : k < n) {s d : Nat} (hs : s < 4) (hd : d < 2) : fX5_rests (nI k) (nI s) (nI d) t = some ((if inBook q (2 * s + d) k = true then 1 else 0), t) := by
  obtain ⟨-, ⟨-, b2, b3⟩, ⟨-, c2, c3⟩, -, -, -, -, ⟨-, s2, s3⟩, -⟩ := RO k hk
  have hk5 : k < 520 := by omega
  unfold fX5_rests fX5_rests_33 fX5_rests_34 inBook
  rw [rda_n hk5, rda_n hk5, rda_n hk5, s2, b2, c2]
  by_cases e0 : q 7 k = 0
  · rw [if_pos (by rw [z_eq (by omega)]; exact e0)]
    by_cases e1 : q 1 k = s
    · rw [if_pos (by rw [e1])]
      by_cases e2 : q 2 k = d
      · rw [if_pos (by rw [e2]), gdb_1, if_pos (by simp [e0, e1, e2])]
      · rw [if_neg (fun z => e2 (nI_inj (by omega) (by omega) z)), gdb_0, if_neg (by simp [e0]; omega)]
    · rw [if_neg (fun z => e1 (nI_inj (by omega) (by omega) z)), gdb_0, if_neg (by simp [e0]; omega)]
  · rw [if_neg (by rw [z_eq (by omega)]; exact e0), gdb_0, if_neg (by simp [e0])]
theorem better_eq {d a b : Nat} (hd : d < 2) (ha : a < 2 ^ 31) (hb : b < 2 ^ 31) (t : SH) : fX5_isBetter (nI d) (nI a) (nI b) t = some ((if betN d a b = true then 1 else 0), t) := by
  unfold fX5_isBetter fX5_isBetter_27 betN
  by_cases e : d = 0
  · rw [if_pos (by rw [z_eq (by omega)]; exact e), if_pos e]
    by_cases c : a ≤ b
    · rw [if_pos (nI_le c hb), gdb_0, if_neg (by simp; omega)]
    · rw [if_neg (nI_ge (by omega) ha), gdb_1, if_pos (by simp; omega)]
  · rw [if_neg (by rw [z_eq (by omega)]; exact e), if_neg e]
    by_cases c : b ≤ a
    · rw [if_pos (nI_le c ha), gdb_0, if_neg (by simp; omega)]
    · rw [if_neg (nI_ge (by omega) hb), gdb_1, if_pos (by simp; omega)]
theorem inBook_7 {b : Nat} (e : inBook q b k = true) : q 7 k = 0 := by
  unfold inBook at e
  simp at e
  exact e.1
theorem first_loop (RO : RelO h t q n nt o) (hn : n ≤ 64) (hB : nt < 2 ^ 31) (g2 : gi t 2 = nI n) {s d : Nat} (hs : s < 4) (hd : d < 2) (N : Nat) : ∀ (fu k : Nat), k ≤ n → n - k < fu → fX5_first_5_L N fu (nI s) (nI d) (enc (bst (inBook q (2 * s + d)) (qlt q d) k)) (nI k) t = some (enc (bst (inBook q (2 * s + d)) (qlt q d) n), t) := by
  intro fu
  induction fu with
  | zero => intro k _ hf; omega
  | succ fu ih =>
    intro k hk hf
    show fX5_first_5 N (fX5_first_5_L N fu) _ _ _ _ t = _
    unfold fX5_first_5 fX5_first_82 fX5_first_85
    rw [rdi_n, g2]
    by_cases c : n ≤ k
    · have : k = n := by omega
      subst this
      rw [if_pos (nI_le (Nat.le_refl _) (by omega))]
    · have hk' : k < n := by omega
      rw [if_neg (nI_ge (by omega) (by omega)), rests_eq RO hn hk' hs hd, bnd_some, nI_1]
      have e := ih (k + 1) (by omega) (by omega)
      have hk5 : k < 520 := by omega
      obtain ⟨-, -, -, -, ⟨-, p2, p3, p4⟩, -, -, -, -, -, -, tk, -⟩ := RO k hk'
      by_cases c1 : inBook q (2 * s + d) k = true
      · rw [if_pos c1, if_neg one_ne]
        cases hb : bst (inBook q (2 * s + d)) (qlt q d) k with
        | none =>
          have e2 : bst (inBook q (2 * s + d)) (qlt q d) (k + 1) = some k := by unfold bst; rw [hb]; simp [c1]
          rw [e2] at e
          rw [if_pos (by rfl)]
          exact e
        | some m =>
          have hm := bst_in hb
          have hm5 : m < 520 := by omega
          obtain ⟨-, -, -, -, ⟨-, u2, u3, u4⟩, -, -, -, -, -, -, um, -⟩ := RO m (by omega)
          have tk1 := tk (inBook_7 c1)
          have um1 := um (inBook_7 hm.2)
          rw [enc_some, if_neg (nI_nem1 (by omega)), rda_n hk5, rda_n hm5, p2, u2, better_eq hd (by omega) (by omega), bnd_some]
          by_cases c2 : betN d (q 4 k) (q 4 m) = true
          · have e2 : bst (inBook q (2 * s + d)) (qlt q d) (k + 1) = some k := by
              unfold bst
              rw [hb]
              simp only
              rw [if_pos ⟨c1, by unfold qlt; rw [qbet_N, c2]; rfl⟩]
            rw [e2] at e
            rw [if_pos c2, if_neg one_ne]
            exact e
          · rw [if_neg c2, if_pos rfl, rda_n hk5, rda_n hm5, p2, u2]
            have c2' : betN d (q 4 k) (q 4 m) = false := by simpa using c2
            by_cases c3 : q 4 k = q 4 m
            · rw [if_pos (by rw [c3]), rda_n hk5, rda_n hm5, tk1.1, um1.1]
              by_cases c4 : q 8 m ≤ q 8 k
              · have e2 : bst (inBook q (2 * s + d)) (qlt q d) (k + 1) = some m := by
                  unfold bst
                  rw [hb]
                  simp only
                  rw [if_neg]
                  rintro ⟨-, z⟩
                  unfold qlt at z
                  rw [qbet_N, c2'] at z
                  simp at z
                  omega
                rw [e2] at e
                rw [if_pos (nI_le c4 (by omega))]
                exact e
              · have e2 : bst (inBook q (2 * s + d)) (qlt q d) (k + 1) = some k := by
                  unfold bst
                  rw [hb]
                  simp only
                  rw [if_pos ⟨c1, by unfold qlt; rw [qbet_N, c2']; simp [c3]; omega⟩]
                rw [e2] at e
                rw [if_neg (nI_ge (by omega) (by omega))]
                exact e
            · have e2 : bst (inBook q (2 * s + d)) (qlt q d) (k + 1) = some m := by
                unfold bst
                rw [hb]
                simp only
                rw [if_neg]
                rintro ⟨-, z⟩
                unfold qlt at z
                rw [qbet_N, c2'] at z
                simp at z
                exact c3 z.1
              rw [e2] at e
              rw [if_neg (fun z => c3 (nI_inj (by omega) (by omega) z))]
              exact e
      · have e2 : bst (inBook q (2 * s + d)) (qlt q d) (k + 1) = bst (inBook q (2 * s + d)) (qlt q d) k := by
          show (match bst (inBook q (2 * s + d)) (qlt q d) k with | none => _ | some b => _) = _
          cases hb : bst (inBook q (2 * s + d)) (qlt q d) k with
          | none => simp [c1]
          | some b => simp [c1]
        rw [e2] at e
        rw [if_neg c1, if_pos rfl]
        exact e
theorem qlt_asym {d i j : Nat} (e : qlt q d i j = true) : qlt q d j i = false := by
  unfold qlt qbet at *
  by_cases c : d = 0 <;> simp [c] at e ⊢ <;> omega
theorem first_eq (RO : RelO h t q n nt o) (RB : RelB h q Q n) (hn : n ≤ 64) (hB : nt < 2 ^ 31) (g2 : gi t 2 = nI n) {s d : Nat} (hs : s < 4) (hd : d < 2) (N : Nat) (hN : 20000 ≤ N) : fX5_first N (nI s) (nI d) t = some (enc (Q (2 * s + d)).head?, t) := by
  have e := first_loop RO hn hB g2 hs hd N N 0 (by omega) (by omega)
  obtain ⟨-, -, r3, r4⟩ := RB (2 * s + d) (by omega)
  rw [show (2 * s + d) % 2 = d by omega] at r4
  rw [bst_list r3 (r4.imp (fun {a b} z => ⟨z, qlt_asym z⟩))] at e
  exact e
theorem orderAt_eq (RB : RelB h q Q n) (hn : n ≤ 64) {b i : Nat} (hb : b < 8) (hi : i < 2 ^ 31) : fX0_orderAt (nI b) (nI i) h = some (enc (Q b)[i]?, h) := by
  obtain ⟨r1, r2, -, -⟩ := RB b hb
  have hl := book_len RB hn hb
  unfold fX0_orderAt fX0_orderAt_14
  rw [if_neg (nI_pos hi), rda_n hb, r1]
  by_cases c : i < (Q b).length
  · have e : ((((nI b * 100) + nI (Q b).length) - 1) - nI i : Int32) = nI (100 * b + ((Q b).length - 1 - i)) := by
      rw [show (100 : Int32) = nI 100 by decide, show (1 : Int32) = nI 1 by decide, pk_mul, nI_add, pk_sub (by omega), pk_sub (by omega)]
      congr 1
      omega
    rw [if_pos (nI_lt c (by omega)), rda_n hb, r1, e, rda_n (show 100 * b + ((Q b).length - 1 - i) < 800 by omega), r2 i c, List.getD_eq_getElem?_getD, List.getElem?_eq_getElem c]
    rfl
  · rw [if_neg (nI_nlt (by omega) hi), List.getElem?_eq_none (by omega)]
    rfl
theorem book_n {s d : Nat} : ((nI s * 2) + nI d : Int32) = nI (2 * s + d) := by rw [show (2 : Int32) = nI 2 by decide, pk_mul, nI_add, Nat.mul_comm]
theorem RelB.mem (RB : RelB h q Q n) {b j : Nat} (hb : b < 8) (hj : j ∈ Q b) : j < n ∧ q 7 j = 0 ∧ 2 * q 1 j + q 2 j = b := by
  have h1 := ((RB b hb).2.2.1.2 j).mp hj
  have h2 := h1.2
  unfold inBook at h2
  simp at h2
  exact ⟨h1.1, h2⟩
theorem agrB_n {α : Type} {b : α} {t : SH} : agr cB (.inl eNo) b (si t 0 3) := ⟨by show (3 : Int32) = cB eNo; decide, by decide⟩
theorem agrB_i {α : Type} {b : α} {t : SH} : agr cB (.inl eIdx) b (si t 0 1) := ⟨by show (1 : Int32) = cB eIdx; decide, by decide⟩
theorem agrB_a {α : Type} {b : α} {t : SH} : agr cB (.inl eArg) b (si t 0 2) := ⟨by show (2 : Int32) = cB eArg; decide, by decide⟩
/-- best -/
theorem op_best (N : Nat) (hN : 20000 ≤ N) (R : Rel h t q Q n nt B o) (a x : Int32) : ∃ (r : String ⊕ Int32) (h' : SH) (b : Int32) (t' : SH), fX4_best a x h = some (r, h') ∧ fX5_best N a x t = some (b, t') ∧ agr cB r b t' ∧ Rel h' t' q Q n nt B o := by
  have hn := R.1.1
  by_cases h1 : 0 ≤ a ∧ a ≤ 3
  · by_cases h2 : 0 ≤ x ∧ x ≤ 1
    · obtain ⟨s, -, hs, rfl⟩ := between (a := 0) (b := 3) (by decide) (by decide) h1.1 h1.2
      obtain ⟨d, -, hd, rfl⟩ := between (a := 0) (b := 1) (by decide) (by decide) h2.1 h2.2
      have R0 := R
      obtain ⟨⟨-, hB, g1, g2, g3, g4, -⟩, RC, RH, RP, RO, RB, RT⟩ := R
      have hf := first_eq RO RB hn (by omega) g2 (show s < 4 by omega) (show d < 2 by omega) N hN
      have ho := orderAt_eq RB hn (b := 2 * s + d) (i := 0) (by omega) (by decide)
      rw [← List.head?_eq_getElem?, nI_0] at ho
      cases hh : (Q (2 * s + d)).head? with
      | none =>
        rw [hh] at hf ho
        have hc : fX4_best (nI s) (nI d) h = some (.inl eNo, h) := by
          unfold fX4_best fX0_bookOf
          rw [needSym_eq, if_pos h1, bndX_inr, needSide_eq, if_pos h2, bndX_inr, bnd_some, book_n, ho, bnd_some, if_pos enc_none]
          rfl
        have hm : fX5_best N (nI s) (nI d) t = some (0, si t 0 3) := by
          unfold fX5_best fX5_best_26 fX5_best_62 fX5_best_82
          rw [isSym_eq, if_pos h1, bnd_some, if_neg one_ne, isIn_eq, if_pos h2, bnd_some, if_neg one_ne, hf, bnd_some, isSym_eq, if_pos h1, bnd_some, if_neg one_ne, isIn_eq, if_pos h2, bnd_some, if_neg one_ne, if_pos enc_none, wri_n, rdi_n, thr_si, if_neg (by decide)]
        exact ⟨_, _, _, _, hc, hm, agrB_n, Rel_thr R0⟩
      | some j =>
        rw [hh] at hf ho
        have hj : j ∈ Q (2 * s + d) := List.mem_of_mem_head? (by rw [hh]; rfl)
        have hjn := (RB.mem (by omega) hj).1
        obtain ⟨-, -, -, -, ⟨p1, p2, -⟩, -⟩ := RO j hjn
        have hc : fX4_best (nI s) (nI d) h = some (.inr (nI (q 4 j)), h) := by
          unfold fX4_best fX0_bookOf
          rw [needSym_eq, if_pos h1, bndX_inr, needSide_eq, if_pos h2, bndX_inr, bnd_some, book_n, ho, bnd_some, if_neg (show ¬ enc (some j) = -1 from nI_nem1 (by omega))]
          show rda h 16 512 (nI j) _ = _
          rw [rda_n (show j < 512 by omega), p1]
        have hm : fX5_best N (nI s) (nI d) t = some (nI (q 4 j), si t 0 0) := by
          unfold fX5_best fX5_best_26 fX5_best_62 fX5_best_82
          rw [isSym_eq, if_pos h1, bnd_some, if_neg one_ne, isIn_eq, if_pos h2, bnd_some, if_neg one_ne, hf, bnd_some, isSym_eq, if_pos h1, bnd_some, if_neg one_ne, isIn_eq, if_pos h2, bnd_some, if_neg one_ne, if_neg (show ¬ enc (some j) = -1 from nI_nem1 (by omega)), wri_n, rdi_n, thr_si, if_pos (by decide)]
          show rda (si t 0 0) 12 520 (nI j) _ = _
          rw [rda_n (show j < 520 by omega), gA_si, p2]
        exact ⟨_, _, _, _, hc, hm, ⟨rfl, rfl⟩, Rel_thr R0⟩
    · have hc : fX4_best a x h = some (.inl eArg, h) := by
        unfold fX4_best
        rw [needSym_eq, if_pos h1, bndX_inr, needSide_eq, if_neg h2, bndX_inl]
      have hm : fX5_best N a x t = some (0, si t 0 2) := by
        unfold fX5_best fX5_best_25 fX5_best_26 fX5_best_62 fX5_best_82
        rw [isSym_eq, if_pos h1, bnd_some, if_neg one_ne, isIn_eq, if_neg h2, bnd_some, if_pos rfl, isSym_eq, if_pos h1, bnd_some, if_neg one_ne, isIn_eq, if_neg h2, bnd_some, if_pos rfl, wri_n, rdi_n, thr_si, if_neg (by decide)]
      exact ⟨_, _, _, _, hc, hm, agrB_a, Rel_thr R⟩
  · have hc : fX4_best a x h = some (.inl eIdx, h) := by
      unfold fX4_best
      rw [needSym_eq, if_neg h1, bndX_inl]
    have hm : fX5_best N a x t = some (0, si t 0 1) := by
      unfold fX5_best fX5_best_25 fX5_best_26 fX5_best_62 fX5_best_82
      rw [isSym_eq, if_neg h1, bnd_some, if_pos rfl, isSym_eq, if_neg h1, bnd_some, if_pos rfl, wri_n, rdi_n, thr_si, if_neg (by decide)]
    exact ⟨_, _, _, _, hc, hm, agrB_i, Rel_thr R⟩
end First
