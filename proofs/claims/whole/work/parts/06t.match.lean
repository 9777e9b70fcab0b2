/-! ===== trading until it ends ===== -/
def alw (q : Nat → Nat → Nat) (o k : Nat) : Bool := if q 2 o = 0 then decide (q 4 k ≤ q 4 o) else decide (q 4 o ≤ q 4 k)
def stp (q : Nat → Nat → Nat) (o k : Nat) : Bool := !alw q o k || decide (q 0 k = q 0 o)
def trm (q : Nat → Nat → Nat) (d : Nat) (s : Option Nat) (k : Nat) : Nat := match s with
  | none => q 5 k
  | some s => if betN d (q 4 k) (q 4 s) = true then q 5 k else if q 4 k = q 4 s ∧ q 8 k < q 8 s then q 6 k else 0
def av (q : Nat → Nat → Nat) (d : Nat) (s : Option Nat) (b n : Nat) : Nat := smm (fun k => if inBook q b k = true then trm q d s k else 0) n
def InvS (q : Nat → Nat → Nat) (o b d n : Nat) (s : Option Nat) : Prop :=
  (s = none → ∀ k, k < n → inBook q b k = true → stp q o k = false) ∧
  ∀ s', s = some s' → s' < n ∧ inBook q b s' = true ∧ stp q o s' = true ∧ ∀ k, k < n → inBook q b k = true → stp q o k = true → k = s' ∨ qlt q d s' k = true
section Match
variable {h h' h1 h2 t t' t1 t2 : SH} {q q' : Nat → Nat → Nat} {Q Q' : Nat → List Nat} {n nt nt' B B' o o' k j a b d y5 x5 x6 x7 x8 : Nat} {s : Option Nat}
theorem smm_upd {f g : Nat → Nat} {i : Nat} : ∀ {n : Nat}, i < n → (∀ k, k < n → k ≠ i → g k = f k) → smm g n + f i = smm f n + g i
  | 0, h, _ => absurd h (Nat.not_lt_zero i)
  | n + 1, h, hq => by
    rw [smm_s, smm_s]
    by_cases hi : i = n
    · subst hi
      rw [smm_congr (f := g) (g := f) (fun k hk => hq k (by omega) (by omega))]
      omega
    · have h1 := smm_upd (f := f) (g := g) (i := i) (n := n) (by omega) (fun k hk hne => hq k (by omega) hne)
      rw [hq n (by omega) (fun h => hi h.symm)]
      omega
theorem smm_zero {f : Nat → Nat} : ∀ {n : Nat}, (∀ k, k < n → f k = 0) → smm f n = 0
  | 0, _ => rfl
  | n + 1, h => by rw [smm_s, smm_zero (fun k hk => h k (by omega)), h n (by omega)]
theorem inBook_o {b : Nat} (h7 : q 7 o = 3) : inBook q b o = false := by unfold inBook; simp [h7]
theorem inBook_tq (hne : j ≠ o) (ho7 : q 7 o = 3) (hk : k ≠ j) : inBook (tq q o j y5 x5 x6 x7 x8) b k = inBook q b k := by
  unfold inBook
  rw [tq_7n hk, tq_f (f := 1) (by decide) (by decide) (by decide) (by decide), tq_f (f := 2) (by decide) (by decide) (by decide) (by decide)]
theorem inBook_tqj (hne : j ≠ o) : inBook (tq q o j y5 x5 x6 x7 x8) b j = (decide (x7 = 0) && decide (2 * q 1 j + q 2 j = b)) := by
  unfold inBook
  rw [tq_j7 hne, tq_f (f := 1) (by decide) (by decide) (by decide) (by decide), tq_f (f := 2) (by decide) (by decide) (by decide) (by decide)]
theorem stp_tq : stp (tq q o j y5 x5 x6 x7 x8) o k = stp q o k := by
  unfold stp alw
  rw [tq_f (f := 0) (by decide) (by decide) (by decide) (by decide), tq_f (f := 0) (by decide) (by decide) (by decide) (by decide), tq_f (f := 2) (by decide) (by decide) (by decide) (by decide), tq_f (f := 4) (by decide) (by decide) (by decide) (by decide), tq_f (f := 4) (by decide) (by decide) (by decide) (by decide)]
theorem qlt_tq {i : Nat} (hi : i ≠ j) (hk : k ≠ j) : qlt (tq q o j y5 x5 x6 x7 x8) d i k = qlt q d i k :=
  qlt_congr (tq_f (by decide) (by decide) (by decide) (by decide)) (tq_f (by decide) (by decide) (by decide) (by decide)) (tq_8n hi) (tq_8n hk)
theorem av_step (hj : j < n) (hne : j ≠ o) (ho7 : q 7 o = 3) (hib : inBook q b j = true) (h6a : a ≤ q 6 j) (h65 : q 6 j ≤ q 5 j) (e5 : x5 = q 5 j - a) (hx : (x7 = 0 ∧ x8 = q 8 j ∧ x6 = q 6 j - a) ∨ (x7 = 2 ∧ x5 = 0) ∨ (x7 = 0 ∧ x8 = nt ∧ a = q 6 j)) (hs : ∀ s', s = some s' → s' ≠ j ∧ s' ≠ o ∧ qlt q d j s' = true ∧ q 8 s' < nt) :
    av (tq q o j y5 x5 x6 x7 x8) d s b n + a = av q d s b n := by
  have hb : 2 * q 1 j + q 2 j = b := by unfold inBook at hib; simp at hib; exact hib.2
  have h1 := smm_upd (f := fun k => if inBook q b k = true then trm q d s k else 0) (g := fun k => if inBook (tq q o j y5 x5 x6 x7 x8) b k = true then trm (tq q o j y5 x5 x6 x7 x8) d s k else 0) hj (fun k hk hkj => by
    show (if inBook (tq q o j y5 x5 x6 x7 x8) b k = true then trm (tq q o j y5 x5 x6 x7 x8) d s k else 0) = if inBook q b k = true then trm q d s k else 0
    rw [inBook_tq hne ho7 hkj]
    by_cases c : inBook q b k = true
    · have hko : k ≠ o := fun z => by subst z; rw [inBook_o ho7] at c; cases c
      rw [if_pos c, if_pos c]
      unfold trm
      cases s with
      | none => exact tq_k hko hkj
      | some s' =>
        obtain ⟨w1, w2, -⟩ := hs s' rfl
        simp only
        rw [tq_k hko hkj, tq_k hko hkj, tq_k hko hkj, tq_k hko hkj, tq_k w2 w1, tq_k w2 w1]
    · rw [if_neg c, if_neg c])
  have hg : (if inBook (tq q o j y5 x5 x6 x7 x8) b j = true then trm (tq q o j y5 x5 x6 x7 x8) d s j else 0) + a = trm q d s j := by
    rw [inBook_tqj hne, hb]
    cases s with
    | none =>
      show (if (decide (x7 = 0) && decide (b = b)) = true then tq q o j y5 x5 x6 x7 x8 5 j else 0) + a = q 5 j
      rw [tq_j5 hne]
      rcases hx with ⟨z1, z2, z3⟩ | ⟨z1, z2⟩ | ⟨z1, z2, z3⟩ <;> subst z1 <;> simp <;> omega
    | some s' =>
      obtain ⟨w1, w2, w3, w4⟩ := hs s' rfl
      unfold trm
      simp only
      rw [tq_j5 hne, tq_j6 hne, tq_j8 hne, tq_f (f := 4) (by decide) (by decide) (by decide) (by decide), tq_f (f := 4) (by decide) (by decide) (by decide) (by decide), tq_k w2 w1]
      unfold qlt at w3
      rw [qbet_N] at w3
      by_cases c1 : betN d (q 4 j) (q 4 s') = true
      · rw [if_pos c1, if_pos c1]
        rcases hx with ⟨z1, z2, z3⟩ | ⟨z1, z2⟩ | ⟨z1, z2, z3⟩ <;> subst z1 <;> simp <;> omega
      · rw [if_neg c1, if_neg c1]
        simp only [Bool.or_eq_true, Bool.and_eq_true, decide_eq_true_eq, c1, Bool.false_eq_true, false_or] at w3
        rw [if_pos w3]
        rcases hx with ⟨z1, z2, z3⟩ | ⟨z1, z2⟩ | ⟨z1, z2, z3⟩
        · subst z1 z2
          rw [if_pos (by simp), if_pos w3]
          omega
        · subst z1
          simp
          omega
        · subst z1
          rw [if_pos (by simp), if_neg (by omega)]
          omega
  have h2 : (if inBook q b j = true then trm q d s j else 0) = trm q d s j := if_pos hib
  simp only [h2] at h1
  unfold av
  omega
theorem InvS_tq (hne : j ≠ o) (ho7 : q 7 o = 3) (hns : stp q o j = false) (hib : inBook q b j = true) (I : InvS q o b d n s) : InvS (tq q o j y5 x5 x6 x7 x8) o b d n s := by
  have hin : ∀ k, inBook (tq q o j y5 x5 x6 x7 x8) b k = true → inBook q b k = true := fun k hk => by
    by_cases c : k = j
    · subst c; exact hib
    · rw [inBook_tq hne ho7 c] at hk; exact hk
  refine ⟨fun z k hk hk2 => by rw [stp_tq]; exact I.1 z k hk (hin k hk2), fun s' hs' => ?_⟩
  obtain ⟨i1, i2, i3, i4⟩ := I.2 s' hs'
  have hsj : s' ≠ j := fun z => by subst z; rw [hns] at i3; cases i3
  refine ⟨i1, by rw [inBook_tq hne ho7 hsj]; exact i2, by rw [stp_tq]; exact i3, fun k hk hk2 hk3 => ?_⟩
  rw [stp_tq] at hk3
  rcases i4 k hk (hin k hk2) hk3 with e | e
  · exact .inl e
  · have hkj : k ≠ j := fun z => by subst z; rw [hns] at hk3; cases hk3
    exact .inr (by rw [qlt_tq hsj hkj]; exact e)
theorem qlt_irr {d i : Nat} : qlt q d i i = false := by
  unfold qlt
  rw [qbet_N, betN_irr]
  simp
theorem trm_0 {s' : Nat} (e : qlt q d k s' = false) : trm q d (some s') k = 0 := by
  unfold qlt at e
  rw [qbet_N] at e
  simp only [Bool.or_eq_false_iff, Bool.and_eq_false_iff, decide_eq_false_iff_not] at e
  unfold trm
  simp only
  rw [if_neg (by rw [e.1]; decide), if_neg (by omega)]
/-- where the first one stops nothing can be had -/
theorem av_stop (RB : RelB h q Q n) (hb : b < 8) (hd : b % 2 = d) (I : InvS q o b d n s) (hh : ∀ j, (Q b).head? = some j → stp q o j = true) : av q d s b n = 0 := by
  obtain ⟨-, -, r3, r4⟩ := RB b hb
  rw [hd] at r4
  refine smm_zero (fun k hk => ?_)
  by_cases c : inBook q b k = true
  · rw [if_pos c]
    have hkQ : k ∈ Q b := (r3.2 k).mpr ⟨hk, c⟩
    cases hL : Q b with
    | nil => rw [hL] at hkQ; cases hkQ
    | cons j R =>
      rw [hL] at hkQ r4 hh
      have hj := hh j rfl
      have hjb := (r3.2 j).mp (by rw [hL]; exact List.mem_cons_self)
      obtain ⟨p1, -⟩ := List.pairwise_cons.mp r4
      cases s with
      | none => rw [I.1 rfl j hjb.1 hjb.2] at hj; cases hj
      | some s' =>
        obtain ⟨i1, i2, i3, i4⟩ := I.2 s' rfl
        have hs : s' = j := by
          have hsQ : s' ∈ j :: R := by rw [← hL]; exact (r3.2 s').mpr ⟨i1, i2⟩
          rcases List.mem_cons.mp hsQ with e | e
          · exact e
          · rcases i4 j hjb.1 hjb.2 hj with e2 | e2
            · exact e2.symm
            · have := qlt_asym e2
              rw [p1 s' e] at this
              cases this
        subst hs
        apply trm_0
        rcases List.mem_cons.mp hkQ with e | e
        · subst e; exact qlt_irr
        · exact qlt_asym (p1 k e)
  · rw [if_neg c]
theorem allowH_eq (Ao : At5 h t q o) (Aj : At5 h t q j) : fX2_pricesAllow (nI o) (nI j) h = some ((if alw q o j = true then 1 else 0), h) := by
  obtain ⟨o5, -, -, ⟨oc, -, oc'⟩, ⟨od, -, -, od'⟩⟩ := Ao
  obtain ⟨j5, -, -, -, ⟨jd, -, -, jd'⟩⟩ := Aj
  unfold fX2_pricesAllow fX2_pricesAllow_52 alw
  rw [rda_n (show o < 512 by omega), oc]
  by_cases c : q 2 o = 0
  · rw [if_pos (by rw [z_eq (by omega)]; exact c), if_pos c, rda_n (show j < 512 by omega), jd, rda_n (show o < 512 by omega), od]
    by_cases c2 : q 4 j ≤ q 4 o
    · rw [if_neg (nI_nlt (by omega) (by omega)), gdb_1, if_pos (by simpa using c2)]
    · rw [if_pos (nI_lt (by omega) (by omega)), gdb_0, if_neg (by simpa using c2)]
  · rw [if_neg (by rw [z_eq (by omega)]; exact c), if_neg c, rda_n (show j < 512 by omega), jd, rda_n (show o < 512 by omega), od]
    by_cases c2 : q 4 o ≤ q 4 j
    · rw [if_neg (nI_nlt (by omega) (by omega)), gdb_1, if_pos (by simpa using c2)]
    · rw [if_pos (nI_lt (by omega) (by omega)), gdb_0, if_neg (by simpa using c2)]
theorem allowM_eq (Ao : At5 h t q o) (Aj : At5 h t q j) : fX5_allows (nI o) (nI j) t = some ((if alw q o j = true then 1 else 0), t) := by
  obtain ⟨o5, -, -, ⟨-, oc, oc'⟩, ⟨-, od, -, od'⟩⟩ := Ao
  obtain ⟨j5, -, -, -, ⟨-, jd, -, jd'⟩⟩ := Aj
  unfold fX5_allows fX5_allows_52 alw
  rw [rda_n (show o < 520 by omega), oc]
  by_cases c : q 2 o = 0
  · rw [if_pos (by rw [z_eq (by omega)]; exact c), if_pos c, rda_n (show j < 520 by omega), jd, rda_n (show o < 520 by omega), od]
    by_cases c2 : q 4 j ≤ q 4 o
    · rw [if_neg (nI_nlt (by omega) (by omega)), gdb_1, if_pos (by simpa using c2)]
    · rw [if_pos (nI_lt (by omega) (by omega)), gdb_0, if_neg (by simpa using c2)]
  · rw [if_neg (by rw [z_eq (by omega)]; exact c), if_neg c, rda_n (show j < 520 by omega), jd, rda_n (show o < 520 by omega), od]
    by_cases c2 : q 4 o ≤ q 4 j
    · rw [if_neg (nI_nlt (by omega) (by omega)), gdb_1, if_pos (by simpa using c2)]
    · rw [if_pos (nI_lt (by omega) (by omega)), gdb_0, if_neg (by simpa using c2)]
theorem one_sub {x : Nat} (hx : x < 2) : (1 - nI x : Int32) = nI (1 - x) := by rw [show (1 : Int32) = nI 1 by decide, pk_sub (by omega)]
theorem facing_eq (Ao : At5 h t q o) : fX0_facing (nI o) h = some (nI (2 * q 1 o + (1 - q 2 o)), h) := by
  obtain ⟨o5, -, ⟨ob, -, ob'⟩, ⟨oc, -, oc'⟩, -⟩ := Ao
  unfold fX0_facing fX0_bookOf
  rw [rda_n (show o < 512 by omega), ob, rda_n (show o < 512 by omega), oc, bnd_some, one_sub oc', book_n]
theorem m252_eq (R : Rel h t q Q n nt B o) (ho : o < n) (N : Nat) (hN : 20000 ≤ N) (k21 : Int32 → Int32 → Int32 → SH → Option (Int32 × SH)) (x2 : Int32) : fX5_match_252 N k21 (nI o) x2 t = k21 (nI o) x2 (enc (Q (2 * q 1 o + (1 - q 2 o))).head?) t := by
  obtain ⟨⟨hn, hB, g1, g2, g3, g4, -⟩, RC, RH, RP, RO, RB, RT⟩ := R
  obtain ⟨o5, -, ⟨-, ob, ob'⟩, ⟨-, oc, oc'⟩, -⟩ := RO.at5 hn ho
  unfold fX5_match_252
  rw [rda_n (show o < 520 by omega), ob, rda_n (show o < 520 by omega), oc, one_sub oc', first_eq RO RB hn (by omega) g2 ob' (by omega) N hN, bnd_some]
theorem match_loop (N : Nat) (hN : 20000 ≤ N) (ho : o < n) : ∀ (m : Nat) (h t : SH) (q : Nat → Nat → Nat) (Q : Nat → List Nat) (nt B r fuC fuM : Nat), q 5 o = m → Rel h t q Q n nt B o → B + m ≤ 64000000 → r + m ≤ 10000 → m < fuC → m + 1 < fuM →
    ∃ (c : Int32) (h' t' : SH) (q' : Nat → Nat → Nat) (Q' : Nat → List Nat) (nt' B' : Nat), fX4_tradeUntilStopped_11_L N fuC (nI o) (nI (2 * q 1 o + (1 - q 2 o))) (nI r) h = some (c, h') ∧ fX5_match_21_L N fuM (nI o) 0 (enc (Q (2 * q 1 o + (1 - q 2 o))).head?) t = some (c, t') ∧ (c = 0 ∨ c = 1) ∧ Rel h' t' q' Q' n nt' B' o ∧ B' + q' 5 o = B + m ∧ (∀ f, f ≠ 5 → q' f o = q f o) ∧ (∀ k, q' 3 k = q 3 k) ∧ gi t' 0 = gi t 0 ∧ ∀ s, InvS q o (2 * q 1 o + (1 - q 2 o)) (1 - q 2 o) n s → m ≤ av q (1 - q 2 o) s (2 * q 1 o + (1 - q 2 o)) n → q' 5 o = 0 := by
  intro m
  induction m using Nat.strongRecOn with
  | _ m ih =>
    intro h t q Q nt B r fuC fuM h5 R hB hr hfC hfM
    have R0 := R
    obtain ⟨⟨hn, hB0, g1, g2, g3, g4, -⟩, RC, RH, RP, RO, RB, RT⟩ := R
    have Ao := RO.at5 hn ho
    obtain ⟨-, -, -, -, -, ⟨l1, l2, l3⟩, -, -, -, -, -, -, -, -, o14⟩ := RO o ho
    have o7 := o14 rfl
    have ob' := Ao.2.2.1.2.2
    have oc' := Ao.2.2.2.1.2.2
    have ho5 : o < 512 := by omega
    have ho6 : o < 520 := by omega
    obtain ⟨fuC', rfl⟩ : ∃ f, fuC = f + 1 := ⟨fuC - 1, by omega⟩
    obtain ⟨fuM', rfl⟩ : ∃ f, fuM = f + 1 := ⟨fuM - 1, by omega⟩
    obtain ⟨b, hb⟩ : ∃ b, b = 2 * q 1 o + (1 - q 2 o) := ⟨_, rfl⟩
    obtain ⟨d, hd⟩ : ∃ d, d = 1 - q 2 o := ⟨_, rfl⟩
    have hb8 : b < 8 := by omega
    have hbd : b % 2 = d := by omega
    rw [← hb, ← hd]
    have hcL : fX4_tradeUntilStopped_11_L N (fuC' + 1) (nI o) (nI b) (nI r) h = fX4_tradeUntilStopped_11 N (fX4_tradeUntilStopped_11_L N fuC') (nI o) (nI b) (nI r) h := rfl
    have hmL : ∀ x2 x3, fX5_match_21_L N (fuM' + 1) (nI o) x2 x3 t = fX5_match_21 N (fX5_match_21_L N fuM') (nI o) x2 x3 t := fun _ _ => rfl
    rw [hcL, hmL]
    unfold fX4_tradeUntilStopped_11 fX5_match_21
    rw [rda_n ho5, l1, rda_n ho6, l2, h5]
    by_cases c0 : m = 0
    · refine ⟨0, h, t, q, Q, nt, B, ?_, ?_, .inl rfl, R0, by omega, fun _ _ => rfl, fun _ => rfl, rfl, fun _ _ _ => by omega⟩
      · unfold fX4_tradeUntilStopped_133
        rw [gdb_0]
        by_cases z : (10000 : Int32) ≤ nI r
        · rw [if_pos z]
        · rw [if_neg z, if_pos (by rw [le0_n (by omega)]; exact c0)]
      · unfold fX5_match_274
        rw [if_pos (by rw [le0_n (by omega)]; exact c0), gdb_0]
    · have hoa := orderAt_eq RB hn (b := b) (i := 0) hb8 (by decide)
      rw [← List.head?_eq_getElem?, nI_0] at hoa
      have hm0 : ¬ nI m ≤ 0 := by rw [le0_n (by omega)]; exact c0
      have hr0 : ¬ nI 10000 ≤ nI r := nI_ge (by omega) (by omega)
      rw [show (10000 : Int32) = nI 10000 by decide, if_neg hr0, if_neg hm0, hoa, bnd_some, if_neg hm0, if_pos (rfl : (0 : Int32) = 0)]
      cases hh : (Q b).head? with
      | none =>
        refine ⟨0, h, t, q, Q, nt, B, ?_, ?_, .inl rfl, R0, by omega, fun _ _ => rfl, fun _ => rfl, rfl, fun s I hs => ?_⟩
        · unfold fX4_tradeUntilStopped_60
          rw [if_pos enc_none, gdb_0]
        · unfold fX5_match_274
          rw [if_pos enc_none, gdb_0]
        · have := av_stop RB hb8 hbd I (fun j hj => by rw [hh] at hj; cases hj)
          omega
      | some j =>
        have hjQ : j ∈ Q b := List.mem_of_mem_head? (by rw [hh]; rfl)
        obtain ⟨j1, j2, j3, j4, j5, j6, j7⟩ := face_j R0 ho (by rw [← hb]; exact hjQ)
        have Aj := RO.at5 hn j1
        obtain ⟨⟨a1, a2, a3⟩, -, -, -, -, ⟨-, -, jl⟩, ⟨s1, s2, s3⟩, -⟩ := RO j j1
        obtain ⟨oa1, oa2, oa3⟩ := Ao.2.1
        have hj5 : j < 512 := by omega
        have hj6 : j < 520 := by omega
        have hjm : ¬ nI j = -1 := nI_nem1 (by omega)
        rw [enc_some, if_neg hjm, allowH_eq Ao Aj, bnd_some, if_neg hjm, allowM_eq Ao Aj, bnd_some]
        by_cases ca : alw q o j = true
        · rw [if_pos ca, if_neg one_ne, if_neg one_ne, rda_n hj5, a1, rda_n ho5, oa1, rda_n hj6, a2, rda_n ho6, oa2]
          by_cases cc : q 0 j = q 0 o
          · refine ⟨1, h, t, q, Q, nt, B, ?_, ?_, .inr rfl, R0, by omega, fun _ _ => rfl, fun _ => rfl, rfl, fun s I hs => ?_⟩
            · rw [if_pos (by rw [cc]), gdb_1]
            · obtain ⟨fuM2, rfl⟩ : ∃ f, fuM' = f + 1 := ⟨fuM' - 1, by omega⟩
              rw [if_pos (by rw [cc])]
              unfold fX5_match_68
              rw [if_neg one_ne]
              show fX5_match_21 _ _ _ _ _ t = _
              unfold fX5_match_21 fX5_match_274
              rw [rda_n ho6, l2, h5, if_neg (by rw [le0_n (by omega)]; exact c0), if_neg one_ne, gdb_1]
            · have := av_stop RB hb8 hbd I (fun i hi => by rw [hh] at hi; cases hi; unfold stp; simp [cc])
              omega
          · have hcc : ¬ nI (q 0 j) = nI (q 0 o) := fun z => cc (nI_inj (by omega) (by omega) z)
            rw [if_neg hcc, if_neg hcc]
            unfold fX5_match_68
            rw [if_pos rfl, rda_n ho5, l1, rda_n hj5, s1, rda_n ho6, l2, rda_n hj6, s2, h5]
            obtain ⟨a, ha⟩ : ∃ a, a = if q 6 j < m then q 6 j else m := ⟨_, rfl⟩
            have ha1 : 1 ≤ a ∧ a ≤ m ∧ a ≤ q 6 j := by rw [ha]; split <;> omega
            have hA : (if nI (q 6 j) < nI m then nI (q 6 j) else nI m) = nI a := by
              rw [ha]
              by_cases z : q 6 j < m
              · rw [if_pos z, if_pos (nI_lt z (by omega))]
              · rw [if_neg z, if_neg (nI_nlt (by omega) (by omega))]
            obtain ⟨hm, h2, t2, x5, x6, x7, x8, Q2, nt2, e1, e2, e3, R2, e5, e6, e7⟩ := trade_step N hN R0 ho (by rw [← hb]; exact hjQ) cc ha1.1 (by omega) ha1.2.2 (by omega)
            have hns : stp q o j = false := by unfold stp; simp [ca, cc]
            have hib : inBook q b j = true := ((RB b hb8).2.2.1.2 j).mp hjQ |>.2
            have eb : 2 * tq q o j (q 5 o - a) x5 x6 x7 x8 1 o + (1 - tq q o j (q 5 o - a) x5 x6 x7 x8 2 o) = b := by rw [tq_o (by decide), tq_o (by decide), hb]
            have ed : 1 - tq q o j (q 5 o - a) x5 x6 x7 x8 2 o = d := by rw [tq_o (by decide), hd]
            have ef : 2 * tq q o j (q 5 o - a) x5 x6 x7 x8 1 o + d = b := by rw [tq_o (by decide), hb, hd]
            obtain ⟨c, h', t', q', Q', nt', B', k1, k2, k3, k4, k5, k6, k7, k8, k9⟩ := ih (m - a) (by omega) h2 t2 _ Q2 nt2 (B + a) (r + 1) fuC' fuM' (by rw [tq_o5, h5]) R2 (by omega) (by omega) (by omega) (by omega)
            rw [ed, ef] at k9
            rw [eb] at k1 k2
            refine ⟨c, h', t', q', Q', nt', B', ?_, ?_, k3, k4, by omega, fun f hf => by rw [k6 f hf, tq_o hf], fun k => by rw [k7 k, tq_f (by decide) (by decide) (by decide) (by decide)], by rw [k8, e5], fun s I hs => ?_⟩
            · rw [hA, e1, bnd_some, e2, bnd_some, nI_1]
              exact k1
            · have e4 : fX5_match_103 N (fX5_match_21_L N fuM') (nI o) 0 (nI j) (nI a) t = some (c, t') := by
                rw [e3, m252_eq R2 ho N hN, eb]
                exact k2
              by_cases z : q 6 j ≤ m
              · rw [if_pos (nI_le z (by omega)), rda_n hj6, s2, show nI (q 6 j) = nI a by rw [ha]; congr 1; split <;> omega]
                exact e4
              · rw [if_neg (nI_ge (by omega) (by omega)), rda_n ho6, l2, h5, show nI m = nI a by rw [ha]; congr 1; split <;> omega]
                exact e4
            · have hsf : ∀ s', s = some s' → s' ≠ j ∧ s' ≠ o ∧ qlt q d j s' = true ∧ q 8 s' < nt := fun s' hs' => by
                obtain ⟨i1, i2, i3, i4⟩ := I.2 s' hs'
                have w1 : s' ≠ j := fun z => by subst z; rw [hns] at i3; cases i3
                refine ⟨w1, (fun z => by subst z; rw [inBook_o o7] at i2; cases i2), ?_, ?_⟩
                · have hsQ := ((RB b hb8).2.2.1.2 s').mpr ⟨i1, i2⟩
                  have r4 := (RB b hb8).2.2.2
                  rw [hbd] at r4
                  cases hL : Q b with
                  | nil => rw [hL] at hsQ; cases hsQ
                  | cons j' R' =>
                    rw [hL] at hh hsQ r4
                    cases hh
                    rcases List.mem_cons.mp hsQ with e | e
                    · exact absurd e w1
                    · exact (List.pairwise_cons.mp r4).1 s' e
                · obtain ⟨-, -, -, -, -, -, -, -, -, -, -, w11, -⟩ := RO s' i1
                  exact (w11 (inBook_7 i2)).2.1
              have hav := av_step (y5 := q 5 o - a) (x5 := x5) (x6 := x6) (x7 := x7) (x8 := x8) (nt := nt) j1 j2 o7 hib ha1.2.2 j7 e6 e7 hsf
              exact k9 s (InvS_tq j2 o7 hns hib I) (by omega)
        · refine ⟨0, h, t, q, Q, nt, B, ?_, ?_, .inl rfl, R0, by omega, fun _ _ => rfl, fun _ => rfl, rfl, fun s I hs => ?_⟩
          · unfold fX4_tradeUntilStopped_60
            rw [if_neg ca, if_pos rfl, gdb_0]
          · unfold fX5_match_274
            rw [if_neg ca, if_pos rfl, gdb_0]
          · have := av_stop RB hb8 hbd I (fun i hi => by rw [hh] at hi; cases hi; unfold stp; simp [ca])
            omega
end Match
