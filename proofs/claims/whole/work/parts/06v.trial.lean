/-! ===== whether one would trade wholly: the reference's trial ===== -/
def Try (q : Nat → Nat → Nat) (o b n : Nat) (tt : SH) (v : Nat → Nat → Nat) (u : Nat) : Prop :=
  (∀ f k, f = 0 ∨ f = 1 ∨ f = 2 ∨ f = 3 ∨ f = 4 ∨ f = 9 → v f k = q f k) ∧ v 7 o = 3 ∧
  (∀ k, k < n → inBook q b k = true → gA tt 20 k = nI (v 5 k) ∧ v 5 k ≤ 10000 ∧ (v 7 k = 0 ↔ 0 < v 5 k) ∧ (0 < v 5 k → gA tt 21 k = nI (v 6 k) ∧ gA tt 22 k = nI (v 8 k) ∧ 1 ≤ v 6 k ∧ v 6 k ≤ v 5 k ∧ (q 3 k ≠ 4 → v 6 k = v 5 k) ∧ v 8 k < u)) ∧
  ∀ k, k < n → inBook q b k = false → inBook v b k = false
section Trial
variable {h h' h1 h2 t t' t1 t2 tt : SH} {q q' v : Nat → Nat → Nat} {Q Q' : Nat → List Nat} {n nt nt' B B' o o' k j a b d u y5 x5 x6 x7 x8 : Nat} {s : Option Nat}
theorem qlt_tr {d i j k : Nat} (h1 : qlt q d i j = true) (h2 : qlt q d j k = true) : qlt q d i k = true := by
  unfold qlt qbet at *
  by_cases c : d = 0 <;> simp [c] at h1 h2 ⊢ <;> omega
theorem bst_min {p : Nat → Bool} {lt : Nat → Nat → Bool} (irr : ∀ x, lt x x = false) (tr : ∀ x y z, lt x y = true → lt y z = true → lt x z = true) : ∀ {n : Nat}, match bst p lt n with
    | none => ∀ k, k < n → p k = false
    | some b => b < n ∧ p b = true ∧ ∀ k, k < n → p k = true → lt k b = false
  | 0 => fun k hk => by omega
  | n + 1 => by
    have ih := bst_min (p := p) (lt := lt) irr tr (n := n)
    unfold bst
    cases hb : bst p lt n with
    | none =>
      rw [hb] at ih
      simp only at ih ⊢
      by_cases c : p n = true
      · rw [if_pos c]
        refine ⟨by omega, c, fun k hk hp => ?_⟩
        by_cases e : k = n
        · subst e; exact irr _
        · rw [ih k (by omega)] at hp; cases hp
      · rw [if_neg c]
        intro k hk
        by_cases e : k = n
        · subst e; simpa using c
        · exact ih k (by omega)
    | some b =>
      rw [hb] at ih
      simp only at ih ⊢
      obtain ⟨i1, i2, i3⟩ := ih
      by_cases c : p n = true ∧ lt n b = true
      · rw [if_pos c]
        refine ⟨by omega, c.1, fun k hk hp => ?_⟩
        by_cases e : k = n
        · subst e; exact irr _
        · cases hz : lt k n with
          | false => rfl
          | true =>
            have := tr _ _ _ hz c.2
            rw [i3 k (by omega) hp] at this
            cases this
      · rw [if_neg c]
        refine ⟨by omega, i2, fun k hk hp => ?_⟩
        by_cases e : k = n
        · subst e
          cases hz : lt k b with
          | false => rfl
          | true => exact absurd ⟨hp, hz⟩ c
        · exact i3 k (by omega) hp
theorem pw_or {r : Nat → Nat → Prop} : ∀ {L : List Nat} {x y : Nat}, L.Pairwise r → x ∈ L → y ∈ L → x ≠ y → r x y ∨ r y x
  | [], x, y, _, hx, _, _ => by cases hx
  | a :: L, x, y, hp, hx, hy, hne => by
    obtain ⟨h1, h2⟩ := List.pairwise_cons.mp hp
    rcases List.mem_cons.mp hx with e | e
    · subst e
      rcases List.mem_cons.mp hy with e2 | e2
      · exact absurd e2.symm hne
      · exact .inl (h1 y e2)
    · rcases List.mem_cons.mp hy with e2 | e2
      · subst e2; exact .inr (h1 x e)
      · exact pw_or h2 e e2 hne
theorem try_in (T : Try q o b n tt v u) (hk : k < n) : inBook v b k = (inBook q b k && decide (0 < v 5 k)) := by
  obtain ⟨T1, T2, T3, T4⟩ := T
  cases hz : inBook q b k with
  | false => rw [T4 k hk hz]; rfl
  | true =>
    obtain ⟨-, -, w, -⟩ := T3 k hk hz
    have hb : 2 * q 1 k + q 2 k = b := by unfold inBook at hz; simp at hz; exact hz.2
    unfold inBook
    rw [T1 1 k (by simp), T1 2 k (by simp)]
    by_cases c : 0 < v 5 k
    · simp [w.mpr c, hb, c]
    · have : ¬ v 7 k = 0 := fun z => c (w.mp z)
      simp [this, c]
theorem trial_in (RO : RelO h t q n nt o) (hn : n ≤ 64) (g2 : gi t 2 = nI n) (ho : o < n) (hb : b = 2 * q 1 o + (1 - q 2 o)) (hd : d = 1 - q 2 o) (T : Try q o b n tt v u) (hu : u < 2 ^ 31) (S : Sm t tt [20, 21, 22] [] []) (N : Nat) (k64 : Int32 → Int32 → Int32 → SH → Option (Int32 × SH)) (x2 x3 : Int32) : ∀ (fu k : Nat), k ≤ n → n - k < fu →
    fX5_wouldTrade_74_L N k64 fu (nI o) x2 x3 (enc (bst (inBook v b) (qlt v d) k)) (nI k) tt = fX5_wouldTrade_74 N k64 (fX5_wouldTrade_74_L N k64 0) (nI o) x2 x3 (enc (bst (inBook v b) (qlt v d) n)) (nI n) tt := by
  have RO' : RelO h tt q n nt o := RO.t_ S (by decide)
  have Ao := RO'.at5 hn ho
  obtain ⟨-, -, ⟨-, ob, ob'⟩, ⟨-, oc, oc'⟩, -⟩ := Ao
  have ho6 : o < 520 := by omega
  have g2' : gi tt 2 = nI n := by rw [S.2.1 _ (by decide)]; exact g2
  intro fu
  induction fu with
  | zero => intro k _ hf; omega
  | succ fu ih =>
    intro k hk hf
    show fX5_wouldTrade_74 N k64 (fX5_wouldTrade_74_L N k64 fu) _ _ _ _ _ tt = _
    by_cases c : n ≤ k
    · have : k = n := by omega
      subst this
      unfold fX5_wouldTrade_74
      rw [rdi_n, g2', if_pos (nI_le (Nat.le_refl _) (by omega)), rdi_n, g2', if_pos (nI_le (Nat.le_refl _) (by omega))]
    · have hk' : k < n := by omega
      have hk6 : k < 520 := by omega
      rw [← ih (k + 1) (by omega) (by omega)]
      obtain ⟨-, -, ⟨-, c2, c3⟩, -, ⟨-, p2, p3, p4⟩, -⟩ := RO' k hk'
      have hin := try_in T hk'
      have no : inBook v b k = false → fX5_wouldTrade_120 N k64 (fX5_wouldTrade_74_L N k64 fu) (nI o) x2 x3 (enc (bst (inBook v b) (qlt v d) k)) (nI k) tt = fX5_wouldTrade_74_L N k64 fu (nI o) x2 x3 (enc (bst (inBook v b) (qlt v d) (k + 1))) (nI (k + 1)) tt := fun hp => by
        have e2 : bst (inBook v b) (qlt v d) (k + 1) = bst (inBook v b) (qlt v d) k := by
          show (match bst (inBook v b) (qlt v d) k with | none => _ | some b => _) = _
          cases hb : bst (inBook v b) (qlt v d) k with
          | none => simp [hp]
          | some b => simp [hp]
        rw [e2]
        unfold fX5_wouldTrade_120 fX5_wouldTrade_121 fX5_wouldTrade_199
        rw [if_pos rfl, nI_1]
      have hu0 : fX5_wouldTrade_74 N k64 (fX5_wouldTrade_74_L N k64 fu) (nI o) x2 x3 (enc (bst (inBook v b) (qlt v d) k)) (nI k) tt = (if (if inBook q b k = true then (1 : Int32) else 0) = 0 then fX5_wouldTrade_120 N k64 (fX5_wouldTrade_74_L N k64 fu) (nI o) x2 x3 (enc (bst (inBook v b) (qlt v d) k)) (nI k) tt else rda tt 20 520 (nI k) fun v12 => if v12 ≤ 0 then fX5_wouldTrade_120 N k64 (fX5_wouldTrade_74_L N k64 fu) (nI o) x2 x3 (enc (bst (inBook v b) (qlt v d) k)) (nI k) tt else fX5_wouldTrade_121 N k64 (fX5_wouldTrade_74_L N k64 fu) (nI o) x2 x3 (enc (bst (inBook v b) (qlt v d) k)) (nI k) 1 tt) := by
        have hkn : ¬ nI n ≤ nI k := nI_ge (by omega) (by omega)
        unfold fX5_wouldTrade_74
        rw [rdi_n, g2', if_neg hkn, rda_n ho6, ob, rda_n ho6, oc, one_sub oc', rests_eq RO' hn hk' ob' (show 1 - q 2 o < 2 by omega), bnd_some, ← hb]
      rw [hu0]
      by_cases c1 : inBook q b k = true
      · obtain ⟨w1, w2, w3, w4⟩ := T.2.2.1 k hk' c1
        rw [if_pos c1, if_neg one_ne, rda_n hk6, w1]
        by_cases c4 : v 5 k = 0
        · rw [if_pos (by rw [le0_n (by omega)]; exact c4)]
          exact no (by rw [hin, c4]; simp)
        · rw [if_neg (by rw [le0_n (by omega)]; exact c4)]
          have hp : inBook v b k = true := by rw [hin, c1]; simp; omega
          obtain ⟨y1, y2, -, -, -, y8⟩ := w4 (by omega)
          have hdk : q 2 k = d := by unfold inBook at c1; simp at c1; omega
          have v4 : ∀ i, v 4 i = q 4 i := fun i => T.1 4 i (by simp)
          unfold fX5_wouldTrade_121 fX5_wouldTrade_195 fX5_wouldTrade_199
          rw [if_neg one_ne, nI_1]
          cases hbs : bst (inBook v b) (qlt v d) k with
          | none =>
            have e2 : bst (inBook v b) (qlt v d) (k + 1) = some k := by unfold bst; rw [hbs]; simp [hp]
            rw [e2, if_pos enc_none]
            rfl
          | some m =>
            have hm := bst_in hbs
            have hm6 : m < 520 := by omega
            have hmn : m < n := by omega
            have hmb : inBook q b m = true ∧ 0 < v 5 m := by
              have := hm.2
              rw [try_in T hmn] at this
              simpa using this
            obtain ⟨-, -, -, -, ⟨-, u2, u3, u4⟩, -⟩ := RO' m hmn
            obtain ⟨-, -, -, z4⟩ := T.2.2.1 m hmn hmb.1
            obtain ⟨-, z2, -, -, -, z8⟩ := z4 hmb.2
            have hmm : ¬ nI m = -1 := nI_nem1 (by omega)
            rw [enc_some, if_neg hmm, rda_n hk6, c2, rda_n hk6, p2, rda_n hm6, u2, better_eq c3 (by omega) (by omega), bnd_some, hdk]
            by_cases c5 : betN d (q 4 k) (q 4 m) = true
            · have e2 : bst (inBook v b) (qlt v d) (k + 1) = some k := by
                unfold bst
                rw [hbs]
                simp only
                rw [if_pos ⟨hp, by unfold qlt; rw [qbet_N, v4, v4, c5]; rfl⟩]
              rw [e2, if_pos c5, if_neg one_ne]
              rfl
            · have c5' : betN d (q 4 k) (q 4 m) = false := by simpa using c5
              rw [if_neg c5, if_pos rfl, rda_n hk6, p2, rda_n hm6, u2]
              by_cases c6 : q 4 k = q 4 m
              · rw [if_pos (by rw [c6]), rda_n hk6, y2, rda_n hm6, z2]
                by_cases c7 : v 8 m ≤ v 8 k
                · have e2 : bst (inBook v b) (qlt v d) (k + 1) = some m := by
                    unfold bst
                    rw [hbs]
                    simp only
                    rw [if_neg]
                    rintro ⟨-, z⟩
                    unfold qlt at z
                    rw [qbet_N, v4, v4, c5'] at z
                    simp at z
                    omega
                  rw [e2, if_pos (nI_le c7 (by omega))]
                  rfl
                · have e2 : bst (inBook v b) (qlt v d) (k + 1) = some k := by
                    unfold bst
                    rw [hbs]
                    simp only
                    rw [if_pos ⟨hp, by unfold qlt; rw [qbet_N, v4, v4, c5']; simp [c6]; omega⟩]
                  rw [e2, if_neg (nI_ge (by omega) (by omega))]
                  rfl
              · have e2 : bst (inBook v b) (qlt v d) (k + 1) = some m := by
                  unfold bst
                  rw [hbs]
                  simp only
                  rw [if_neg]
                  rintro ⟨-, z⟩
                  unfold qlt at z
                  rw [qbet_N, v4, v4, c5'] at z
                  simp at z
                  exact c6 z.1
                rw [e2, if_neg (fun z => c6 (nI_inj (by omega) (by omega) z))]
                rfl
      · rw [if_neg c1, if_pos rfl]
        exact no (by rw [hin]; simp [c1])
end Trial
