/-! ===== whether one would trade wholly: the class's sum ===== -/
def wt (q : Nat → Nat → Nat) (o : Nat) : List Nat → Nat → Nat → Nat → Nat → Nat
  | [], bl, ll, ls, lp => bl + ll
  | k :: L, bl, ll, ls, lp => if alw q o k = true then (if q 4 k = lp then (if q 0 k = q 0 o then bl + ls else wt q o L bl (ll + q 5 k) (ls + q 6 k) lp) else (if q 0 k = q 0 o then bl + ll + 0 else wt q o L (bl + ll) (0 + q 5 k) (0 + q 6 k) (q 4 k))) else bl + ll
section Wholly
variable {h h' h1 h2 t t' t1 t2 : SH} {q q' : Nat → Nat → Nat} {Q Q' : Nat → List Nat} {n nt nt' B B' o o' k j a b d y5 x5 x6 x7 x8 : Nat} {s : Option Nat}
theorem wt_c {L : List Nat} {bl ll ls lp : Nat} : wt q o (k :: L) bl ll ls lp = if alw q o k = true then (if q 4 k = lp then (if q 0 k = q 0 o then bl + ls else wt q o L bl (ll + q 5 k) (ls + q 6 k) lp) else (if q 0 k = q 0 o then bl + ll + 0 else wt q o L (bl + ll) (0 + q 5 k) (0 + q 6 k) (q 4 k))) else bl + ll := rfl
theorem wholly_end {x y : Nat} (hx : x < 2 ^ 31) (hy : y < 2 ^ 31) (N : Nat) : (if nI x < nI y then fX4_wouldTradeWholly_210 N 0 h else fX4_wouldTradeWholly_210 N 1 h) = some ((if y ≤ x then 1 else 0), h) := by
  unfold fX4_wouldTradeWholly_210
  by_cases c : y ≤ x
  · rw [if_neg (nI_nlt c hx), if_pos c, gdb_1]
  · rw [if_pos (nI_lt (by omega) hy), if_neg c, gdb_0]
theorem wholly_loop (R : Rel h t q Q n nt B o) (ho : o < n) (hb : b = 2 * q 1 o + (1 - q 2 o)) (N : Nat) : ∀ (fu i bl ll ls lp : Nat), i ≤ (Q b).length → (Q b).length - i < fu → bl + ll ≤ 10000 * i → bl + ls ≤ 10000 * i → lp ≤ 10000 →
    fX4_wouldTradeWholly_23_L N fu (nI o) (nI b) (nI bl) (nI ll) (nI ls) (nI lp) (nI i) h = some ((if q 5 o ≤ wt q o ((Q b).drop i) bl ll ls lp then 1 else 0), h) := by
  have R0 := R
  obtain ⟨⟨hn, hB0, g1, g2, g3, g4, -⟩, RC, RH, RP, RO, RB, RT⟩ := R
  have Ao := RO.at5 hn ho
  obtain ⟨-, -, -, -, -, ⟨l1, l2, l3⟩, -⟩ := RO o ho
  have ob' := Ao.2.2.1.2.2
  have ho5 : o < 512 := by omega
  have hb8 : b < 8 := by omega
  have hl := book_len RB hn hb8
  intro fu
  induction fu with
  | zero => intro i bl ll ls lp _ hf; omega
  | succ fu ih =>
    intro i bl ll ls lp hi hf b1 b2 b3
    show fX4_wouldTradeWholly_23 N (fX4_wouldTradeWholly_23_L N fu) _ _ _ _ _ _ _ h = _
    unfold fX4_wouldTradeWholly_23 fX4_wouldTradeWholly_189 fX4_wouldTradeWholly_109
    rw [rda_n hb8, (RB b hb8).1, rda_n ho5, l1, nI_add]
    by_cases c : (Q b).length ≤ i
    · rw [if_pos (nI_le c (by omega)), wholly_end (by omega) (by omega), List.drop_eq_nil_of_le c]
      rfl
    · have hc : ¬ nI (Q b).length ≤ nI i := nI_ge (by omega) (by omega)
      have hdr : (Q b).drop i = (Q b)[i]'(by omega) :: (Q b).drop (i + 1) := List.drop_eq_getElem_cons (by omega)
      obtain ⟨k, hk⟩ : ∃ k, k = (Q b)[i]'(by omega) := ⟨_, rfl⟩
      have hkQ : k ∈ Q b := by rw [hk]; exact List.getElem_mem _
      rw [← hk] at hdr
      obtain ⟨k1, k2, k3, k4, k5, k6, k7⟩ := face_j R0 ho (by rw [← hb]; exact hkQ)
      have Ak := RO.at5 hn k1
      obtain ⟨⟨a1, -, a3⟩, -, -, -, ⟨p1, -, p3, p4⟩, ⟨m1, -, m3⟩, ⟨s1, -, s3⟩, -⟩ := RO k k1
      have hk5 : k < 512 := by omega
      have hkm : ¬ nI k = -1 := nI_nem1 (by omega)
      rw [if_neg hc, orderAt_eq RB hn hb8 (by omega), bnd_some, List.getElem?_eq_getElem (by omega), ← hk, enc_some, if_neg hkm, allowH_eq Ao Ak, bnd_some, hdr, wt_c]
      by_cases ca : alw q o k = true
      · rw [if_pos ca, if_neg one_ne, if_pos ca, rda_n hk5, p1]
        by_cases cp : q 4 k = lp
        · rw [if_pos (by rw [cp]), if_pos cp, rda_n hk5, a1, rda_n ho5, Ao.2.1.1]
          by_cases cc : q 0 k = q 0 o
          · rw [if_pos (by rw [cc]), if_pos cc, rda_n ho5, l1, nI_add]
            unfold fX4_wouldTradeWholly_152
            by_cases z : q 5 o ≤ bl + ls
            · rw [if_neg (nI_nlt z (by omega)), if_pos z, gdb_1]
            · rw [if_pos (nI_lt (by omega) (by omega)), if_neg z, gdb_0]
          · have hcc : ¬ nI (q 0 k) = nI (q 0 o) := fun z => cc (nI_inj (by omega) (by have := Ao.2.1.2.2; omega) z)
            rw [if_neg hcc, if_neg cc, rda_n hk5, m1, rda_n hk5, s1, nI_add, nI_add, nI_1]
            exact ih (i + 1) bl (ll + q 5 k) (ls + q 6 k) lp (by omega) (by omega) (by omega) (by omega) b3
        · have hcp : ¬ nI (q 4 k) = nI lp := fun z => cp (nI_inj (by omega) (by omega) z)
          rw [if_neg hcp, if_neg cp, rda_n hk5, p1, rda_n hk5, a1, rda_n ho5, Ao.2.1.1]
          by_cases cc : q 0 k = q 0 o
          · rw [if_pos (by rw [cc]), if_pos cc, rda_n ho5, l1, show (0 : Int32) = nI 0 by decide, nI_add]
            unfold fX4_wouldTradeWholly_152
            by_cases z : q 5 o ≤ bl + ll + 0
            · rw [if_neg (nI_nlt z (by omega)), if_pos z, gdb_1]
            · rw [if_pos (nI_lt (by omega) (by omega)), if_neg z, ← show (0 : Int32) = nI 0 by decide, gdb_0]
          · have hcc : ¬ nI (q 0 k) = nI (q 0 o) := fun z => cc (nI_inj (by omega) (by have := Ao.2.1.2.2; omega) z)
            have e := ih (i + 1) (bl + ll) (0 + q 5 k) (0 + q 6 k) (q 4 k) (by omega) (by omega) (by omega) (by omega) p4
            rw [if_neg hcc, if_neg cc, rda_n hk5, m1, rda_n hk5, s1, nI_1, ← e]
            congr 1
            · rw [show (0 : Int32) = nI 0 by decide, nI_add]
            · rw [show (0 : Int32) = nI 0 by decide, nI_add]
      · rw [if_neg ca, if_pos rfl, if_neg ca, rda_n ho5, l1, wholly_end (by omega) (by omega)]
theorem fs_first {r : Nat → Nat → Prop} {p : Nat → Bool} {x : Nat} : ∀ {L : List Nat}, L.Pairwise r → L.find? p = some x → ∀ k, k ∈ L → p k = true → k = x ∨ r x k
  | [], _, h, _, _, _ => by cases h
  | a :: L, hp, h, k, hk, pk => by
    obtain ⟨h1, h2⟩ := List.pairwise_cons.mp hp
    by_cases c : p a = true
    · rw [List.find?_cons_of_pos c] at h
      cases h
      rcases List.mem_cons.mp hk with e | e
      · exact .inl e
      · exact .inr (h1 k e)
    · rw [List.find?_cons_of_neg c] at h
      rcases List.mem_cons.mp hk with e | e
      · subst e; exact absurd pk c
      · exact fs_first h2 h k e pk
theorem InvS_fs (RB : RelB h q Q n) (hb : b < 8) (hd : b % 2 = d) : InvS q o b d n ((Q b).find? (stp q o)) := by
  obtain ⟨-, -, r3, r4⟩ := RB b hb
  rw [hd] at r4
  refine ⟨fun z k hk hk2 => ?_, fun s' hs' => ?_⟩
  · have := List.find?_eq_none.mp z k ((r3.2 k).mpr ⟨hk, hk2⟩)
    simpa using this
  · have hm := List.mem_of_find?_eq_some hs'
    have hp := List.find?_some hs'
    have h1 := (r3.2 s').mp hm
    exact ⟨h1.1, h1.2, hp, fun k hk hk2 hk3 => fs_first r4 hs' k ((r3.2 k).mpr ⟨hk, hk2⟩) hk3⟩
theorem sum_zero {f : Nat → Nat} : ∀ {L : List Nat}, (∀ k, k ∈ L → f k = 0) → (L.map f).sum = 0
  | [], _ => rfl
  | a :: L, h => by rw [List.map_cons, List.sum_cons, h a List.mem_cons_self, sum_zero (fun k hk => h k (List.mem_cons_of_mem _ hk))]
theorem qlt_price {d i j : Nat} (e : qlt q d i j = true) : q 4 i = q 4 j ∨ betN d (q 4 i) (q 4 j) = true := by
  unfold qlt at e
  rw [qbet_N] at e
  simp only [Bool.or_eq_true, Bool.and_eq_true, decide_eq_true_eq] at e
  rcases e with e | e
  · exact .inr e
  · exact .inl e.1
theorem trm_some {x : Nat} (e : qlt q d k x = true) : trm q d (some x) k = if q 4 x = q 4 k then q 6 k else q 5 k := by
  unfold qlt at e
  rw [qbet_N] at e
  unfold trm
  simp only
  by_cases c : betN d (q 4 k) (q 4 x) = true
  · rw [if_pos c, if_neg]
    intro z
    rw [z, betN_irr] at c
    cases c
  · rw [if_neg c]
    simp only [Bool.or_eq_true, Bool.and_eq_true, decide_eq_true_eq, c, Bool.false_eq_true, false_or] at e
    rw [if_pos e, if_pos e.1.symm]
theorem wt_av : ∀ {L : List Nat} {bl ll ls lp : Nat}, L.Pairwise (fun i j => qlt q d i j = true) → (∀ k, k ∈ L → 1 ≤ q 4 k) → (lp = 0 ∨ ((∀ k, k ∈ L → lp = q 4 k ∨ betN d lp (q 4 k) = true) ∧ (if q 2 o = 0 then lp ≤ q 4 o else q 4 o ≤ lp))) →
    wt q o L bl ll ls lp = (match L.find? (stp q o) with | none => bl + ll | some x => if q 4 x = lp then bl + ls else bl + ll) + (L.map (trm q d (L.find? (stp q o)))).sum
  | [], bl, ll, ls, lp, _, _, _ => rfl
  | k :: L, bl, ll, ls, lp, hp, h1, hlp => by
    obtain ⟨p1, p2⟩ := List.pairwise_cons.mp hp
    have hk1 := h1 k List.mem_cons_self
    rw [wt_c]
    by_cases cs : stp q o k = true
    · rw [List.find?_cons_of_pos cs]
      have hz : ((k :: L).map (trm q d (some k))).sum = 0 := sum_zero (fun x hx => by
        apply trm_0
        rcases List.mem_cons.mp hx with e | e
        · subst e; exact qlt_irr
        · exact qlt_asym (p1 x e))
      rw [hz]
      show _ = (if q 4 k = lp then bl + ls else bl + ll) + 0
      by_cases ca : alw q o k = true
      · have cc : q 0 k = q 0 o := by unfold stp at cs; simp [ca] at cs; exact cs
        rw [if_pos ca]
        by_cases cp : q 4 k = lp
        · rw [if_pos cp, if_pos cp, if_pos cc, Nat.add_zero]
        · rw [if_neg cp, if_neg cp, if_pos cc]
      · rw [if_neg ca, if_neg, Nat.add_zero]
        intro z
        rcases hlp with e | ⟨-, e⟩
        · omega
        · apply ca
          unfold alw
          rw [← z] at e
          by_cases c2 : q 2 o = 0
          · rw [if_pos c2] at e ⊢; simpa using e
          · rw [if_neg c2] at e ⊢; simpa using e
    · have ca : alw q o k = true := by
        unfold stp at cs
        cases hz : alw q o k with
        | true => rfl
        | false => rw [hz] at cs; simp at cs
      have cc : ¬ q 0 k = q 0 o := by intro z; apply cs; unfold stp; simp [z]
      rw [List.find?_cons_of_neg cs, if_pos ca]
      have hlp2 : (∀ x, x ∈ L → q 4 k = q 4 x ∨ betN d (q 4 k) (q 4 x) = true) ∧ (if q 2 o = 0 then q 4 k ≤ q 4 o else q 4 o ≤ q 4 k) := by
        refine ⟨fun x hx => qlt_price (p1 x hx), ?_⟩
        unfold alw at ca
        by_cases c2 : q 2 o = 0
        · rw [if_pos c2] at ca ⊢; simpa using ca
        · rw [if_neg c2] at ca ⊢; simpa using ca
      rw [List.map_cons, List.sum_cons]
      by_cases cp : q 4 k = lp
      · rw [if_pos cp, if_neg cc, wt_av p2 (fun x hx => h1 x (List.mem_cons_of_mem _ hx)) (.inr (by rw [← cp]; exact hlp2))]
        cases hf : L.find? (stp q o) with
        | none =>
          show bl + (ll + q 5 k) + _ = bl + ll + (q 5 k + _)
          omega
        | some x =>
          have hx := p1 x (List.mem_of_find?_eq_some hf)
          rw [trm_some hx]
          show (if q 4 x = lp then bl + (ls + q 6 k) else bl + (ll + q 5 k)) + _ = (if q 4 x = lp then bl + ls else bl + ll) + ((if q 4 x = q 4 k then q 6 k else q 5 k) + _)
          rw [cp]
          by_cases c3 : q 4 x = lp
          · rw [if_pos c3, if_pos c3, if_pos c3]; omega
          · rw [if_neg c3, if_neg c3, if_neg c3]; omega
      · rw [if_neg cp, if_neg cc, wt_av p2 (fun x hx => h1 x (List.mem_cons_of_mem _ hx)) (.inr hlp2)]
        cases hf : L.find? (stp q o) with
        | none =>
          show bl + ll + (0 + q 5 k) + _ = bl + ll + (q 5 k + _)
          omega
        | some x =>
          have hxL := List.mem_of_find?_eq_some hf
          have hx := p1 x hxL
          have c4 : ¬ q 4 x = lp := by
            intro z
            rcases hlp with e | ⟨e, -⟩
            · have := h1 x (List.mem_cons_of_mem _ hxL); omega
            · have e1 : betN d lp (q 4 k) = true := by
                rcases e k List.mem_cons_self with e | e
                · exact absurd e.symm cp
                · exact e
              rcases qlt_price hx with e2 | e2
              · rw [e2, z, betN_irr] at e1; cases e1
              · have e3 := betN_tr e1 e2
                rw [z, betN_irr] at e3
                cases e3
          rw [trm_some hx]
          show (if q 4 x = q 4 k then bl + ll + (0 + q 6 k) else bl + ll + (0 + q 5 k)) + _ = (if q 4 x = lp then bl + ls else bl + ll) + ((if q 4 x = q 4 k then q 6 k else q 5 k) + _)
          rw [if_neg c4]
          by_cases c3 : q 4 x = q 4 k
          · rw [if_pos c3, if_pos c3]; omega
          · rw [if_neg c3, if_neg c3]; omega
theorem wholly_eq (R : Rel h t q Q n nt B o) (ho : o < n) (N : Nat) (hN : 20000 ≤ N) : fX4_wouldTradeWholly N (nI o) h = some ((if q 5 o ≤ av q (1 - q 2 o) ((Q (2 * q 1 o + (1 - q 2 o))).find? (stp q o)) (2 * q 1 o + (1 - q 2 o)) n then 1 else 0), h) := by
  obtain ⟨b, hb⟩ : ∃ b, b = 2 * q 1 o + (1 - q 2 o) := ⟨_, rfl⟩
  have hn := R.1.1
  have RB := R.2.2.2.2.2.1
  have Ao := R.2.2.2.2.1.at5 hn ho
  have ob' := Ao.2.2.1.2.2
  have oc' := Ao.2.2.2.1.2.2
  have hb8 : b < 8 := by omega
  have hbd : b % 2 = 1 - q 2 o := by omega
  have hl := book_len RB hn hb8
  have e := wholly_loop R ho hb N N 0 0 0 0 0 (by omega) (by omega) (by omega) (by omega) (by omega)
  have r4 := (RB b hb8).2.2.2
  rw [hbd] at r4
  rw [List.drop_zero, wt_av (d := 1 - q 2 o) r4 (fun k hk => by
    obtain ⟨-, -, -, -, ⟨-, -, p3, -⟩, -⟩ := R.2.2.2.2.1 k (RB.mem hb8 hk).1
    exact p3) (.inl rfl)] at e
  have hz : (match (Q b).find? (stp q o) with | none => 0 + 0 | some x => if q 4 x = 0 then 0 + 0 else 0 + 0) = 0 := by
    cases (Q b).find? (stp q o) with
    | none => rfl
    | some x => simp
  rw [hz, Nat.zero_add] at e
  unfold fX4_wouldTradeWholly
  rw [facing_eq Ao, bnd_some, ← hb]
  unfold av
  rw [smm_list (RB b hb8).2.2.1]
  exact e
end Wholly
