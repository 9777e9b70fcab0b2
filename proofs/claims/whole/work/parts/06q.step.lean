/-! ===== a trade as a whole ===== -/
def buy (q : Nat → Nat → Nat) (o j : Nat) : Nat := if q 2 o = 0 then q 0 o else q 0 j
def sel (q : Nat → Nat → Nat) (o j : Nat) : Nat := if q 2 o = 0 then q 0 j else q 0 o
def twH (q : Nat → Nat → Nat) (h : SH) (o j a : Nat) : SH := hoH (hldH q (hldH q h o (-nI a)) j (-nI a)) (buy q o j) (sel q o j) (q 1 o) ((nI (q 4 j)).toInt64 * (nI a).toInt64) (nI a)
def twM (q : Nat → Nat → Nat) (t : SH) (o j a : Nat) : SH := hoM (hldM q (hldM q t o (nI a)) j (nI a)) (buy q o j) (sel q o j) (q 1 o) ((nI (q 4 j)).toInt64 * (nI a).toInt64) (nI a)
def trH (q : Nat → Nat → Nat) (h : SH) (o j a T m g : Nat) : SH := noH (fiH (fiH (twH q h o j a) o (nI a)) j (nI a)) T o j (q 4 j) a (q 1 o) m g
def trM (q : Nat → Nat → Nat) (t : SH) (o j a T m g : Nat) : SH := noM (twM q t o j a) T o j (q 4 j) a (q 1 o) m g
def t5 (t : SH) (o j : Nat) (x : Int32) : SH := pA (mA (mA (pA (mA t 13 o x) 18 o x) 13 j x) 14 j x) 18 j x
def TrF (h t : SH) (q : Nat → Nat → Nat) (n nt B o j a : Nat) (h1 t1 : SH) : Prop :=
  (RelS h1 t1 n nt (B + a) ∧ RelC h1 t1 ∧ RelH h1 t1 (B + a) ∧ RelP h1 t1) ∧
  (∀ r k, 12 ≤ r → r ≤ 24 → r ≠ 18 → r ≠ 19 → r ≠ 22 → gA h1 r k = gA h r k) ∧ (∀ r k, 12 ≤ r → r ≤ 24 → k ≠ o → k ≠ j → gA h1 r k = gA h r k) ∧
  (∀ r k, 8 ≤ r → r ≤ 19 → r ≠ 13 → r ≠ 14 → r ≠ 18 → gA t1 r k = gA t r k) ∧ (∀ r k, 8 ≤ r → r ≤ 19 → k ≠ o → k ≠ j → gA t1 r k = gA t r k) ∧
  (gA h1 18 o = nI (q 5 o - a) ∧ gA h1 18 j = nI (q 5 j - a) ∧ gA h1 19 o = gA h 19 o ∧ gA h1 19 j = nI (q 6 j - a)) ∧
  (gA t1 13 o = nI (q 5 o - a) ∧ gA t1 13 j = nI (q 5 j - a) ∧ gA t1 14 o = gA t 14 o ∧ gA t1 14 j = nI (q 6 j - a)) ∧
  (gA h1 22 o = gA t1 18 o ∧ gA h1 22 j = gA t1 18 j) ∧ gi h1 3 = gi h 3 ∧ gi t1 0 = gi t 0
section Step
variable {h h' t t' : SH} {q q' : Nat → Nat → Nat} {Q Q' : Nat → List Nat} {n nt nt' B o o' k j a : Nat}
theorem Sm_twH : Sm h (twH q h o j a) [8, 8, 7, 9, 7, 10] [] [6, 6, 5, 5] := (Sm_hldH.tr Sm_hldH).tr Sm_hoH
theorem Sm_twM : Sm t (twM q t o j a) [4, 4, 3, 3, 5, 6] [] [2, 2, 1, 1] := (Sm_hldM.tr Sm_hldM).tr Sm_hoM
theorem makeTrade_eq {T l g m : Nat} (Ao : At5 h t q o) (Aj : At5 h t q j) (h1 : q 1 j = q 1 o) (hT : T < 2 ^ 30) (hm : m ≤ 10000) (hg : g ≤ 10000) (hl : l ≤ 10000) (g4 : gi h 4 = nI T) (e29 : gA h 29 (q 1 o) = nI l) (e30 : gA h 30 (q 1 o) = nI g) (e31 : gA h 31 (q 1 o) = nI m) : fX4_makeTrade (nI o) (nI j) (nI a) h = some ((), trH q h o j a T (mn l m (q 4 j)) (mx g (q 4 j))) := by
  obtain ⟨o5, ⟨oa, -, oa'⟩, ⟨ob, -, ob'⟩, ⟨oc, -, oc'⟩, -⟩ := id Ao
  obtain ⟨j5, ⟨ja, -, ja'⟩, ⟨jb, -, jb'⟩, -, ⟨jd, -, jd', jd2⟩⟩ := id Aj
  have S : ∀ r i, r ≠ 8 → r ≠ 7 → r ≠ 9 → r ≠ 10 → r ≠ 18 → r ≠ 22 → gA (fiH (fiH (twH q h o j a) o (nI a)) j (nI a)) r i = gA h r i := fun r i h1 h2 h3 h4 h5 h6 => by
    rw [Sm_fiH.1 r i (by simp [h5, h6]), Sm_fiH.1 r i (by simp [h5, h6]), Sm_twH.1 r i (by simp [h1, h2, h3, h4])]
  have hN := note_eq (h := fiH (fiH (twH q h o j a) o (nI a)) j (nI a)) (T := T) (o := o) (j := j) (p := q 4 j) (a := a) (s := q 1 o) (l := l) (g := g) (m := m) hT ob' jd2 hm hg hl (by rw [Sm_fiH.2.1 _ (by decide), Sm_fiH.2.1 _ (by decide), Sm_twH.2.1 _ (by decide)]; exact g4) (by rw [S 29 _ (by decide) (by decide) (by decide) (by decide) (by decide) (by decide)]; exact e29) (by rw [S 30 _ (by decide) (by decide) (by decide) (by decide) (by decide) (by decide)]; exact e30) (by rw [S 31 _ (by decide) (by decide) (by decide) (by decide) (by decide) (by decide)]; exact e31)
  have core : ∀ b s', b = buy q o j → s' < 64 → gA h 12 s' = nI (sel q o j) → fX4_makeTrade_78 (nI o) (nI j) (nI a) (nI (q 4 j)) (nI (q 1 o)) (nI b) (nI s') h = some ((), trH q h o j a T (mn l m (q 4 j)) (mx g (q 4 j))) := by
    intro b s' hb hs' es
    subst hb
    unfold fX4_makeTrade_78
    rw [rda_n (show s' < 512 by omega), es, hold_eq Ao, bnd_some, hold_eq (Aj.h_ Sm_hldH (by decide)), bnd_some, handOver_eq (by unfold buy; split <;> omega) (by unfold sel; split <;> omega) ob', bnd_some, fill_eq (by omega), bnd_some, fill_eq (by omega), bnd_some, show fX3_note (nI (q 1 o)) (nI o) (nI j) (nI (q 4 j)) (nI a) (fiH (fiH (hoH (hldH q (hldH q h o (-nI a)) j (-nI a)) (buy q o j) (sel q o j) (q 1 o) ((nI (q 4 j)).toInt64 * (nI a).toInt64) (nI a)) o (nI a)) j (nI a)) = _ from hN, bnd_some]
    rfl
  unfold fX4_makeTrade fX4_makeTrade_39 fX4_makeTrade_58
  rw [rda_n (show j < 512 by omega), jd, rda_n (show j < 512 by omega), jb, h1, rda_n (show o < 512 by omega), oc]
  by_cases c : q 2 o = 0
  · rw [if_pos (by rw [z_eq (by omega)]; exact c), if_neg one_ne, rda_n (show o < 512 by omega), oa, if_neg one_ne]
    exact core (q 0 o) j (by unfold buy; rw [if_pos c]) (by omega) (by unfold sel; rw [if_pos c]; exact ja)
  · rw [if_neg (by rw [z_eq (by omega)]; exact c), if_pos rfl, rda_n (show j < 512 by omega), ja, if_pos rfl]
    exact core (q 0 j) o (by unfold buy; rw [if_neg c]) (by omega) (by unfold sel; rw [if_neg c]; exact oa)
theorem exchange_eq {T l g m : Nat} (Ao : At5 h t q o) (Aj : At5 h t q j) (hT : T < 2 ^ 28) (hm : m ≤ 10000) (hg : g ≤ 10000) (hlm : l = 0 ↔ m = 0) (hlg : l = 0 ↔ g = 0) (g4 : gi t 4 = nI T) (e25 : gA t 25 (q 1 o) = nI g) (e26 : gA t 26 (q 1 o) = nI m) : fX5_exchange (nI o) (nI j) (nI a) t = some ((), trM q t o j a T (mn l m (q 4 j)) (mx g (q 4 j))) := by
  obtain ⟨o5, ⟨-, oa, oa'⟩, ⟨-, ob, ob'⟩, ⟨-, oc, oc'⟩, -⟩ := id Ao
  obtain ⟨j5, ⟨-, ja, ja'⟩, -, -, ⟨-, jd, jd', jd2⟩⟩ := id Aj
  have S : ∀ r i, r ≠ 4 → r ≠ 3 → r ≠ 5 → r ≠ 6 → gA (twM q t o j a) r i = gA t r i := fun r i h1 h2 h3 h4 => Sm_twM.1 r i (by simp [h1, h2, h3, h4])
  have hN := noM_eq (t := twM q t o j a) (T := T) (o := o) (j := j) (p := q 4 j) (a := a) (s := q 1 o) (l := l) (g := g) (m := m) hT ob' jd' jd2 hm hg hlm hlg (by rw [Sm_twM.2.1 _ (by decide)]; exact g4) (by rw [S 25 _ (by decide) (by decide) (by decide) (by decide)]; exact e25) (by rw [S 26 _ (by decide) (by decide) (by decide) (by decide)]; exact e26)
  have hg4 : gi (twM q t o j a) 4 = nI T := by rw [Sm_twM.2.1 _ (by decide)]; exact g4
  have core : ∀ b s', b = buy q o j → s' = sel q o j → fX5_exchange_66 (nI o) (nI j) (nI a) (nI (q 1 o)) (nI (q 4 j)) (nI b) (nI s') t = some ((), trM q t o j a T (mn l m (q 4 j)) (mx g (q 4 j))) := by
    intro b s' hb es
    have hb5 : buy q o j < 512 := by unfold buy; split <;> omega
    have hs5 : sel q o j < 512 := by unfold sel; split <;> omega
    subst hb es
    unfold fX5_exchange_66 fX5_cell
    rw [free_eq Ao, bnd_some, free_eq (Aj.t_ Sm_hldM (by decide)), bnd_some, mL_n hb5, pL_n hs5, bnd_some, cell_n, pA_n (show 4 * buy q o j + q 1 o < 2048 by omega), bnd_some, cell_n, mA_n (show 4 * sel q o j + q 1 o < 2048 by omega), bnd_some, pA_n (show 4 * buy q o j + q 1 o < 2048 by omega), bnd_some, pA_n (show 4 * sel q o j + q 1 o < 2048 by omega), rdi_n]
    rw [show gi (pA (pA (mA (pA (pL (mL (hldM q (hldM q t o (nI a)) j (nI a)) 1 (buy q o j) ((nI (q 4 j)).toInt64 * (nI a).toInt64)) 1 (sel q o j) ((nI (q 4 j)).toInt64 * (nI a).toInt64)) 3 (4 * buy q o j + q 1 o) (nI a)) 3 (4 * sel q o j + q 1 o) (nI a)) 5 (4 * buy q o j + q 1 o) (nI a)) 6 (4 * sel q o j + q 1 o) (nI a)) 4 = nI T from hg4]
    exact hN
  unfold fX5_exchange fX5_exchange_40
  rw [rda_n (show o < 520 by omega), ob, rda_n (show j < 520 by omega), jd, rda_n (show o < 520 by omega), oc]
  by_cases c : q 2 o = 0
  · rw [if_pos (by rw [z_eq (by omega)]; exact c), rda_n (show o < 520 by omega), oa, rda_n (show o < 520 by omega), oc, if_pos (by rw [z_eq (by omega)]; exact c), rda_n (show j < 520 by omega), ja]
    exact core _ _ (by unfold buy; rw [if_pos c]) (by unfold sel; rw [if_pos c])
  · rw [if_neg (by rw [z_eq (by omega)]; exact c), rda_n (show j < 520 by omega), ja, rda_n (show o < 520 by omega), oc, if_neg (by rw [z_eq (by omega)]; exact c), rda_n (show o < 520 by omega), oa]
    exact core _ _ (by unfold buy; rw [if_neg c]) (by unfold sel; rw [if_neg c])
theorem rows_H {T m g : Nat} (hne : j ≠ o) : ∀ r k, 12 ≤ r → r ≤ 24 → gA (mA (trH q h o j a T m g) 19 j (nI a)) r k = if k = o ∧ r = 18 then gA h 18 o - nI a else if k = o ∧ r = 22 then gA h 22 o + nI a else if k = j ∧ r = 18 then gA h 18 j - nI a else if k = j ∧ r = 22 then gA h 22 j + nI a else if k = j ∧ r = 19 then gA h 19 j - nI a else gA h r k := by
  intro r k h1 h2
  have HN : ∀ r k, 12 ≤ r → r ≤ 24 → gA (trH q h o j a T m g) r k = gA (fiH (fiH (twH q h o j a) o (nI a)) j (nI a)) r k := fun r k h1 h2 => Sm_noH.1 r k (by simp; omega)
  have HW : ∀ r k, 12 ≤ r → gA (twH q h o j a) r k = gA h r k := fun r k h1 => Sm_twH.1 r k (by simp; omega)
  rw [gA_mA, HN r k h1 h2, HN 19 j (by omega) (by omega)]
  unfold fiH
  simp only [gA_pA, gA_mA, HW r k h1, HW 18 o (by omega), HW 22 o (by omega), HW 18 j (by omega), HW 22 j (by omega), HW 19 j (by omega), Nat.reduceEqDiff, false_and, true_and, if_false]
  by_cases c1 : k = o
  · subst c1
    have c2 : ¬ k = j := fun z => hne z.symm
    by_cases d1 : r = 18
    · subst d1; simp [c2]
    · by_cases d2 : r = 22
      · subst d2; simp [c2]
      · simp [d1, d2, c2]
  · by_cases c2 : k = j
    · subst c2
      by_cases d1 : r = 18
      · subst d1; simp [c1]
      · by_cases d2 : r = 22
        · subst d2; simp [c1]
        · by_cases d3 : r = 19
          · subst d3; simp [c1]
          · simp [d1, d2, d3, c1]
    · simp [c1, c2]
theorem rows_M {T m g : Nat} (hne : j ≠ o) : ∀ r k, 8 ≤ r → r ≤ 19 → gA (t5 (trM q t o j a T m g) o j (nI a)) r k = if k = o ∧ r = 13 then gA t 13 o - nI a else if k = o ∧ r = 18 then gA t 18 o + nI a else if k = j ∧ r = 13 then gA t 13 j - nI a else if k = j ∧ r = 18 then gA t 18 j + nI a else if k = j ∧ r = 14 then gA t 14 j - nI a else gA t r k := by
  intro r k h1 h2
  have HN : ∀ r k, 8 ≤ r → r ≤ 19 → gA (trM q t o j a T m g) r k = gA t r k := fun r k h1 h2 => (Sm_noM.1 r k (by simp; omega)).trans (Sm_twM.1 r k (by simp; omega))
  unfold t5
  simp only [gA_pA, gA_mA, HN r k h1 h2, HN 13 o (by omega) (by omega), HN 18 o (by omega) (by omega), HN 13 j (by omega) (by omega), HN 18 j (by omega) (by omega), HN 14 j (by omega) (by omega), Nat.reduceEqDiff, false_and, true_and, if_false]
  by_cases c1 : k = o
  · subst c1
    have c2 : ¬ k = j := fun z => hne z.symm
    by_cases d1 : r = 13
    · subst d1; simp [c2]
    · by_cases d2 : r = 18
      · subst d2; simp [c2]
      · simp [d1, d2, c2]
  · by_cases c2 : k = j
    · subst c2
      by_cases d1 : r = 13
      · subst d1; simp [c1]
      · by_cases d2 : r = 18
        · subst d2; simp [c1]
        · by_cases d3 : r = 14
          · subst d3; simp [c1]
          · simp [d1, d2, d3, c1]
    · simp [c1, c2]
theorem trade_facts (R : Rel h t q Q n nt B o) (ho : o < n) (hj : j < n) (hne : j ≠ o) (h1 : q 1 j = q 1 o) (hac : q 0 j ≠ q 0 o) (ha : 1 ≤ a) (ha5 : a ≤ q 5 o) (ha6 : a ≤ q 6 j) (hB : B + a ≤ 64000000) : ∃ hm tm, fX4_makeTrade (nI o) (nI j) (nI a) h = some ((), hm) ∧ fX5_exchange (nI o) (nI j) (nI a) t = some ((), tm) ∧ TrF h t q n nt B o j a (mA hm 19 j (nI a)) (t5 tm o j (nI a)) := by
  obtain ⟨RS, RC, RH, RP, RO, RB, RT⟩ := R
  have hn := RS.1
  have Ao := RO.at5 hn ho
  have Aj := RO.at5 hn hj
  obtain ⟨T, hT, g4h, g4t, -⟩ := RS.2.2.2.2.2.2.2
  obtain ⟨-, ⟨-, -, s4⟩, -, -, -, ⟨o5h, o5t, -⟩, -, -, -, -, o22, -⟩ := RO o ho
  obtain ⟨⟨-, -, ja⟩, -, -, -, ⟨-, -, jp1, jp2⟩, ⟨j5h, j5t, j5⟩, ⟨j6h, j6t, j6⟩, -, -, -, j22, -⟩ := RO j hj
  have oa := Ao.2.1.2.2
  obtain ⟨p1, p2, p3, p4, l, g, m, hl, hg, hm, e24, e25, e26, hlm, hlg⟩ := RP (q 1 o) s4
  have hmk := makeTrade_eq (a := a) (l := l) (g := g) (m := m) Ao Aj h1 (T := T) (by omega) hm hg hl g4h (p1.trans e24) (p2.trans e25) (p3.trans e26)
  have hex := exchange_eq (a := a) (l := l) (g := g) (m := m) Ao Aj (T := T) (by omega) hm hg hlm hlg g4t e25 e26
  refine ⟨_, _, hmk, hex, ?_⟩
  have rH := rows_H (q := q) (h := h) (o := o) (j := j) (a := a) (T := T) (m := mn l m (q 4 j)) (g := mx g (q 4 j)) hne
  have rM := rows_M (q := q) (t := t) (o := o) (j := j) (a := a) (T := T) (m := mn l m (q 4 j)) (g := mx g (q 4 j)) hne
  have hjo : ¬ o = j := fun z => hne z.symm
  refine ⟨⟨?_, ?_, ?_, ?_⟩, ?_, ?_, ?_, ?_, ⟨?_, ?_, ?_, ?_⟩, ⟨?_, ?_, ?_, ?_⟩, ⟨?_, ?_⟩, ?_, ?_⟩
  · have S1 : RelS (fiH (fiH (twH q h o j a) o (nI a)) j (nI a)) (twM q t o j a) n nt B := ((((RS.h_ Sm_twH (by decide) (by decide)).hz_ (Sm_fiH (k := o) (x := nI a)) (by decide) (by decide) (fun i hi => ⟨Sm_fiH.1 _ _ (by decide), Sm_fiH.1 _ _ (by decide), by unfold fiH; rw [gA_pA, if_neg (by omega), gA_mA, if_neg (by omega)]⟩)).hz_ (Sm_fiH (k := j) (x := nI a)) (by decide) (by decide) (fun i hi => ⟨Sm_fiH.1 _ _ (by decide), Sm_fiH.1 _ _ (by decide), by unfold fiH; rw [gA_pA, if_neg (by omega), gA_mA, if_neg (by omega)]⟩)).t_ Sm_twM (by decide) (by decide))
    have S2 := RelS_no (T := T) (o := o) (j := j) (p := q 4 j) (a := a) (s := q 1 o) (m := mn l m (q 4 j)) (g := mx g (q 4 j)) (by rw [Sm_fiH.2.1 _ (by decide), Sm_fiH.2.1 _ (by decide), Sm_twH.2.1 _ (by decide)]; exact g4h) (by omega) S1 ha hB
    refine (S2.hz_ (Sm_mA (r := 19) (i := j) (x := nI a)) (by decide) (by decide) (fun i hi => ⟨by rw [gA_mA, if_neg (by omega)], by rw [gA_mA, if_neg (by omega)], by rw [gA_mA, if_neg (by omega)]⟩)).tz_ (t' := t5 _ o j (nI a)) ((((Sm_mA.tr Sm_pA).tr Sm_mA).tr Sm_mA).tr Sm_pA) (by decide) (by decide) (fun i hi => ?_)
    unfold t5
    simp only [gA_pA, gA_mA, show ¬ i = o by omega, show ¬ i = j by omega, and_false, if_false]
    exact ⟨rfl, rfl, rfl⟩
  · have C1 := RelC_hold (q := q) (k := j) (a := a) (RelC_hold (q := q) (k := o) (a := a) RC (by omega) oa) (by omega) ja
    have C2 := RelC_ho (s := q 1 o) C1 (bu := buy q o j) (se := sel q o j) (by unfold buy; split <;> omega) (by unfold sel; split <;> omega) ((nI (q 4 j)).toInt64 * (nI a).toInt64) (nI a)
    exact (C2.h_ (((Sm_fiH.tr Sm_fiH).tr Sm_noH).tr Sm_mA) (by decide) (by decide) (by decide)).t_ (Sm_noM.tr ((((Sm_mA.tr Sm_pA).tr Sm_mA).tr Sm_mA).tr Sm_pA)) (by decide) (by decide)
  · have C1 := RelH_hold (q := q) (k := j) (a := a) (RelH_hold (q := q) (k := o) (a := a) RH (by omega)) (by omega)
    have C2 := RelH_ho (s := q 1 o) C1 (bu := buy q o j) (se := sel q o j) (a := a) (by omega) (by unfold buy sel; split <;> omega) ((nI (q 4 j)).toInt64 * (nI a).toInt64)
    exact (C2.h_ (((Sm_fiH.tr Sm_fiH).tr Sm_noH).tr Sm_mA) (by decide)).t_ (Sm_noM.tr ((((Sm_mA.tr Sm_pA).tr Sm_mA).tr Sm_mA).tr Sm_pA)) (by decide)
  · have P1 : RelP (fiH (fiH (twH q h o j a) o (nI a)) j (nI a)) (twM q t o j a) := (RP.h_ ((Sm_twH.tr Sm_fiH).tr Sm_fiH) (by decide)).t_ Sm_twM (by decide)
    have P2 := RelP_no (T := T) (o := o) (j := j) (p := q 4 j) (a := a) (s := q 1 o) (l := l) (g := g) (m := m) P1 s4 jp1 jp2 hm hg hlm
    exact (P2.h_ Sm_mA (by decide)).t_ ((((Sm_mA.tr Sm_pA).tr Sm_mA).tr Sm_mA).tr Sm_pA) (by decide)
  · intro r k r1 r2 r3 r4 r5
    rw [rH r k r1 r2, if_neg (by omega), if_neg (by omega), if_neg (by omega), if_neg (by omega), if_neg (by omega)]
  · intro r k r1 r2 r3 r4
    rw [rH r k r1 r2, if_neg (by omega), if_neg (by omega), if_neg (by omega), if_neg (by omega), if_neg (by omega)]
  · intro r k r1 r2 r3 r4 r5
    rw [rM r k r1 r2, if_neg (by omega), if_neg (by omega), if_neg (by omega), if_neg (by omega), if_neg (by omega)]
  · intro r k r1 r2 r3 r4
    rw [rM r k r1 r2, if_neg (by omega), if_neg (by omega), if_neg (by omega), if_neg (by omega), if_neg (by omega)]
  · rw [rH 18 o (by omega) (by omega), if_pos ⟨rfl, rfl⟩, o5h, pk_sub (by omega)]
  · rw [rH 18 j (by omega) (by omega), if_neg (by omega), if_neg (by omega), if_pos ⟨rfl, rfl⟩, j5h, pk_sub (by omega)]
  · rw [rH 19 o (by omega) (by omega), if_neg (by omega), if_neg (by omega), if_neg (by omega), if_neg (by omega), if_neg (by omega)]
  · rw [rH 19 j (by omega) (by omega), if_neg (by omega), if_neg (by omega), if_neg (by omega), if_neg (by omega), if_pos ⟨rfl, rfl⟩, j6h, pk_sub (by omega)]
  · rw [rM 13 o (by omega) (by omega), if_pos ⟨rfl, rfl⟩, o5t, pk_sub (by omega)]
  · rw [rM 13 j (by omega) (by omega), if_neg (by omega), if_neg (by omega), if_pos ⟨rfl, rfl⟩, j5t, pk_sub (by omega)]
  · rw [rM 14 o (by omega) (by omega), if_neg (by omega), if_neg (by omega), if_neg (by omega), if_neg (by omega), if_neg (by omega)]
  · rw [rM 14 j (by omega) (by omega), if_neg (by omega), if_neg (by omega), if_neg (by omega), if_neg (by omega), if_pos ⟨rfl, rfl⟩, j6t, pk_sub (by omega)]
  · rw [rH 22 o (by omega) (by omega), rM 18 o (by omega) (by omega), if_neg (by omega), if_pos ⟨rfl, rfl⟩, if_neg (by omega), if_pos ⟨rfl, rfl⟩, o22]
  · rw [rH 22 j (by omega) (by omega), rM 18 j (by omega) (by omega), if_neg (by omega), if_neg (by omega), if_neg (by omega), if_pos ⟨rfl, rfl⟩, if_neg (by omega), if_neg (by omega), if_neg (by omega), if_pos ⟨rfl, rfl⟩, j22]
  · show gi (trH q h o j a T (mn l m (q 4 j)) (mx g (q 4 j))) 3 = _
    unfold trH
    rw [Sm_noH.2.1 _ (by decide), Sm_fiH.2.1 _ (by decide), Sm_fiH.2.1 _ (by decide), Sm_twH.2.1 _ (by decide)]
  · show gi (trM q t o j a T (mn l m (q 4 j)) (mx g (q 4 j))) 0 = _
    unfold trM
    rw [Sm_noM.2.1 _ (by decide), Sm_twM.2.1 _ (by decide)]
end Step
