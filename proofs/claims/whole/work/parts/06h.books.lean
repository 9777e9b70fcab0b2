/-! ===== the rows of a book ===== -/
section Books
variable {h h' t : SH} {q q' : Nat → Nat → Nat} {Q : Nat → List Nat} {n nt B o : Nat}
/-- the shift behind an order that goes -/
theorem drop_shift (N : Nat) {b e : Nat} (hb : b < 8) (he : e < 800) : ∀ (fu i : Nat) (h : SH), i ≤ e → e - i < fu → ∃ h', fX0_drop_77_L N fu (nI b) (nI e) (nI i) h = some ((), h') ∧ Sm h h' [23, 24] [] [] ∧ (∀ x, i ≤ x → x < e → gA h' 23 x = gA h 23 (x + 1)) ∧ (∀ x, (x < i ∨ e ≤ x) → gA h' 23 x = gA h 23 x) ∧ (∀ b', gA h' 24 b' = if b' = b then gA h 24 b - 1 else gA h 24 b') := by
  intro fu
  induction fu with
  | zero => intro i h _ hf; omega
  | succ fu ih =>
    intro i h hi hf
    have hstep : fX0_drop_77_L N (fu + 1) (nI b) (nI e) (nI i) h = fX0_drop_77 N (fX0_drop_77_L N fu) (nI b) (nI e) (nI i) h := rfl
    rw [hstep]
    unfold fX0_drop_77
    by_cases c : e ≤ i
    · rw [if_pos (nI_le c (by omega)), rda_n hb, wra_n hb]
      refine ⟨_, rfl, ⟨fun k j hk => Sm_uA.1 k j (fun z => hk (by simp at z; simp [z])), fun _ _ => rfl, fun _ _ _ => rfl⟩, fun x h1 h2 => by omega, fun x _ => by rw [gA_uA]; simp, fun b' => ?_⟩
      rw [gA_uA]
      simp
    · rw [if_neg (nI_ge (by omega) (by omega)), nI_1, rda_n (show i + 1 < 800 by omega), wra_n (show i < 800 by omega)]
      obtain ⟨h', k1, k2, k3, k4, k5⟩ := ih (i + 1) (uA h 23 i (gA h 23 (i + 1))) (by omega) (by omega)
      refine ⟨h', k1, ?_, fun x h1 h2 => ?_, fun x h1 => ?_, fun b' => ?_⟩
      · have S := Sm.tr (Sm_uA (h := h) (k := 23) (j := i) (v := gA h 23 (i + 1))) k2
        exact ⟨fun k j hk => S.1 k j (fun z => hk (by simp at z ⊢; omega)), fun k hk => S.2.1 k (fun z => by simp at z), fun k j hk => S.2.2 k j (fun z => by simp at z)⟩
      · by_cases e1 : x = i
        · subst e1
          rw [k4 x (by omega), gA_uA]
          simp
        · rw [k3 x (by omega) h2, gA_uA]
          simp
          omega
      · rw [k4 x (by omega), gA_uA, if_neg (by omega)]
      · rw [k5 b', gA_uA, gA_uA]
        simp
/-- looking for it, from the best one on -/
theorem drop_find (N : Nat) {b s e p k : Nat} (hk : k < 64) (he : e < 800) (hsp : s ≤ p) (hkp : gA h 23 p = nI k) : ∀ (fu at_ : Nat), p ≤ at_ → at_ ≤ e → at_ - p < fu → (∀ x, p < x → x ≤ at_ → ∃ k', k' < 64 ∧ k' ≠ k ∧ gA h 23 x = nI k') → fX0_drop_43_L N fu (nI k) (nI b) (nI s) (nI e) (nI at_) h = fX0_drop_66 N (nI b) (nI s) (nI e) (nI p) h := by
  intro fu
  induction fu with
  | zero => intro a _ _ hf; omega
  | succ fu ih =>
    intro a ha hae hf hne
    have hstep : fX0_drop_43_L N (fu + 1) (nI k) (nI b) (nI s) (nI e) (nI a) h = fX0_drop_43 N (fX0_drop_43_L N fu) (nI k) (nI b) (nI s) (nI e) (nI a) h := rfl
    rw [hstep]
    unfold fX0_drop_43
    rw [if_neg (nI_nlt (by omega) (by omega)), rda_n (show a < 800 by omega)]
    by_cases c : a = p
    · subst c
      rw [hkp, if_pos rfl]
    · obtain ⟨k', h1, h2, h3⟩ := hne a (by omega) (Nat.le_refl _)
      rw [h3, if_neg (fun z => h2 (nI_inj (by omega) (by omega) z))]
      obtain ⟨a', rfl⟩ : ∃ a', a = a' + 1 := ⟨a - 1, by omega⟩
      rw [pk_m1]
      exact ih a' (by omega) (by omega) (by omega) (fun x h4 h5 => hne x h4 (by omega))
theorem book_len (R : RelB h q Q n) (hn : n ≤ 64) {b : Nat} (hb : b < 8) : (Q b).length ≤ 64 := by
  obtain ⟨-, -, r3, -⟩ := R b hb
  rw [← cnt_list r3]
  exact Nat.le_trans (cnt_le _ _) hn
theorem getD_mem {L : List Nat} {i : Nat} (hi : i < L.length) : L.getD i 0 ∈ L := by
  rw [List.getD_eq_getElem?_getD, List.getElem?_eq_getElem hi]
  exact List.getElem_mem hi
theorem getD_inj {L : List Nat} (hL : L.Nodup) {i j : Nat} (hi : i < L.length) (hj : j < L.length) (e : L.getD i 0 = L.getD j 0) : i = j := by
  rw [List.getD_eq_getElem?_getD, List.getD_eq_getElem?_getD, List.getElem?_eq_getElem hi, List.getElem?_eq_getElem hj] at e
  have e' : L[i] = L[j] := e
  rcases Nat.lt_trichotomy i j with g | g | g
  · exact absurd e' (List.pairwise_iff_getElem.mp hL i j hi hj g)
  · exact g
  · exact absurd e'.symm (List.pairwise_iff_getElem.mp hL j i hj hi g)
/-- an order that rests goes out of its book -/
theorem drop_eq (N : Nat) (hN : 20000 ≤ N) (R : RelB h q Q n) (hn : n ≤ 64) {k : Nat} (hk : k < n) (h13 : gA h 13 k = nI (q 1 k)) (h14 : gA h 14 k = nI (q 2 k)) (hq1 : q 1 k < 4) (hq2 : q 2 k < 2) (hq7 : q 7 k = 0) :
    ∃ (h' : SH) (i0 : Nat), fX0_drop N (nI k) h = some ((), h') ∧ Sm h h' [23, 24] [] [] ∧ i0 < (Q (2 * q 1 k + q 2 k)).length ∧ (Q (2 * q 1 k + q 2 k)).getD i0 0 = k ∧
      (∀ b, b < 8 → gA h' 24 b = nI ((if b = 2 * q 1 k + q 2 k then (Q b).eraseIdx i0 else Q b)).length) ∧
      (∀ b, b < 8 → ∀ i, i < (if b = 2 * q 1 k + q 2 k then (Q b).eraseIdx i0 else Q b).length → gA h' 23 (100 * b + ((if b = 2 * q 1 k + q 2 k then (Q b).eraseIdx i0 else Q b).length - 1 - i)) = nI ((if b = 2 * q 1 k + q 2 k then (Q b).eraseIdx i0 else Q b).getD i 0)) := by
  obtain ⟨bb, hbb⟩ : ∃ bb, bb = 2 * q 1 k + q 2 k := ⟨_, rfl⟩
  have hb8 : bb < 8 := by omega
  obtain ⟨r1, r2, r3, r4⟩ := R bb hb8
  have hlen := book_len R hn hb8
  have hm : k ∈ Q bb := (r3.2 k).mpr ⟨hk, by unfold inBook; simp [hq7, ← hbb]⟩
  obtain ⟨i0, hi0, he0⟩ := List.getElem_of_mem hm
  have hg0 : (Q bb).getD i0 0 = k := by rw [List.getD_eq_getElem?_getD, List.getElem?_eq_getElem hi0]; exact he0
  rw [← hbb]
  obtain ⟨len, hl⟩ : ∃ len, len = (Q bb).length := ⟨_, rfl⟩
  rw [← hl] at r1 hi0 hlen
  have r2' : ∀ i, i < len → gA h 23 (100 * bb + (len - 1 - i)) = nI ((Q bb).getD i 0) := fun i hi => by have := r2 i (by omega); rw [← hl] at this; exact this
  have e1 : (((nI bb * 100) + nI len) - 1 : Int32) = nI (100 * bb + len - 1) := by
    rw [show (100 : Int32) = nI 100 by decide, pk_mul, nI_add, show (1 : Int32) = nI 1 by decide, pk_sub (by omega), Nat.mul_comm]
  have e2 : (nI bb * 100 : Int32) = nI (100 * bb) := by rw [show (100 : Int32) = nI 100 by decide, pk_mul, Nat.mul_comm]
  have hfind : fX0_drop_43_L N N (nI k) (nI bb) (nI (100 * bb)) (nI (100 * bb + len - 1)) (nI (100 * bb + len - 1)) h = fX0_drop_66 N (nI bb) (nI (100 * bb)) (nI (100 * bb + len - 1)) (nI (100 * bb + (len - 1 - i0))) h := by
    refine drop_find N (by omega) (by omega) (by omega) (by rw [r2' i0 hi0, hg0]) N _ (by omega) (Nat.le_refl _) (by omega) (fun x h1 h2 => ?_)
    have hx : x = 100 * bb + (len - 1 - (100 * bb + len - 1 - x)) := by omega
    refine ⟨(Q bb).getD (100 * bb + len - 1 - x) 0, ?_, fun z => ?_, by rw [hx]; rw [show 100 * bb + len - 1 - (100 * bb + (len - 1 - (100 * bb + len - 1 - x))) = 100 * bb + len - 1 - x by omega]; exact r2' _ (by omega)⟩
    · have hmm := (r3.2 _).mp (getD_mem (L := Q bb) (i := 100 * bb + len - 1 - x) (by omega))
      omega
    · have := getD_inj r3.1 (i := 100 * bb + len - 1 - x) (j := i0) (by omega) (by omega) (z.trans hg0.symm)
      omega
  obtain ⟨h', k1, k2, k3, k4, k5⟩ := drop_shift N (b := bb) (e := 100 * bb + len - 1) hb8 (by omega) N (100 * bb + (len - 1 - i0)) h (by omega) (by omega)
  refine ⟨h', i0, ?_, k2, by omega, hg0, fun b hb => ?_, fun b hb i hi => ?_⟩
  · have e3 : ((nI (q 1 k) * 2) + nI (q 2 k) : Int32) = nI bb := by rw [show (2 : Int32) = nI 2 by decide, pk_mul, nI_add, hbb, Nat.mul_comm]
    unfold fX0_drop fX0_bookOf
    rw [rda_n (show k < 512 by omega), h13, rda_n (show k < 512 by omega), h14, bnd_some, e3, rda_n hb8, r1, e1, e2, hfind]
    unfold fX0_drop_66
    rw [if_pos (nI_le (by omega) (by omega))]
    exact k1
  · rw [k5 b]
    by_cases c : b = bb
    · subst c
      rw [if_pos rfl, if_pos rfl, r1, List.length_eraseIdx, if_pos (by omega), ← hl, show (1 : Int32) = nI 1 by decide, pk_sub (by omega)]
    · rw [if_neg c, if_neg c]
      exact (R b hb).1
  · by_cases c : b = bb
    · subst c
      rw [if_pos rfl] at hi ⊢
      rw [List.length_eraseIdx, if_pos (by omega), ← hl] at hi ⊢
      rw [List.getD_eq_getElem?_getD, List.getElem?_eraseIdx]
      by_cases c2 : i < i0
      · rw [if_pos c2, ← List.getD_eq_getElem?_getD, k3 _ (by omega) (by omega), ← r2' i (by omega)]
        congr 1
        omega
      · rw [if_neg c2, ← List.getD_eq_getElem?_getD, k4 _ (by omega), ← r2' (i + 1) (by omega)]
        congr 1
        omega
    · rw [if_neg c] at hi ⊢
      have hl2 := book_len R hn hb
      rw [k4 _ (by omega)]
      exact (R b hb).2.1 i hi
end Books
