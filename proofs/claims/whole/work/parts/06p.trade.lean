/-! ===== a trade ===== -/
def pA (z : SH) (r i : Nat) (x : Int32) : SH := uA z r i (gA z r i + x)
def mA (z : SH) (r i : Nat) (x : Int32) : SH := uA z r i (gA z r i - x)
def pL (z : SH) (r i : Nat) (x : Int64) : SH := uL z r i (gL z r i + x)
def mL (z : SH) (r i : Nat) (x : Int64) : SH := uL z r i (gL z r i - x)
section Steps2
variable {z : SH} {r i m : Nat} {x : Int32} {X : Int64} {β : Type}
theorem pA_n {F : SH → Option β} (h : i < m) (hm : m < 2 ^ 31 := by decide) : (rda z r m (nI i) fun v => wra z r m (nI i) (v + x) F) = F (pA z r i x) := by rw [rda_n h hm, wra_n h hm]; rfl
theorem mA_n {F : SH → Option β} (h : i < m) (hm : m < 2 ^ 31 := by decide) : (rda z r m (nI i) fun v => wra z r m (nI i) (v - x) F) = F (mA z r i x) := by rw [rda_n h hm, wra_n h hm]; rfl
theorem pL_n {F : SH → Option β} (h : i < m) (hm : m < 2 ^ 31 := by decide) : (rdl z r m (nI i) fun v => wrl z r m (nI i) (v + X) F) = F (pL z r i X) := by rw [rdl_n h hm, wrl_n h hm]; rfl
theorem mL_n {F : SH → Option β} (h : i < m) (hm : m < 2 ^ 31 := by decide) : (rdl z r m (nI i) fun v => wrl z r m (nI i) (v - X) F) = F (mL z r i X) := by rw [rdl_n h hm, wrl_n h hm]; rfl
theorem gA_pA {r' i' : Nat} : gA (pA z r i x) r' i' = if r' = r ∧ i' = i then gA z r i + x else gA z r' i' := gA_uA
theorem gA_mA {r' i' : Nat} : gA (mA z r i x) r' i' = if r' = r ∧ i' = i then gA z r i - x else gA z r' i' := gA_uA
theorem gA_pL {r' i' : Nat} : gA (pL z r i X) r' i' = gA z r' i' := rfl
theorem gA_mL {r' i' : Nat} : gA (mL z r i X) r' i' = gA z r' i' := rfl
theorem Sm_pA : Sm z (pA z r i x) [r] [] [] := Sm_uA
theorem Sm_mA : Sm z (mA z r i x) [r] [] [] := Sm_uA
theorem Sm_pL : Sm z (pL z r i X) [] [] [r] := Sm_uL
theorem Sm_mL : Sm z (mL z r i X) [] [] [r] := Sm_uL
end Steps2
def hoH (h : SH) (bu se s : Nat) (X : Int64) (x : Int32) : SH := pA (mA (pA (pA (pL (mL h 5 bu X) 5 se X) 7 (4 * bu + s) x) 9 (4 * bu + s) x) 7 (4 * se + s) x) 10 (4 * se + s) x
def hoM (t : SH) (bu se s : Nat) (X : Int64) (x : Int32) : SH := pA (pA (mA (pA (pL (mL t 1 bu X) 1 se X) 3 (4 * bu + s) x) 3 (4 * se + s) x) 5 (4 * bu + s) x) 6 (4 * se + s) x
def tpH (h : SH) (T o j p a : Nat) : SH := if T < 300 then uA (uA (uA (uA h 25 T (nI o)) 26 T (nI j)) 27 T (nI p)) 28 T (nI a) else h
def tpM (t : SH) (T o j p a : Nat) : SH := if T < 300 then uA (uA (uA (uA t 23 (4 * T) (nI o)) 23 (4 * T + 1) (nI j)) 23 (4 * T + 2) (nI p)) 23 (4 * T + 3) (nI a) else t
def noH (h : SH) (T o j p a s m g : Nat) : SH := pA (uA (uA (uA (si (tpH h T o j p a) 4 (nI (T + 1))) 31 s (nI m)) 30 s (nI g)) 29 s (nI p)) 32 s (nI a)
def noM (t : SH) (T o j p a s m g : Nat) : SH := pA (uA (uA (uA (si (tpM t T o j p a) 4 (nI (T + 1))) 24 s (nI p)) 25 s (nI g)) 26 s (nI m)) 27 s (nI a)
def fiH (h : SH) (k : Nat) (x : Int32) : SH := pA (mA h 18 k x) 22 k x
section Trade
variable {h h' t t' : SH} {q q' : Nat → Nat → Nat} {Q Q' : Nat → List Nat} {n nt nt' B o o' k : Nat}
theorem Sm_hoH {bu se s : Nat} {X : Int64} {x : Int32} : Sm h (hoH h bu se s X x) [7, 9, 7, 10] [] [5, 5] := ((((Sm_mL.tr Sm_pL).tr Sm_pA).tr Sm_pA).tr Sm_mA).tr Sm_pA
theorem Sm_hoM {bu se s : Nat} {X : Int64} {x : Int32} : Sm t (hoM t bu se s X x) [3, 3, 5, 6] [] [1, 1] := ((((Sm_mL.tr Sm_pL).tr Sm_pA).tr Sm_mA).tr Sm_pA).tr Sm_pA
theorem Sm_tpH {T o j p a : Nat} : Sm h (tpH h T o j p a) [25, 26, 27, 28] [] [] := by
  unfold tpH
  split
  · exact ((Sm_uA.tr Sm_uA).tr Sm_uA).tr Sm_uA
  · exact ⟨fun _ _ _ => rfl, fun _ _ => rfl, fun _ _ _ => rfl⟩
theorem Sm_tpM {T o j p a : Nat} : Sm t (tpM t T o j p a) [23, 23, 23, 23] [] [] := by
  unfold tpM
  split
  · exact ((Sm_uA.tr Sm_uA).tr Sm_uA).tr Sm_uA
  · exact ⟨fun _ _ _ => rfl, fun _ _ => rfl, fun _ _ _ => rfl⟩
theorem Sm_noH {T o j p a s m g : Nat} : Sm h (noH h T o j p a s m g) [25, 26, 27, 28, 31, 30, 29, 32] [4] [] := ((((Sm_tpH.tr Sm_si).tr Sm_uA).tr Sm_uA).tr Sm_uA).tr Sm_pA
theorem Sm_noM {T o j p a s m g : Nat} : Sm t (noM t T o j p a s m g) [23, 23, 23, 23, 24, 25, 26, 27] [4] [] := ((((Sm_tpM.tr Sm_si).tr Sm_uA).tr Sm_uA).tr Sm_uA).tr Sm_pA
theorem Sm_fiH {k : Nat} {x : Int32} : Sm h (fiH h k x) [18, 22] [] [] := Sm_mA.tr Sm_pA
theorem handOver_eq {bu se s : Nat} (hb : bu < 512) (hs' : se < 512) (hs : s < 4) (p x : Int32) : fX1_handOver (nI bu) (nI se) (nI s) p x h = some ((), hoH h bu se s (p.toInt64 * x.toInt64) x) := by
  unfold fX1_handOver fX1_placeOf
  rw [mL_n hb, pL_n hs', bnd_some, bnd_some, place_n, place_n, pA_n (show 4 * bu + s < 2048 by omega), pA_n (show 4 * bu + s < 2048 by omega), mA_n (show 4 * se + s < 2048 by omega), pA_n (show 4 * se + s < 2048 by omega)]
  rfl
theorem fill_eq (hk : k < 512) (x : Int32) : fX2_fill (nI k) x h = some ((), fiH h k x) := by
  unfold fX2_fill
  rw [mA_n hk, pA_n hk]
  rfl
def mn (l m p : Nat) : Nat := if l = 0 then p else if p < m then p else m
def mx (g p : Nat) : Nat := if g < p then p else g
theorem mx_n {g p : Nat} (hg : g ≤ 10000) (hp : p ≤ 10000) : (if nI g < nI p then nI p else nI g) = nI (mx g p) := by
  unfold mx
  by_cases c : g < p
  · rw [if_pos c, if_pos (nI_lt c (by omega))]
  · rw [if_neg c, if_neg (nI_nlt (by omega) (by omega))]
theorem mn_n {l m p : Nat} (hm : m ≤ 10000) (hp : p ≤ 10000) (cl : ¬ l = 0) : (if nI p < nI m then nI p else nI m) = nI (mn l m p) := by
  unfold mn
  rw [if_neg cl]
  by_cases c : p < m
  · rw [if_pos c, if_pos (nI_lt c (by omega))]
  · rw [if_neg c, if_neg (nI_nlt (by omega) (by omega))]
theorem note_eq {T o j p a s l g m : Nat} (hT : T < 2 ^ 30) (hs : s < 4) (hp : p ≤ 10000) (hm : m ≤ 10000) (hg : g ≤ 10000) (hl : l ≤ 10000) (g4 : gi h 4 = nI T) (e29 : gA h 29 s = nI l) (e30 : gA h 30 s = nI g) (e31 : gA h 31 s = nI m) : fX3_note (nI s) (nI o) (nI j) (nI p) (nI a) h = some ((), noH h T o j p a s (mn l m p) (mx g p)) := by
  have h300 : (300 : Int32) = nI 300 := by decide
  have e1 : ∀ z : SH, gi z 4 = nI T → gA z 29 s = nI l → gA z 30 s = nI g → gA z 31 s = nI m → fX3_note_52 (nI s) (nI p) (nI a) z = some ((), pA (uA (uA (uA (si z 4 (nI (T + 1))) 31 s (nI (mn l m p))) 30 s (nI (mx g p))) 29 s (nI p)) 32 s (nI a)) := by
    intro z z4 z29 z30 z31
    have e2 : ∀ w : SH, gA w 30 s = nI g → fX3_note_92 (nI s) (nI p) (nI a) (nI (mn l m p)) (nI s) w = some ((), pA (uA (uA (uA w 31 s (nI (mn l m p))) 30 s (nI (mx g p))) 29 s (nI p)) 32 s (nI a)) := by
      intro w w30
      unfold fX3_note_92
      rw [wra_n hs, rda_n hs, gA_uA_nk (by decide), w30, mx_n hg hp, wra_n hs, wra_n hs, pA_n hs]
    unfold fX3_note_52
    rw [rdi_n, z4, nI_1, wri_n, rda_n hs, gA_si, z29]
    by_cases c : l = 0
    · rw [if_pos (by rw [z_eq (by omega)]; exact c)]
      have := e2 (si z 4 (nI (T + 1))) z30
      rw [show mn l m p = p by unfold mn; rw [if_pos c]] at this ⊢
      exact this
    · rw [if_neg (by rw [z_eq (by omega)]; exact c), rda_n hs, gA_si, z31, mn_n hm hp c]
      exact e2 (si z 4 (nI (T + 1))) z30
  unfold fX3_note noH tpH
  rw [rdi_n, g4, h300]
  by_cases c : T < 300
  · rw [if_neg (nI_ge (by omega) (by omega)), if_pos c, rdi_n, g4, wra_n c, rdi_n, gi_uA, g4, wra_n c, rdi_n, gi_uA, gi_uA, g4, wra_n c, rdi_n, gi_uA, gi_uA, gi_uA, g4, wra_n c]
    exact e1 _ g4 (by rw [gA_uA_nk (by decide), gA_uA_nk (by decide), gA_uA_nk (by decide), gA_uA_nk (by decide)]; exact e29) (by rw [gA_uA_nk (by decide), gA_uA_nk (by decide), gA_uA_nk (by decide), gA_uA_nk (by decide)]; exact e30) (by rw [gA_uA_nk (by decide), gA_uA_nk (by decide), gA_uA_nk (by decide), gA_uA_nk (by decide)]; exact e31)
  · rw [if_pos (nI_le (by omega) (by omega)), if_neg c]
    exact e1 h g4 e29 e30 e31
theorem c4_n {T c : Nat} : ((4 * nI T) + nI c : Int32) = nI (4 * T + c) := by rw [show (4 : Int32) = nI 4 by decide, pk_mul, nI_add]
theorem noM_eq {T o j p a s l g m : Nat} (hT : T < 2 ^ 28) (hs : s < 4) (hp1 : 1 ≤ p) (hp : p ≤ 10000) (hm : m ≤ 10000) (hg : g ≤ 10000) (hlm : l = 0 ↔ m = 0) (hlg : l = 0 ↔ g = 0) (g4 : gi t 4 = nI T) (e25 : gA t 25 s = nI g) (e26 : gA t 26 s = nI m) :
    (if 300 ≤ nI T then fX5_exchange_241 (nI a) (nI s) (nI p) t else rdi t 4 fun v24 =>
      wra t 23 1200 (4 * v24) (nI o) fun z25 =>
      rdi z25 4 fun v26 =>
      wra z25 23 1200 ((4 * v26) + 1) (nI j) fun z27 =>
      rdi z27 4 fun v28 =>
      wra z27 23 1200 ((4 * v28) + 2) (nI p) fun z29 =>
      rdi z29 4 fun v30 =>
      wra z29 23 1200 ((4 * v30) + 3) (nI a) fun z31 =>
      fX5_exchange_241 (nI a) (nI s) (nI p) z31) = some ((), noM t T o j p a s (mn l m p) (mx g p)) := by
  have h300 : (300 : Int32) = nI 300 := by decide
  have e1 : ∀ z : SH, gi z 4 = nI T → gA z 25 s = nI g → gA z 26 s = nI m → fX5_exchange_241 (nI a) (nI s) (nI p) z = some ((), pA (uA (uA (uA (si z 4 (nI (T + 1))) 24 s (nI p)) 25 s (nI (mx g p))) 26 s (nI (mn l m p))) 27 s (nI a)) := by
    intro z z4 z25 z26
    have e2 : ∀ w : SH, gA w 26 s = nI m → fX5_exchange_300 (nI a) (nI s) (nI p) (nI (mx g p)) (nI s) w = some ((), pA (uA (uA w 25 s (nI (mx g p))) 26 s (nI (mn l m p))) 27 s (nI a)) := by
      intro w w26
      unfold fX5_exchange_300 fX5_exchange_329 fX5_exchange_341
      rw [wra_n hs, rda_n hs, gA_uA_nk (by decide), w26]
      by_cases c : m = 0
      · rw [if_pos (by rw [z_eq (by omega)]; exact c), wra_n hs, pA_n hs, show mn l m p = p by unfold mn; rw [if_pos (hlm.mpr c)]]
      · rw [if_neg (by rw [z_eq (by omega)]; exact c), rda_n hs, gA_uA_nk (by decide), w26]
        by_cases c2 : m ≤ p
        · rw [if_pos (nI_le c2 (by omega)), rda_n hs, gA_uA_nk (by decide), w26, wra_n hs, pA_n hs, show mn l m p = m by unfold mn; rw [if_neg (fun z => c (hlm.mp z)), if_neg (by omega)]]
        · rw [if_neg (nI_ge (by omega) (by omega)), wra_n hs, pA_n hs, show mn l m p = p by unfold mn; rw [if_neg (fun z => c (hlm.mp z)), if_pos (by omega)]]
    unfold fX5_exchange_241 fX5_exchange_288
    rw [rdi_n, z4, nI_1, wri_n, wra_n hs, rda_n hs, gA_uA_nk (by decide), gA_si, z25]
    have e3 := e2 (uA (si z 4 (nI (T + 1))) 24 s (nI p)) (by rw [gA_uA_nk (by decide)]; exact z26)
    by_cases c : g = 0
    · rw [if_pos (by rw [z_eq (by omega)]; exact c)]
      rw [show mx g p = p by unfold mx; rw [if_pos (by omega)]] at e3 ⊢
      exact e3
    · rw [if_neg (by rw [z_eq (by omega)]; exact c), rda_n hs, gA_uA_nk (by decide), gA_si, z25]
      by_cases c2 : p ≤ g
      · rw [if_pos (nI_le c2 (by omega)), rda_n hs, gA_uA_nk (by decide), gA_si, z25]
        rw [show mx g p = g by unfold mx; rw [if_neg (by omega)]] at e3 ⊢
        exact e3
      · rw [if_neg (nI_ge (by omega) (by omega))]
        rw [show mx g p = p by unfold mx; rw [if_pos (by omega)]] at e3 ⊢
        exact e3
  unfold noM tpM
  rw [h300]
  by_cases c : T < 300
  · rw [if_neg (nI_ge (by omega) (by omega)), if_pos c, rdi_n, g4, show (4 * nI T : Int32) = nI (4 * T) by rw [show (4 : Int32) = nI 4 by decide, pk_mul], wra_n (show 4 * T < 1200 by omega), rdi_n, gi_uA, g4, nI_1', c4_n, wra_n (show 4 * T + 1 < 1200 by omega), rdi_n, gi_uA, gi_uA, g4, nI_2', c4_n, wra_n (show 4 * T + 2 < 1200 by omega), rdi_n, gi_uA, gi_uA, gi_uA, g4, show (3 : Int32) = nI 3 by decide, c4_n, wra_n (show 4 * T + 3 < 1200 by omega)]
    exact e1 _ g4 (by rw [gA_uA_nk (by decide), gA_uA_nk (by decide), gA_uA_nk (by decide), gA_uA_nk (by decide)]; exact e25) (by rw [gA_uA_nk (by decide), gA_uA_nk (by decide), gA_uA_nk (by decide), gA_uA_nk (by decide)]; exact e26)
  · rw [if_pos (nI_le (by omega) (by omega)), if_neg c]
    exact e1 t g4 e25 e26
/-! what the stages keep -/
theorem RelC_ho {bu se s : Nat} (R : RelC h t) (hb : bu < 512) (hs' : se < 512) (X : Int64) (x : Int32) : RelC (hoH h bu se s X x) (hoM t bu se s X x) := by
  have R1 : RelC (mL h 5 bu X) (mL t 1 bu X) := by
    have := RelC_cash R hb (gL t 1 bu - X)
    unfold mL
    rw [(R.1 bu hb).1]
    exact this
  have R2 : RelC (pL (mL h 5 bu X) 5 se X) (pL (mL t 1 bu X) 1 se X) := by
    have := RelC_cash R1 hs' (gL (mL t 1 bu X) 1 se + X)
    unfold pL
    rw [(R1.1 se hs').1]
    exact this
  exact (R2.h_ (((Sm_pA.tr Sm_pA).tr Sm_mA).tr Sm_pA) (by decide) (by decide) (by decide)).t_ (((Sm_pA.tr Sm_mA).tr Sm_pA).tr Sm_pA) (by decide) (by decide)
theorem RelH_ho {bu se s a : Nat} (R : RelH h t B) (hB : B + a ≤ 2 ^ 30) (hne : bu ≠ se) (X : Int64) : RelH (hoH h bu se s X (nI a)) (hoM t bu se s X (nI a)) (B + a) := by
  intro i hi
  obtain ⟨r1, r2, r3, r4, r5, r6⟩ := R i hi
  have ha : (nI a).toInt = a := nI_toInt (by omega)
  have e1 : (gA t 3 i + nI a).toInt = (gA t 3 i).toInt + a := by rw [fb_addI (by omega) (by omega), ha]
  have e2 : (gA t 3 i - nI a).toInt = (gA t 3 i).toInt - a := by rw [fb_subI (by omega) (by omega), ha]
  unfold hoH hoM
  simp only [gA_pA, gA_mA, gA_pL, gA_mL, Nat.reduceEqDiff, false_and, true_and, if_false]
  by_cases c1 : i = 4 * bu + s
  · have c2 : ¬ i = 4 * se + s := by omega
    have c3 : ¬ 4 * se + s = 4 * bu + s := by omega
    subst c1
    simp only [if_true, c2, if_false, r1, r2, r3, r4, true_and]
    omega
  · by_cases c2 : i = 4 * se + s
    · have c3 : ¬ 4 * se + s = 4 * bu + s := by omega
      subst c2
      simp only [if_true, c1, if_false, r1, r2, r3, r4, true_and]
      omega
    · simp only [c1, c2, if_false, r1, r2, r3, r4, true_and]
      omega
theorem RelP_no {T o j p a s l g m : Nat} (R : RelP h t) (hs : s < 4) (hp1 : 1 ≤ p) (hp : p ≤ 10000) (hm : m ≤ 10000) (hg : g ≤ 10000) (hlm : l = 0 ↔ m = 0) : RelP (noH h T o j p a s (mn l m p) (mx g p)) (noM t T o j p a s (mn l m p) (mx g p)) := by
  have HH : ∀ r i, r ≠ 25 → r ≠ 26 → r ≠ 27 → r ≠ 28 → gA (tpH h T o j p a) r i = gA h r i := fun r i h1 h2 h3 h4 => Sm_tpH.1 r i (by simp [h1, h2, h3, h4])
  have HM : ∀ r i, r ≠ 23 → gA (tpM t T o j p a) r i = gA t r i := fun r i h1 => Sm_tpM.1 r i (by simp [h1])
  intro i hi
  obtain ⟨r1, r2, r3, r4, r5⟩ := R i hi
  unfold noH noM
  simp only [gA_pA, gA_uA, gA_si, Nat.reduceEqDiff, false_and, true_and, if_false, HH 29 _ (by decide) (by decide) (by decide) (by decide), HH 30 _ (by decide) (by decide) (by decide) (by decide), HH 31 _ (by decide) (by decide) (by decide) (by decide), HH 32 _ (by decide) (by decide) (by decide) (by decide), HM 24 _ (by decide), HM 25 _ (by decide), HM 26 _ (by decide), HM 27 _ (by decide)]
  by_cases c : i = s
  · subst c
    simp only [if_true, r4, true_and]
    refine ⟨p, mx g p, mn l m p, hp, by unfold mx; split <;> omega, by unfold mn; split <;> (try split) <;> omega, rfl, rfl, rfl, ?_, ?_⟩
    · unfold mn
      split <;> (try split) <;> omega
    · unfold mx
      split <;> omega
  · simp only [c, if_false]
    exact ⟨r1, r2, r3, r4, r5⟩
theorem RelS_no {T o j p a s m g : Nat} (hT : gi h 4 = nI T) (hTB : T + 1 ≤ B + a) (R : RelS h t n nt B) (ha : 1 ≤ a) (hB : B + a ≤ 64000000) : RelS (noH h T o j p a s m g) (noM t T o j p a s m g) n nt (B + a) := by
  obtain ⟨a1, a2, a3, a4, a5, ⟨a6, a7⟩, ⟨τ, b1, b2, b3⟩, T', c1, c2, c3, c4⟩ := R
  have eT : T' = T := nI_inj (by omega) (by omega) (c2.symm.trans hT)
  subst eT
  have S1 := Sm_noH (h := h) (T := T') (o := o) (j := j) (p := p) (a := a) (s := s) (m := m) (g := g)
  have S2 := Sm_noM (t := t) (T := T') (o := o) (j := j) (p := p) (a := a) (s := s) (m := m) (g := g)
  refine ⟨a1, hB, by rw [S1.2.1 _ (by decide)]; exact a3, by rw [S2.2.1 _ (by decide)]; exact a4, by rw [S2.2.1 _ (by decide)]; exact a5, ⟨by omega, fun k h1 h2 => ?_⟩, ⟨τ, by omega, by rw [S1.2.1 _ (by decide)]; exact b2, by rw [S2.2.1 _ (by decide)]; exact b3⟩, T' + 1, hTB, rfl, rfl, fun i h1 h2 => ?_⟩
  · rw [S1.1 _ _ (by decide), S1.1 _ _ (by decide), S1.1 _ _ (by decide), S2.1 _ _ (by decide), S2.1 _ _ (by decide), S2.1 _ _ (by decide)]
    exact a7 k h1 h2
  · unfold noH noM tpH tpM
    by_cases c : T' < 300
    · rw [if_pos c, if_pos c]
      simp only [gA_pA, gA_uA, gA_si, Nat.reduceEqDiff, false_and, true_and, if_false]
      by_cases ci : i = T'
      · subst ci
        simp
      · have q0 : ¬ 4 * i = 4 * T' := by omega
        have q1 : ¬ 4 * i = 4 * T' + 1 := by omega
        have q2 : ¬ 4 * i = 4 * T' + 2 := by omega
        have q3 : ¬ 4 * i = 4 * T' + 3 := by omega
        have q4 : ¬ 4 * i + 1 = 4 * T' := by omega
        have q5 : ¬ 4 * i + 1 = 4 * T' + 2 := by omega
        have q6 : ¬ 4 * i + 1 = 4 * T' + 3 := by omega
        have q7 : ¬ 4 * i + 2 = 4 * T' := by omega
        have q8 : ¬ 4 * i + 2 = 4 * T' + 1 := by omega
        have q9 : ¬ 4 * i + 2 = 4 * T' + 3 := by omega
        have q10 : ¬ 4 * i + 3 = 4 * T' := by omega
        have q11 : ¬ 4 * i + 3 = 4 * T' + 1 := by omega
        have q12 : ¬ 4 * i + 3 = 4 * T' + 2 := by omega
        have q13 : ¬ 4 * i + 1 = 4 * T' + 1 := by omega
        have q14 : ¬ 4 * i + 2 = 4 * T' + 2 := by omega
        have q15 : ¬ 4 * i + 3 = 4 * T' + 3 := by omega
        simp only [ci, q0, q1, q2, q3, q4, q5, q6, q7, q8, q9, q10, q11, q12, q13, q14, q15, if_false]
        exact c4 i (by omega) h2
    · rw [if_neg c, if_neg c]
      simp only [gA_pA, gA_uA, gA_si, Nat.reduceEqDiff, false_and, true_and, if_false]
      exact c4 i (by omega) h2
end Trade
