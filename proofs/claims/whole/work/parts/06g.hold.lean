/-! ===== what is held for an order ===== -/
def hldH (q : Nat → Nat → Nat) (h : SH) (k : Nat) (x : Int32) : SH := if q 2 k = 0 then uL h 6 (q 0 k) (gL h 6 (q 0 k) + (nI (q 4 k)).toInt64 * x.toInt64) else uA h 8 (4 * q 0 k + q 1 k) (gA h 8 (4 * q 0 k + q 1 k) + x)
def hldM (q : Nat → Nat → Nat) (t : SH) (k : Nat) (x : Int32) : SH := if q 2 k = 0 then uL t 2 (q 0 k) (gL t 2 (q 0 k) - (nI (q 4 k)).toInt64 * x.toInt64) else uA t 4 (4 * q 0 k + q 1 k) (gA t 4 (4 * q 0 k + q 1 k) - x)
section Hold
variable {h h' t t' : SH} {q q' : Nat → Nat → Nat} {Q : Nat → List Nat} {n nt B o : Nat}
/-- what hold and free look at of an order -/
def At5 (h t : SH) (q : Nat → Nat → Nat) (k : Nat) : Prop := k < 64 ∧ (gA h 12 k = nI (q 0 k) ∧ gA t 8 k = nI (q 0 k) ∧ q 0 k < 512) ∧ (gA h 13 k = nI (q 1 k) ∧ gA t 9 k = nI (q 1 k) ∧ q 1 k < 4) ∧ (gA h 14 k = nI (q 2 k) ∧ gA t 10 k = nI (q 2 k) ∧ q 2 k < 2) ∧ (gA h 16 k = nI (q 4 k) ∧ gA t 12 k = nI (q 4 k) ∧ 1 ≤ q 4 k ∧ q 4 k ≤ 10000)
theorem RelO.at5 (R : RelO h t q n nt o) (hn : n ≤ 64) {k : Nat} (hk : k < n) : At5 h t q k := by
  obtain ⟨a, b, c, -, d, -⟩ := R k hk
  exact ⟨by omega, a, b, c, d⟩
theorem At5.h_ {A I L : List Nat} {k : Nat} (R : At5 h t q k) (S : Sm h h' A I L) (hA : 12 ∉ A ∧ 13 ∉ A ∧ 14 ∉ A ∧ 16 ∉ A) : At5 h' t q k := by
  unfold At5
  rw [S.1 _ _ hA.1, S.1 _ _ hA.2.1, S.1 _ _ hA.2.2.1, S.1 _ _ hA.2.2.2]
  exact R
theorem At5.t_ {A I L : List Nat} {k : Nat} (R : At5 h t q k) (S : Sm t t' A I L) (hA : 8 ∉ A ∧ 9 ∉ A ∧ 10 ∉ A ∧ 12 ∉ A) : At5 h t' q k := by
  unfold At5
  rw [S.1 _ _ hA.1, S.1 _ _ hA.2.1, S.1 _ _ hA.2.2.1, S.1 _ _ hA.2.2.2]
  exact R
theorem hold_eq {k : Nat} (R : At5 h t q k) (x : Int32) : fX4_hold (nI k) x h = some ((), hldH q h k x) := by
  obtain ⟨hk, ⟨a1, -, a3⟩, ⟨b1, -, b3⟩, ⟨c1, -, c3⟩, ⟨d1, -, d3⟩⟩ := R
  have hk5 : k < 512 := by omega
  unfold fX4_hold fX4_hold_75 fX1_placeOf hldH
  rw [rda_n hk5, a1, rda_n hk5, c1]
  have hz : (nI (q 2 k) = 0) = (q 2 k = 0) := by rw [show (0 : Int32) = nI 0 by decide]; exact nI_eq' (by omega) (by decide)
  by_cases c : q 2 k = 0
  · rw [if_pos c, if_pos (by rw [hz]; exact c), rdl_n a3, rda_n hk5, d1, wrl_n a3]
  · rw [if_neg c, if_neg (by rw [hz]; exact c), rda_n hk5, b1, bnd_some, place_n, rda_n (show 4 * q 0 k + q 1 k < 2048 by omega), wra_n (show 4 * q 0 k + q 1 k < 2048 by omega)]
theorem free_eq {k : Nat} (R : At5 h t q k) (x : Int32) : fX5_free (nI k) x t = some ((), hldM q t k x) := by
  obtain ⟨hk, ⟨-, a1, a3⟩, ⟨-, b1, b3⟩, ⟨-, c1, c3⟩, ⟨-, d1, d3⟩⟩ := R
  have hk5 : k < 520 := by omega
  unfold fX5_free fX5_free_57 fX5_cell hldM
  rw [rda_n hk5, a1, rda_n hk5, c1]
  have hz : (nI (q 2 k) = 0) = (q 2 k = 0) := by rw [show (0 : Int32) = nI 0 by decide]; exact nI_eq' (by omega) (by decide)
  by_cases c : q 2 k = 0
  · rw [if_pos c, if_pos (by rw [hz]; exact c), rdl_n a3, rda_n hk5, d1, wrl_n a3]
  · rw [if_neg c, if_neg (by rw [hz]; exact c), rda_n hk5, b1, bnd_some, cell_n, rda_n (show 4 * q 0 k + q 1 k < 2048 by omega), wra_n (show 4 * q 0 k + q 1 k < 2048 by omega)]
theorem Sm_hldH {k : Nat} {x : Int32} : Sm h (hldH q h k x) [8] [] [6] := by
  unfold hldH
  by_cases c : q 2 k = 0
  · rw [if_pos c]
    exact ⟨fun _ _ _ => rfl, fun _ _ => rfl, Sm_uL.2.2⟩
  · rw [if_neg c]
    exact ⟨Sm_uA.1, fun _ _ => rfl, fun _ _ _ => rfl⟩
theorem Sm_hldM {k : Nat} {x : Int32} : Sm t (hldM q t k x) [4] [] [2] := by
  unfold hldM
  by_cases c : q 2 k = 0
  · rw [if_pos c]
    exact ⟨fun _ _ _ => rfl, fun _ _ => rfl, Sm_uL.2.2⟩
  · rw [if_neg c]
    exact ⟨Sm_uA.1, fun _ _ => rfl, fun _ _ _ => rfl⟩
theorem toL_neg {a : Nat} (h : a < 2 ^ 31) : (-nI a).toInt64 = -(nI a).toInt64 := by
  apply Int64.toInt_inj.mp
  have h1 := nI_toInt h
  have h2 : (-nI a).toInt = -(a : Int) := by rw [fb_negI (by omega), h1]
  have h3 : (nI a).toInt64.toInt = a := by rw [Int32.toInt_toInt64, h1]
  rw [Int32.toInt_toInt64, h2, Int64.toInt_neg, h3, fb_bmodL (by omega) (by omega)]
theorem hold_num (g p : Int64) {a : Nat} (h : a < 2 ^ 31) : g + p * (-nI a).toInt64 = g - p * (nI a).toInt64 := by
  rw [toL_neg h, Int64.mul_neg, Int64.sub_eq_add_neg]
/-- holding less on both sides -/
theorem RelC_hold (R : RelC h t) {k a : Nat} (ha : a < 2 ^ 31) (hq : q 0 k < 512) : RelC (hldH q h k (-nI a)) (hldM q t k (nI a)) := by
  unfold hldH hldM
  by_cases c : q 2 k = 0
  · rw [if_pos c, if_pos c]
    refine ⟨fun b hb => ?_, R.2⟩
    obtain ⟨h1, h2, h3, h4⟩ := R.1 b hb
    obtain ⟨-, g2, -, -⟩ := R.1 (q 0 k) hq
    refine ⟨?_, ?_, h3, h4⟩
    · rw [gL_uL, gL_uL]; simpa using h1
    · rw [gL_uL, gL_uL, g2, hold_num _ _ ha]
      by_cases e : b = q 0 k <;> simp [e, h2]
  · rw [if_neg c, if_neg c]
    exact ⟨fun b hb => R.1 b hb, R.2⟩
theorem RelH_hold (R : RelH h t B) {k a : Nat} (hq : 4 * q 0 k + q 1 k < 2048) : RelH (hldH q h k (-nI a)) (hldM q t k (nI a)) B := by
  unfold hldH hldM
  by_cases c : q 2 k = 0
  · rw [if_pos c, if_pos c]
    exact R
  · rw [if_neg c, if_neg c]
    intro i hi
    obtain ⟨h1, h2, h3, h4, h5, h6⟩ := R i hi
    obtain ⟨-, g2, -⟩ := R _ hq
    simp only [gA_uA]
    refine ⟨by simpa using h1, ?_, by simpa using h3, by simpa using h4, by simpa using h5, by simpa using h6⟩
    rw [g2, ← Int32.sub_eq_add_neg]
    by_cases e : i = 4 * q 0 k + q 1 k <;> simp [e, h2]
/-- .. and more on both sides (a new order) -/
theorem RelC_holdP (R : RelC h t) {k a : Nat} (ha : a < 2 ^ 31) (hq : q 0 k < 512) : RelC (hldH q h k (nI a)) (hldM q t k (-nI a)) := by
  unfold hldH hldM
  by_cases c : q 2 k = 0
  · rw [if_pos c, if_pos c]
    refine ⟨fun b hb => ?_, R.2⟩
    obtain ⟨h1, h2, h3, h4⟩ := R.1 b hb
    obtain ⟨-, g2, -, -⟩ := R.1 (q 0 k) hq
    refine ⟨?_, ?_, h3, h4⟩
    · rw [gL_uL, gL_uL]; simpa using h1
    · rw [gL_uL, gL_uL, g2, toL_neg ha, Int64.mul_neg, Int64.sub_neg]
      by_cases e : b = q 0 k <;> simp [e, h2]
  · rw [if_neg c, if_neg c]
    exact ⟨fun b hb => R.1 b hb, R.2⟩
theorem RelH_holdP (R : RelH h t B) {k a : Nat} (hq : 4 * q 0 k + q 1 k < 2048) : RelH (hldH q h k (nI a)) (hldM q t k (-nI a)) B := by
  unfold hldH hldM
  by_cases c : q 2 k = 0
  · rw [if_pos c, if_pos c]
    exact R
  · rw [if_neg c, if_neg c]
    intro i hi
    obtain ⟨h1, h2, h3, h4, h5, h6⟩ := R i hi
    obtain ⟨-, g2, -⟩ := R _ hq
    simp only [gA_uA]
    refine ⟨by simpa using h1, ?_, by simpa using h3, by simpa using h4, by simpa using h5, by simpa using h6⟩
    rw [g2, Int32.sub_neg]
    by_cases e : i = 4 * q 0 k + q 1 k <;> simp [e, h2]
end Hold
