/-! ===== order ===== -/
def nq (q : Nat → Nat → Nat) (n a s d kd p am x9 : Nat) : Nat → Nat → Nat := fun f k => if k = n then (if f = 0 then a else if f = 1 then s else if f = 2 then d else if f = 3 then kd else if f = 4 then p else if f = 5 then am else if f = 7 then 3 else if f = 9 then x9 else 0) else q f k
def tkA (h : SH) (n a s d kd p am : Nat) (x : Int32) : SH := uA (uA (uA (uA (uA (uA (uA (uA h 12 n (nI a)) 13 n (nI s)) 14 n (nI d)) 15 n (nI kd)) 16 n (nI p)) 17 n x) 18 n (nI am)) 20 n 1
def tkM (t : SH) (n a s d kd p am : Nat) (x : Int32) : SH := uA (uA (uA (uA (uA (uA (uA (uA (si t 2 (nI (n + 1))) 8 n (nI a)) 9 n (nI s)) 10 n (nI d)) 11 n (nI kd)) 12 n (nI p)) 13 n (nI am)) 15 n x) 16 n 3
def tkH (h : SH) (n a s d kd p am C : Nat) (x : Int32) : SH := si (si (tkA h n a s d kd p am x) 2 (nI (n + 1))) 3 (nI (C + 1))
section Order
variable {h h' h1 h2 t t' t1 t2 tt : SH} {q q' v : Nat → Nat → Nat} {Q Q' : Nat → List Nat} {n nt nt' B B' o o' k j a b d m l s i kd p am x9 C : Nat} {x : Int32}
theorem Sm_tkA : Sm h (tkA h n a s d kd p am x) [12, 13, 14, 15, 16, 17, 18, 20] [] [] := ((((((Sm_uA.tr Sm_uA).tr Sm_uA).tr Sm_uA).tr Sm_uA).tr Sm_uA).tr Sm_uA).tr Sm_uA
theorem Sm_tkM : Sm t (tkM t n a s d kd p am x) [8, 9, 10, 11, 12, 13, 15, 16] [2] [] := (((((((Sm_si.tr Sm_uA).tr Sm_uA).tr Sm_uA).tr Sm_uA).tr Sm_uA).tr Sm_uA).tr Sm_uA).tr Sm_uA
theorem Sm_tkH : Sm h (tkH h n a s d kd p am C x) [12, 13, 14, 15, 16, 17, 18, 20] [2, 3] [] := (Sm_tkA.tr Sm_si).tr Sm_si
theorem tkH_ne {r : Nat} (hk : k ≠ n) : gA (tkH h n a s d kd p am C x) r k = gA h r k := by
  unfold tkH tkA
  rw [gA_si, gA_si, gA_uA_ne hk, gA_uA_ne hk, gA_uA_ne hk, gA_uA_ne hk, gA_uA_ne hk, gA_uA_ne hk, gA_uA_ne hk, gA_uA_ne hk]
theorem tkM_ne {r : Nat} (hk : k ≠ n) : gA (tkM t n a s d kd p am x) r k = gA t r k := by
  unfold tkM
  rw [gA_uA_ne hk, gA_uA_ne hk, gA_uA_ne hk, gA_uA_ne hk, gA_uA_ne hk, gA_uA_ne hk, gA_uA_ne hk, gA_uA_ne hk, gA_si]
theorem nq_ne {f : Nat} (hk : k ≠ n) : nq q n a s d kd p am x9 f k = q f k := by unfold nq; rw [if_neg hk]
theorem nq_n {f : Nat} : nq q n a s d kd p am x9 f n = (if f = 0 then a else if f = 1 then s else if f = 2 then d else if f = 3 then kd else if f = 4 then p else if f = 5 then am else if f = 7 then 3 else if f = 9 then x9 else 0) := by unfold nq; rw [if_pos rfl]
theorem take_eq (g2 : gi h 2 = nI n) (g3 : gi h 3 = nI C) (hn : n < 512) : fX2_take (nI a) (nI s) (nI d) (nI kd) (nI p) (nI am) x h = some (nI n, tkH h n a s d kd p am C x) := by
  unfold fX2_take
  rw [rdi_n, g2, wra_n hn, wra_n hn, wra_n hn, wra_n hn, wra_n hn, wra_n hn, wra_n hn, wra_n hn, rdi_n]
  simp only [gi_uA, g2, nI_1, wri_n, rdi_n]
  rw [show gi (si (uA (uA (uA (uA (uA (uA (uA (uA h 12 n (nI a)) 13 n (nI s)) 14 n (nI d)) 15 n (nI kd)) 16 n (nI p)) 17 n x) 18 n (nI am)) 20 n 1) 2 (nI (n + 1))) 3 = nI C from g3, nI_1]
  rfl
theorem Rel_take (R : Rel h t q Q n nt B o) (ho : n ≤ o) (hn : n + 1 ≤ 64) (ha : a < 512) (hs : s < 4) (hd : d < 2) (hk : kd ≤ 5) (hp : 1 ≤ p ∧ p ≤ 10000) (ham : 1 ≤ am ∧ am ≤ 10000) (hx : (kd = 4 ∨ kd = 5) → x = nI x9 ∧ 1 ≤ x9 ∧ x9 ≤ 10000) (hC : C = cnt (isThereQ q o) n) :
    Rel (hldH (nq q n a s d kd p am x9) (tkH h n a s d kd p am C x) n (nI am)) (hldM (nq q n a s d kd p am x9) (tkM t n a s d kd p am x) n (-nI am)) (nq q n a s d kd p am x9) Q (n + 1) nt B n := by
  obtain ⟨RS, RC, RH, RP, RO, RB, RT⟩ := R
  have n0 : nq q n a s d kd p am x9 0 n = a := nq_n
  have n1 : nq q n a s d kd p am x9 1 n = s := nq_n
  have HH : ∀ (z : SH) r i, r ≠ 8 → gA (hldH (nq q n a s d kd p am x9) z n (nI am)) r i = gA z r i := fun z r i hr => Sm_hldH.1 r i (by simp [hr])
  have HM : ∀ (z : SH) r i, r ≠ 4 → gA (hldM (nq q n a s d kd p am x9) z n (-nI am)) r i = gA z r i := fun z r i hr => Sm_hldM.1 r i (by simp [hr])
  obtain ⟨a1, a2, a3, a4, a5, ⟨a6, a7⟩, ⟨τ, b1, b2, b3⟩, T, c1, c2, c3, c4⟩ := RS
  refine ⟨⟨hn, a2, ?_, ?_, ?_, ⟨a6, fun i h1 h2 => ?_⟩, ⟨τ, b1, ?_, ?_⟩, T, c1, ?_, ?_, fun i h1 h2 => ?_⟩, ?_, ?_, ?_, fun k hkn => ?_, fun b hb => ?_, ?_⟩
  · rw [Sm_hldH.2.1 _ (by decide)]; rfl
  · rw [Sm_hldM.2.1 _ (by decide)]; rfl
  · rw [Sm_hldM.2.1 _ (by decide), Sm_tkM.2.1 _ (by decide)]; exact a5
  · rw [HH _ 19 i (by decide), HH _ 21 i (by decide), HH _ 22 i (by decide), HM _ 14 i (by decide), HM _ 17 i (by decide), HM _ 18 i (by decide), Sm_tkH.1 19 i (by decide), Sm_tkH.1 21 i (by decide), Sm_tkH.1 22 i (by decide), Sm_tkM.1 14 i (by decide), Sm_tkM.1 17 i (by decide), Sm_tkM.1 18 i (by decide)]
    exact a7 i (by omega) h2
  · rw [Sm_hldH.2.1 _ (by decide), Sm_tkH.2.1 _ (by decide)]; exact b2
  · rw [Sm_hldM.2.1 _ (by decide), Sm_tkM.2.1 _ (by decide)]; exact b3
  · rw [Sm_hldH.2.1 _ (by decide), Sm_tkH.2.1 _ (by decide)]; exact c2
  · rw [Sm_hldM.2.1 _ (by decide), Sm_tkM.2.1 _ (by decide)]; exact c3
  · rw [HH _ 25 i (by decide), HH _ 26 i (by decide), HH _ 27 i (by decide), HH _ 28 i (by decide), HM _ 23 _ (by decide), HM _ 23 _ (by decide), HM _ 23 _ (by decide), HM _ 23 _ (by decide), Sm_tkH.1 25 i (by decide), Sm_tkH.1 26 i (by decide), Sm_tkH.1 27 i (by decide), Sm_tkH.1 28 i (by decide), Sm_tkM.1 23 _ (by decide), Sm_tkM.1 23 _ (by decide), Sm_tkM.1 23 _ (by decide), Sm_tkM.1 23 _ (by decide)]
    exact c4 i h1 h2
  · exact RelC_holdP ((RC.h_ Sm_tkH (by decide) (by decide) (by decide)).t_ Sm_tkM (by decide) (by decide)) (by omega) (by rw [n0]; exact ha)
  · exact RelH_holdP ((RH.h_ Sm_tkH (by decide)).t_ Sm_tkM (by decide)) (by rw [n0, n1]; omega)
  · exact (RP.h_ (Sm_tkH.tr Sm_hldH) (by decide)).t_ (Sm_tkM.tr Sm_hldM) (by decide)
  · by_cases c : k = n
    · subst c
      obtain ⟨⟨y1, y2, y3⟩, y4, y5, y6⟩ := a7 k (Nat.le_refl _) (by omega)
      have H12 : gA (hldH (nq q k a s d kd p am x9) (tkH h k a s d kd p am C x) k (nI am)) 12 k = nI a := by rw [HH _ 12 k (by decide)]; unfold tkH tkA; simp [gA_si, gA_uA]
      have H13 : gA (hldH (nq q k a s d kd p am x9) (tkH h k a s d kd p am C x) k (nI am)) 13 k = nI s := by rw [HH _ 13 k (by decide)]; unfold tkH tkA; simp [gA_si, gA_uA]
      have H14 : gA (hldH (nq q k a s d kd p am x9) (tkH h k a s d kd p am C x) k (nI am)) 14 k = nI d := by rw [HH _ 14 k (by decide)]; unfold tkH tkA; simp [gA_si, gA_uA]
      have H15 : gA (hldH (nq q k a s d kd p am x9) (tkH h k a s d kd p am C x) k (nI am)) 15 k = nI kd := by rw [HH _ 15 k (by decide)]; unfold tkH tkA; simp [gA_si, gA_uA]
      have H16 : gA (hldH (nq q k a s d kd p am x9) (tkH h k a s d kd p am C x) k (nI am)) 16 k = nI p := by rw [HH _ 16 k (by decide)]; unfold tkH tkA; simp [gA_si, gA_uA]
      have H17 : gA (hldH (nq q k a s d kd p am x9) (tkH h k a s d kd p am C x) k (nI am)) 17 k = x := by rw [HH _ 17 k (by decide)]; unfold tkH tkA; simp [gA_si, gA_uA]
      have H18 : gA (hldH (nq q k a s d kd p am x9) (tkH h k a s d kd p am C x) k (nI am)) 18 k = nI am := by rw [HH _ 18 k (by decide)]; unfold tkH tkA; simp [gA_si, gA_uA]
      have H20 : gA (hldH (nq q k a s d kd p am x9) (tkH h k a s d kd p am C x) k (nI am)) 20 k = 1 := by rw [HH _ 20 k (by decide)]; unfold tkH tkA; simp [gA_si, gA_uA]
      have M8 : gA (hldM (nq q k a s d kd p am x9) (tkM t k a s d kd p am x) k (-nI am)) 8 k = nI a := by rw [HM _ 8 k (by decide)]; unfold tkM; simp [gA_si, gA_uA]
      have M9 : gA (hldM (nq q k a s d kd p am x9) (tkM t k a s d kd p am x) k (-nI am)) 9 k = nI s := by rw [HM _ 9 k (by decide)]; unfold tkM; simp [gA_si, gA_uA]
      have M10 : gA (hldM (nq q k a s d kd p am x9) (tkM t k a s d kd p am x) k (-nI am)) 10 k = nI d := by rw [HM _ 10 k (by decide)]; unfold tkM; simp [gA_si, gA_uA]
      have M11 : gA (hldM (nq q k a s d kd p am x9) (tkM t k a s d kd p am x) k (-nI am)) 11 k = nI kd := by rw [HM _ 11 k (by decide)]; unfold tkM; simp [gA_si, gA_uA]
      have M12 : gA (hldM (nq q k a s d kd p am x9) (tkM t k a s d kd p am x) k (-nI am)) 12 k = nI p := by rw [HM _ 12 k (by decide)]; unfold tkM; simp [gA_si, gA_uA]
      have M13 : gA (hldM (nq q k a s d kd p am x9) (tkM t k a s d kd p am x) k (-nI am)) 13 k = nI am := by rw [HM _ 13 k (by decide)]; unfold tkM; simp [gA_si, gA_uA]
      have M15 : gA (hldM (nq q k a s d kd p am x9) (tkM t k a s d kd p am x) k (-nI am)) 15 k = x := by rw [HM _ 15 k (by decide)]; unfold tkM; simp [gA_si, gA_uA]
      have M16 : gA (hldM (nq q k a s d kd p am x9) (tkM t k a s d kd p am x) k (-nI am)) 16 k = 3 := by rw [HM _ 16 k (by decide)]; unfold tkM; simp [gA_si, gA_uA]
      have H19 : gA (hldH (nq q k a s d kd p am x9) (tkH h k a s d kd p am C x) k (nI am)) 19 k = 0 := by rw [HH _ 19 k (by decide), Sm_tkH.1 19 k (by decide)]; exact y1
      have H21 : gA (hldH (nq q k a s d kd p am x9) (tkH h k a s d kd p am C x) k (nI am)) 21 k = 0 := by rw [HH _ 21 k (by decide), Sm_tkH.1 21 k (by decide)]; exact y2
      have H22 : gA (hldH (nq q k a s d kd p am x9) (tkH h k a s d kd p am C x) k (nI am)) 22 k = 0 := by rw [HH _ 22 k (by decide), Sm_tkH.1 22 k (by decide)]; exact y3
      have M14 : gA (hldM (nq q k a s d kd p am x9) (tkM t k a s d kd p am x) k (-nI am)) 14 k = 0 := by rw [HM _ 14 k (by decide), Sm_tkM.1 14 k (by decide)]; exact y4
      have M17 : gA (hldM (nq q k a s d kd p am x9) (tkM t k a s d kd p am x) k (-nI am)) 17 k = 0 := by rw [HM _ 17 k (by decide), Sm_tkM.1 17 k (by decide)]; exact y5
      have M18 : gA (hldM (nq q k a s d kd p am x9) (tkM t k a s d kd p am x) k (-nI am)) 18 k = 0 := by rw [HM _ 18 k (by decide), Sm_tkM.1 18 k (by decide)]; exact y6
      have n2 : nq q k a s d kd p am x9 2 k = d := nq_n
      have n3 : nq q k a s d kd p am x9 3 k = kd := nq_n
      have n4 : nq q k a s d kd p am x9 4 k = p := nq_n
      have n5 : nq q k a s d kd p am x9 5 k = am := nq_n
      have n6 : nq q k a s d kd p am x9 6 k = 0 := nq_n
      have n7 : nq q k a s d kd p am x9 7 k = 3 := nq_n
      have n9 : nq q k a s d kd p am x9 9 k = x9 := nq_n
      have n10 : nq q k a s d kd p am x9 10 k = 0 := nq_n
      unfold RelO1
      rw [if_pos rfl, n0, n1, n2, n3, n4, n5, n6, n7, n9, n10, H17, M15]
      exact ⟨⟨H12, M8, ha⟩, ⟨H13, M9, hs⟩, ⟨H14, M10, hd⟩, ⟨H15, M11, hk⟩, ⟨H16, M12, hp⟩, ⟨H18, M13, ham.2⟩, ⟨H19, M14, by omega⟩, ⟨H20, M16, by omega⟩, ⟨rfl, hx⟩, ⟨H21, M17, by omega⟩, H22.trans M18.symm, fun z => by omega, fun z => by omega, fun _ => ⟨rfl, fun z => absurd rfl z⟩, fun _ => rfl⟩
    · exact (RO k (by omega)).same (fun r z1 z2 => by rw [HH _ r k (by omega), tkH_ne c]) (fun r z1 z2 => by rw [HM _ r k (by omega), tkM_ne c]) (fun f => nq_ne c) (Nat.le_refl _) ⟨fun z => by omega, fun z => absurd z c⟩
  · obtain ⟨r1, r2, r3, r4⟩ := RB b hb
    have hmem : ∀ k, k ∈ Q b → k < n := fun k hk => ((r3.2 k).mp hk).1
    refine ⟨?_, fun i hi => ?_, ⟨r3.1, fun k => ?_⟩, ?_⟩
    · rw [HH _ 24 b (by decide), Sm_tkH.1 24 b (by decide)]; exact r1
    · rw [HH _ 23 _ (by decide), Sm_tkH.1 23 _ (by decide)]; exact r2 i hi
    · rw [r3.2 k]
      by_cases c : k = n
      · subst c
        have : inBook (nq q k a s d kd p am x9) b k = false := by unfold inBook; rw [nq_n]; rfl
        rw [this]
        constructor
        · rintro ⟨z, -⟩; omega
        · rintro ⟨-, z⟩; cases z
      · have : inBook (nq q n a s d kd p am x9) b k = inBook q b k := by unfold inBook; rw [nq_ne c, nq_ne c, nq_ne c]
        rw [this]
        constructor
        · rintro ⟨z1, z2⟩; exact ⟨by omega, z2⟩
        · rintro ⟨z1, z2⟩; exact ⟨by omega, z2⟩
    · refine r4.imp_of_mem (fun {i j} hi hj z => ?_)
      have h1 := hmem i hi
      have h2 := hmem j hj
      rw [qlt_congr (q := q) (nq_ne (by omega)) (nq_ne (by omega)) (nq_ne (by omega)) (nq_ne (by omega))]
      exact z
  · rw [Sm_hldH.2.1 _ (by decide)]
    show nI (C + 1) = nI (cnt (isThereQ (nq q n a s d kd p am x9) n) n + (if isThereQ (nq q n a s d kd p am x9) n n = true then 1 else 0))
    have e1 : isThereQ (nq q n a s d kd p am x9) n n = true := by unfold isThereQ; simp
    have e2 : cnt (isThereQ (nq q n a s d kd p am x9) n) n = C := by
      rw [hC]
      refine cnt_congr (fun k hk => ?_)
      unfold isThereQ
      rw [nq_ne (show k ≠ n by omega)]
      simp [show ¬ k = n by omega, show ¬ k = o by omega]
    rw [if_pos e1, e2]
end Order
