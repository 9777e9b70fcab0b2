/-! ===== how it begins ===== -/
theorem cnt_zero {p : Nat → Bool} : ∀ {n : Nat}, (∀ k, k < n → p k = false) → cnt p n = 0
  | 0, _ => rfl
  | n + 1, h => by rw [cnt_s, cnt_zero (fun k hk => h k (by omega)), h n (by omega)]; rfl
theorem nI_z : (0 : Int32) = nI 0 := by decide
theorem Rel_start : Rel z00 z00 (fun _ _ => 0) (fun _ => []) 0 0 0 0 := by
  refine ⟨⟨by omega, by omega, nI_z, nI_z, nI_z, ⟨Nat.le_refl _, fun k _ _ => ⟨⟨rfl, rfl, rfl⟩, rfl, rfl, rfl⟩⟩, ⟨0, Nat.le_refl _, nI_z, nI_z⟩, 0, Nat.le_refl _, nI_z, nI_z, fun i h _ => by omega⟩, ⟨fun a _ => ⟨rfl, rfl, rfl, .inl rfl⟩, ?_⟩, fun i _ => ⟨rfl, rfl, rfl, rfl, by show (-(0 : Nat) : Int) ≤ (0 : Int32).toInt; decide, by show (0 : Int32).toInt ≤ ((0 : Nat) : Int); decide⟩, fun s _ => ⟨rfl, rfl, rfl, rfl, 0, 0, 0, by omega, by omega, by omega, nI_z, nI_z, nI_z, Iff.rfl, Iff.rfl⟩, fun k hk => by omega, fun b _ => ⟨nI_z, fun i hi => absurd hi (Nat.not_lt_zero _), ⟨List.nodup_nil, fun k => ⟨fun h => (by cases h), fun h => absurd h.1 (Nat.not_lt_zero _)⟩⟩, List.Pairwise.nil⟩, nI_z⟩
  show (0 : Int32) = nI (cnt (fun a => decide (gA z00 7 a = 1)) 512)
  rw [cnt_zero (fun k _ => by show decide ((0 : Int32) = 1) = false; decide)]
  exact nI_z
theorem vaD_fst {A : Nat → Prop} {a b : va_W} (h : a.map Prod.fst = b.map Prod.fst) (hD : va_D A a) : va_D A b := by
  have at1 : ∀ (k : Nat) (q : Nat × va_E), b[k]? = some q → ∃ e1, a[k]? = some (q.1, e1) := by
    intro k q hk
    have h1 : (b.map Prod.fst)[k]? = some q.1 := by rw [List.getElem?_map, hk]; rfl
    rw [← h, List.getElem?_map] at h1
    cases h2 : a[k]? with
    | none => rw [h2] at h1; cases h1
    | some z => rw [h2] at h1; exact ⟨z.2, by rw [← Option.some.inj h1]⟩
  refine ⟨fun i j x y hi hj hxy => ?_, fun k q hk => ?_⟩
  · obtain ⟨e1, h1⟩ := at1 i x hi
    obtain ⟨e2, h2⟩ := at1 j y hj
    exact hD.1 i j _ _ h1 h2 hxy
  · obtain ⟨e1, h1⟩ := at1 k q hk
    exact hD.2 k (q.1, e1) h1
def lwF : List Cond := flatC (Jvm.Cond.and given_1 narrow_1)
section Start
variable {s : State} {b : Nat}
set_option maxRecDepth 200000 in
set_option maxHeartbeats 4000000 in
theorem txt_all (hts : ∀ w ∈ lw_tbl, w.before #[Value.ref b] s = true) (hfs : ∀ w ∈ lwF, w.before #[Value.ref b] s = true) : ∀ q ∈ txtL, ∃ a, vk_R RX4 q.1 q.2 a s := by
  have one : ∀ (k i j : Nat) (tx : String), lw_tbl[i]? = some (.stringRef RX4 k tx) → lwF[j]? = some (.exactly (.string RX4 k) "java/lang/String") → ∃ a, vk_R RX4 k tx a s := by
    intro k i j tx h1 h2
    obtain ⟨a, -, -, -, ha, -⟩ := Cond.exactly_spec (hfs _ (List.mem_of_getElem? h2))
    exact ⟨a, vk_R.of (hts _ (List.mem_of_getElem? h1)) ha⟩
  intro q hq
  simp only [txtL, List.mem_cons, List.not_mem_nil, or_false] at hq
  rcases hq with rfl | rfl | rfl | rfl | rfl | rfl | rfl | rfl | rfl | rfl | rfl | rfl | rfl | rfl | rfl | rfl | rfl | rfl | rfl | rfl | rfl | rfl | rfl | rfl | rfl | rfl | rfl | rfl
  · exact one 60 349 97 _ rfl rfl
  · exact one 72 371 137 _ rfl rfl
  · exact one 86 387 192 _ rfl rfl
  · exact one 95 405 259 _ rfl rfl
  · exact one 103 406 292 _ rfl rfl
  · exact one 134 534 419 _ rfl rfl
  · exact one 137 535 438 _ rfl rfl
  · exact one 147 543 468 _ rfl rfl
  · exact one 149 544 491 _ rfl rfl
  · exact one 166 570 520 _ rfl rfl
  · exact one 181 599 541 _ rfl rfl
  · exact one 193 612 567 _ rfl rfl
  · exact one 207 620 597 _ rfl rfl
  · exact one 209 628 628 _ rfl rfl
  · exact one 220 636 655 _ rfl rfl
  · exact one 231 644 682 _ rfl rfl
  · exact one 239 652 712 _ rfl rfl
  · exact one 241 660 738 _ rfl rfl
  · exact one 253 661 764 _ rfl rfl
  · exact one 267 669 794 _ rfl rfl
  · exact one 275 686 825 _ rfl rfl
  · exact one 277 292 42 _ rfl rfl
  · exact one 279 382 165 _ rfl rfl
  · exact one 281 398 234 _ rfl rfl
  · exact one 283 332 70 _ rfl rfl
  · exact one 285 512 321 _ rfl rfl
  · exact one 287 513 349 _ rfl rfl
  · exact one 289 522 384 _ rfl rfl
theorem txt_one : ∀ q ∈ txtL, ∀ r ∈ txtL, q.1 = r.1 → q = r := by decide +kernel
theorem sx_all (hts : ∀ w ∈ lw_tbl, w.before #[Value.ref b] s = true) (hfs : ∀ w ∈ lwF, w.before #[Value.ref b] s = true) : ∃ sx : Nat → Nat, ∀ q ∈ txtL, vk_R RX4 q.1 q.2 (sx q.1) s := by
  have h := txt_all hts hfs
  refine ⟨fun i => Classical.epsilon (fun a => ∃ q ∈ txtL, q.1 = i ∧ vk_R RX4 q.1 q.2 a s), fun q hq => ?_⟩
  obtain ⟨a, ha⟩ := h q hq
  obtain ⟨r, r1, r2, r3⟩ := Classical.epsilon_spec (p := fun a => ∃ r ∈ txtL, r.1 = q.1 ∧ vk_R RX4 r.1 r.2 a s) ⟨a, q, hq, rfl, ha⟩
  have e := txt_one r r1 q hq r2
  subst e
  exact r3
set_option maxRecDepth 200000 in
set_option maxHeartbeats 4000000 in
theorem thY_start (hts : ∀ w ∈ lw_tbl, w.before #[Value.ref b] s = true) (hfs : ∀ w ∈ lwF, w.before #[Value.ref b] s = true) : ∃ sx : Nat → Nat, thY sx (lwA s) s := by
  have T : ∀ (i : Nat) (w : Cond), lw_tbl[i]? = some w → w.before #[Value.ref b] s = true := fun i w h => hts w (List.mem_of_getElem? h)
  have G : ∀ (i : Nat) (w : Cond), lwF[i]? = some w → w.before #[Value.ref b] s = true := fun i w h => hfs w (List.mem_of_getElem? h)
  obtain ⟨sx, hsx⟩ := sx_all hts hfs
  refine ⟨sx, ⟨vx_Zqof (T 277 _ rfl) (T 40 _ rfl) (G 4 _ rfl) (fun a h1 h2 => absurd h1 (Nat.not_lt.mpr h2)), vx_Zqof (T 279 _ rfl) (T 40 _ rfl) (G 5 _ rfl) (fun a h1 h2 => absurd h1 (Nat.not_lt.mpr h2)), hsx, fun x hx => ?_⟩, fun q hq => ?_⟩
  · refine va_Nw.of (thBad_ot x hx) (A := #[Value.ref b]) ?_
    simp only [thBad, List.mem_cons, List.not_mem_nil, or_false] at hx
    rcases hx with rfl | rfl | rfl | rfl | rfl | rfl | rfl
    · exact T 252 _ rfl
    · exact T 325 _ rfl
    · exact T 342 _ rfl
    · exact T 563 _ rfl
    · exact T 254 _ rfl
    · exact T 256 _ rfl
    · exact T 258 _ rfl
  · simp only [ncL, List.mem_cons, List.not_mem_nil, or_false] at hq
    rcases hq with rfl | rfl | rfl | rfl | rfl
    · exact va_Nc.of (G 12 _ rfl)
    · exact va_Nc.of (G 13 _ rfl)
    · exact va_Nc.of (G 22 _ rfl)
    · exact va_Nc.of (G 14 _ rfl)
    · exact va_Nc.of (G 23 _ rfl)
set_option maxRecDepth 200000 in
set_option maxHeartbeats 4000000 in
theorem nest_start (hts : ∀ w ∈ lw_tbl, w.before #[Value.ref b] s = true) : nestW s := by
  have T : ∀ (i : Nat) (w : Cond), lw_tbl[i]? = some w → w.before #[Value.ref b] s = true := fun i w h => hts w (List.mem_of_getElem? h)
  exact ⟨va_Nw.of rfl (T 58 _ rfl), va_Nw.of rfl (T 99 _ rfl), va_Nw.of rfl (T 180 _ rfl)⟩
theorem arr_K {ty : FieldType} (hp : ∀ C, ty ≠ .object C) (h : (Cond.arrayClass ty).before #[Value.ref b] s = true) : ∃ cA, ArrOfT s cA ty ∧ va_RA s cA ty := by
  obtain ⟨cA, kA, comp, h1, h2, h3⟩ := Cond.arrayClass_spec h
  refine ⟨cA, fun n z => ⟨fun k h => (by cases h), kA, h2, comp, h3⟩, ?_⟩
  cases ty <;> first | exact absurd rfl (hp _) | exact h1
set_option maxRecDepth 200000 in
set_option maxHeartbeats 4000000 in
theorem K_start (hts : ∀ w ∈ lw_tbl, w.before #[Value.ref b] s = true) : ∃ (D : va_G) (cI cJ cZ : ClassId), va_K D vwCl (tyl cI cJ cZ) s := by
  have T : ∀ (i : Nat) (w : Cond), lw_tbl[i]? = some w → w.before #[Value.ref b] s = true := fun i w h => hts w (List.mem_of_getElem? h)
  obtain ⟨c0, i0, k0⟩ := u_known (C := RX0) (T := TX0) (N := 3) hts (fun w h => (gT_wsX00 w h).1) (T 162 _ rfl)
  obtain ⟨c1, i1, k1⟩ := u_known (C := RX1) (T := TX1) (N := 8) hts (fun w h => (gT_wsX10 w h).1) (T 57 _ rfl)
  obtain ⟨c2, i2, k2⟩ := u_known (C := RX2) (T := TX2) (N := 13) hts (fun w h => (gT_wsX20 w h).1) (T 98 _ rfl)
  obtain ⟨c3, i3, k3⟩ := u_known (C := RX3) (T := TX3) (N := 9) hts (fun w h => (gT_wsX30 w h).1) (T 179 _ rfl)
  obtain ⟨c4, i4, k4⟩ := u_known (C := RX4) (T := TX4) (N := 5) hts (fun w h => (gT_wsX40 w h).1) (T 49 _ rfl)
  obtain ⟨c5, i5, k5⟩ := u_known (C := RX5) (T := TX5) (N := 32) hts (fun w h => (gT_wsX50 w h).1) (T 688 _ rfl)
  obtain ⟨cI, a1, a2⟩ := arr_K (ty := .int) (fun _ h => by cases h) (T 95 _ rfl)
  obtain ⟨cJ, a3, a4⟩ := arr_K (ty := .long) (fun _ h => by cases h) (T 94 _ rfl)
  obtain ⟨cZ, a5, a6⟩ := arr_K (ty := .boolean) (fun _ h => by cases h) (T 96 _ rfl)
  refine ⟨(fun k => [c0, c1, c2, c3, c4, c5].getD k 0, fun k => [i0, i1, i2, i3, i4, i5].getD k (fun _ => 0)), cI, cJ, cZ, fun k q hq => ?_, fun k q hq => ?_⟩
  · match k, hq with
    | 0, hq => cases hq; exact k0
    | 1, hq => cases hq; exact k1
    | 2, hq => cases hq; exact k2
    | 3, hq => cases hq; exact k3
    | 4, hq => cases hq; exact k4
    | 5, hq => cases hq; exact k5
    | n + 6, hq => cases hq
  · match k, hq with
    | 0, hq => cases hq; exact ⟨a1, a2⟩
    | 1, hq => cases hq; exact ⟨a3, a4⟩
    | 2, hq => cases hq; exact ⟨a5, a6⟩
    | n + 3, hq => cases hq
end Start
