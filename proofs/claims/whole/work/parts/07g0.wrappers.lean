/-! ===== the wrappers ===== -/
theorem c3_ne {E : String} (h : c3 E ≠ 0) : E = eIdx ∨ E = eArg ∨ E = eSta := by
  unfold c3 at h
  by_cases a : E = eIdx
  · exact .inl a
  · by_cases b : E = eArg
    · exact .inr (.inl b)
    · by_cases c : E = eSta
      · exact .inr (.inr c)
      · rw [if_neg a, if_neg b, if_neg c] at h; exact absurd rfl h
theorem cB_ne {E : String} (h : cB E ≠ 0) : E = eIdx ∨ E = eArg ∨ E = eNo := by
  unfold cB at h
  by_cases a : E = eIdx
  · exact .inl a
  · by_cases b : E = eArg
    · exact .inr (.inl b)
    · by_cases c : E = eNo
      · exact .inr (.inr c)
      · rw [if_neg a, if_neg b, if_neg c] at h; exact absurd rfl h
theorem c2_ne {E : String} (h : c2 E ≠ 0) : E = eIdx ∨ E = eArg := by
  unfold c2 at h
  by_cases a : E = eIdx
  · exact .inl a
  · by_cases b : E = eArg
    · exact .inr b
    · rw [if_neg a, if_neg b] at h; exact absurd rfl h
theorem cA_ne {E : String} (h : cA E ≠ 0) : E = eIdx ∨ E = eNo := by
  unfold cA at h
  by_cases a : E = eIdx
  · exact .inl a
  · by_cases b : E = eNo
    · exact .inr b
    · rw [if_neg a, if_neg b] at h; exact absurd rfl h
theorem c1_ne {E : String} (h : c1 E ≠ 0) : E = eArg := by
  unfold c1 at h
  by_cases a : E = eArg
  · exact a
  · rw [if_neg a] at h; exact absurd rfl h
theorem cY_ne {E : String} (h : cY E ≠ 0) : E = eIdx := by
  unfold cY at h
  by_cases a : E = eIdx
  · exact a
  · rw [if_neg a] at h; exact absurd rfl h
abbrev rmL_deposit : Room := { frames := 8, cells := 1, slots := 6, locals := 126 }
set_option maxRecDepth 100000 in
set_option maxHeartbeats 4000000 in
theorem mL_deposit (l : Launch) (hl0 : l.stackTraces = false) (D : va_G) (cI cJ cZ : ClassId) (ad sx : Nat → Nat) (ao : Nat) (f : Nat → Int64) (a1 : Int32) (a2 : Int32) (z0 : SH) : ∀ (r : (String ⊕ Int64) × SH) (sz : Nat), fX4_deposit a1 a2 z0 = some r → (∀ (E : String) (z1 : SH), r = (.inl E, z1) → c3 E ≠ 0) → Met l yL_deposit wsL_deposit rmL_deposit (cPX (thY sx) D vwCl (tyl cI cJ cZ) (wW cI cJ cZ ad ao (z0, f)) sz [.ref (ad 0), .int a1, .int a2, .ref ao]) (va_Qi (fun v u => (v, u) = wrL c3 f r) (fun u t => va_P D vwCl (wW cI cJ cZ ad ao u) t.heap) (va_A (wW cI cJ cZ ad ao (z0, f)) sz)) 1 6 (va_A (wW cI cJ cZ ad ao (z0, f)) sz) := by
  intro r sz h hE
  refine ofL (wu := wW cI cJ cZ ad ao) (cc := cL_deposit) (maxL := 5) (hh := [(0, 9, 12, 13), (0, 9, 16, 15), (0, 9, 20, 17)]) (by decide) rfl (Nat.le_of_ble_eq_true rfl) (fun p e s m below meth c ls hsz C hK hD hA htab hX hret hP hl => ?_)
  have hx := C.1
  have hb := C.2.1
  refine lv_aload_n hx hb dL_deposit_0 rfl (lv_at hl 3 rfl) ?_
  refine lv_iconst (v := 0) hx hb dL_deposit_1 (by decide) ?_
  refine lv_aload_n hx hb dL_deposit_2 rfl (lv_at hl 0 rfl) ?_
  refine lv_iload_n hx hb dL_deposit_3 rfl (lv_at hl 1 rfl) ?_
  refine lv_iload_n hx hb dL_deposit_4 rfl (lv_at hl 2 rfl) ?_
  refine kL_l (As := [.int a1, .int a2]) (tgt := 24) C hK hD hA hX h c3 hP va_S.rf (mX4_deposit l D cI cJ cZ ad a1 a2 z0) (nX4_deposit l hl0 D cI cJ cZ ad sx a1 a2 z0) (cwV 2 C.2.2.2.2 gL_deposit_X4_deposit rfl rfl rfl (by decide +kernel) ⟨Nat.le_of_ble_eq_true rfl, Nat.le_of_ble_eq_true rfl⟩) (cwV 2 C.2.2.2.2 gL_deposit_X4_deposit rfl rfl rfl (by decide +kernel) ⟨Nat.le_of_ble_eq_true rfl, Nat.le_of_ble_eq_true rfl⟩) ⟨Nat.le_of_ble_eq_true rfl, Nat.le_of_ble_eq_true rfl⟩ rfl hl.1 rfl dL_deposit_5 dL_deposit_8 dL_deposit_9 (by decide) dL_deposit_24 dL_deposit_25 hret (fun E z1 hr q9 ce H1 locs1 hP1 hS1 h1 h2 h3 => ?_)
  have hE1 := hE E z1 hr
  subst hr
  rcases c3_ne hE1 with rfl | rfl | rfl
  · refine kL_c (wu := wW cI cJ cZ ad ao) (name := "") C htab hX [] ⟨0, 9, 12, 13⟩ [⟨0, 9, 16, 15⟩, ⟨0, 9, 20, 17⟩] rfl (fun z hz => absurd hz List.not_mem_nil) (by decide) (by decide) (by decide +kernel) (by decide) h1 h2 h3 ?_
    refine lv_astore hx hb dL_deposit_12 hl (by decide) rfl (fun ls hl => ?_)
    refine lv_iconst (v := 1) hx hb dL_deposit_14 (by decide) ?_
    exact hret 15 H1 locs1 ls 1 (z1, f) _ _ rfl dL_deposit_15 hP1 hS1 (Nat.le_refl _) (Nat.le_refl _)
  · refine kL_c (wu := wW cI cJ cZ ad ao) (name := "") C htab hX [⟨0, 9, 12, 13⟩] ⟨0, 9, 16, 15⟩ [⟨0, 9, 20, 17⟩] rfl (fun z hz => by simp only [List.mem_cons, List.not_mem_nil, or_false] at hz; subst hz; exact ⟨by decide, eIdx, by decide +kernel, by decide⟩) (by decide) (by decide) (by decide +kernel) (by decide) h1 h2 h3 ?_
    refine lv_astore hx hb dL_deposit_16 hl (by decide) rfl (fun ls hl => ?_)
    refine lv_iconst (v := 2) hx hb dL_deposit_18 (by decide) ?_
    exact hret 19 H1 locs1 ls 2 (z1, f) _ _ rfl dL_deposit_19 hP1 hS1 (Nat.le_refl _) (Nat.le_refl _)
  · refine kL_c (wu := wW cI cJ cZ ad ao) (name := "") C htab hX [⟨0, 9, 12, 13⟩, ⟨0, 9, 16, 15⟩] ⟨0, 9, 20, 17⟩ [] rfl (fun z hz => by simp only [List.mem_cons, List.not_mem_nil, or_false] at hz; rcases hz with rfl | rfl; exact ⟨by decide, eIdx, by decide +kernel, by decide⟩; exact ⟨by decide, eArg, by decide +kernel, by decide⟩) (by decide) (by decide) (by decide +kernel) (by decide) h1 h2 h3 ?_
    refine lv_astore hx hb dL_deposit_20 hl (by decide) rfl (fun ls hl => ?_)
    refine lv_iconst (v := 3) hx hb dL_deposit_22 (by decide) ?_
    exact hret 23 H1 locs1 ls 3 (z1, f) _ _ rfl dL_deposit_23 hP1 hS1 (Nat.le_refl _) (Nat.le_refl _)
abbrev rmL_withdraw : Room := { frames := 8, cells := 1, slots := 6, locals := 126 }
set_option maxRecDepth 100000 in
set_option maxHeartbeats 4000000 in
theorem mL_withdraw (l : Launch) (hl0 : l.stackTraces = false) (D : va_G) (cI cJ cZ : ClassId) (ad sx : Nat → Nat) (ao : Nat) (f : Nat → Int64) (a1 : Int32) (a2 : Int32) (z0 : SH) : ∀ (r : (String ⊕ Int64) × SH) (sz : Nat), fX4_withdraw a1 a2 z0 = some r → (∀ (E : String) (z1 : SH), r = (.inl E, z1) → c3 E ≠ 0) → Met l yL_withdraw wsL_withdraw rmL_withdraw (cPX (thY sx) D vwCl (tyl cI cJ cZ) (wW cI cJ cZ ad ao (z0, f)) sz [.ref (ad 0), .int a1, .int a2, .ref ao]) (va_Qi (fun v u => (v, u) = wrL c3 f r) (fun u t => va_P D vwCl (wW cI cJ cZ ad ao u) t.heap) (va_A (wW cI cJ cZ ad ao (z0, f)) sz)) 1 6 (va_A (wW cI cJ cZ ad ao (z0, f)) sz) := by
  intro r sz h hE
  refine ofL (wu := wW cI cJ cZ ad ao) (cc := cL_withdraw) (maxL := 5) (hh := [(0, 9, 12, 13), (0, 9, 16, 15), (0, 9, 20, 17)]) (by decide) rfl (Nat.le_of_ble_eq_true rfl) (fun p e s m below meth c ls hsz C hK hD hA htab hX hret hP hl => ?_)
  have hx := C.1
  have hb := C.2.1
  refine lv_aload_n hx hb dL_withdraw_0 rfl (lv_at hl 3 rfl) ?_
  refine lv_iconst (v := 0) hx hb dL_withdraw_1 (by decide) ?_
  refine lv_aload_n hx hb dL_withdraw_2 rfl (lv_at hl 0 rfl) ?_
  refine lv_iload_n hx hb dL_withdraw_3 rfl (lv_at hl 1 rfl) ?_
  refine lv_iload_n hx hb dL_withdraw_4 rfl (lv_at hl 2 rfl) ?_
  refine kL_l (As := [.int a1, .int a2]) (tgt := 24) C hK hD hA hX h c3 hP va_S.rf (mX4_withdraw l D cI cJ cZ ad a1 a2 z0) (nX4_withdraw l hl0 D cI cJ cZ ad sx a1 a2 z0) (cwV 2 C.2.2.2.2 gL_withdraw_X4_withdraw rfl rfl rfl (by decide +kernel) ⟨Nat.le_of_ble_eq_true rfl, Nat.le_of_ble_eq_true rfl⟩) (cwV 2 C.2.2.2.2 gL_withdraw_X4_withdraw rfl rfl rfl (by decide +kernel) ⟨Nat.le_of_ble_eq_true rfl, Nat.le_of_ble_eq_true rfl⟩) ⟨Nat.le_of_ble_eq_true rfl, Nat.le_of_ble_eq_true rfl⟩ rfl hl.1 rfl dL_withdraw_5 dL_withdraw_8 dL_withdraw_9 (by decide) dL_withdraw_24 dL_withdraw_25 hret (fun E z1 hr q9 ce H1 locs1 hP1 hS1 h1 h2 h3 => ?_)
  have hE1 := hE E z1 hr
  subst hr
  rcases c3_ne hE1 with rfl | rfl | rfl
  · refine kL_c (wu := wW cI cJ cZ ad ao) (name := "") C htab hX [] ⟨0, 9, 12, 13⟩ [⟨0, 9, 16, 15⟩, ⟨0, 9, 20, 17⟩] rfl (fun z hz => absurd hz List.not_mem_nil) (by decide) (by decide) (by decide +kernel) (by decide) h1 h2 h3 ?_
    refine lv_astore hx hb dL_withdraw_12 hl (by decide) rfl (fun ls hl => ?_)
    refine lv_iconst (v := 1) hx hb dL_withdraw_14 (by decide) ?_
    exact hret 15 H1 locs1 ls 1 (z1, f) _ _ rfl dL_withdraw_15 hP1 hS1 (Nat.le_refl _) (Nat.le_refl _)
  · refine kL_c (wu := wW cI cJ cZ ad ao) (name := "") C htab hX [⟨0, 9, 12, 13⟩] ⟨0, 9, 16, 15⟩ [⟨0, 9, 20, 17⟩] rfl (fun z hz => by simp only [List.mem_cons, List.not_mem_nil, or_false] at hz; subst hz; exact ⟨by decide, eIdx, by decide +kernel, by decide⟩) (by decide) (by decide) (by decide +kernel) (by decide) h1 h2 h3 ?_
    refine lv_astore hx hb dL_withdraw_16 hl (by decide) rfl (fun ls hl => ?_)
    refine lv_iconst (v := 2) hx hb dL_withdraw_18 (by decide) ?_
    exact hret 19 H1 locs1 ls 2 (z1, f) _ _ rfl dL_withdraw_19 hP1 hS1 (Nat.le_refl _) (Nat.le_refl _)
  · refine kL_c (wu := wW cI cJ cZ ad ao) (name := "") C htab hX [⟨0, 9, 12, 13⟩, ⟨0, 9, 16, 15⟩] ⟨0, 9, 20, 17⟩ [] rfl (fun z hz => by simp only [List.mem_cons, List.not_mem_nil, or_false] at hz; rcases hz with rfl | rfl; exact ⟨by decide, eIdx, by decide +kernel, by decide⟩; exact ⟨by decide, eArg, by decide +kernel, by decide⟩) (by decide) (by decide) (by decide +kernel) (by decide) h1 h2 h3 ?_
    refine lv_astore hx hb dL_withdraw_20 hl (by decide) rfl (fun ls hl => ?_)
    refine lv_iconst (v := 3) hx hb dL_withdraw_22 (by decide) ?_
    exact hret 23 H1 locs1 ls 3 (z1, f) _ _ rfl dL_withdraw_23 hP1 hS1 (Nat.le_refl _) (Nat.le_refl _)
abbrev rmL_grant : Room := { frames := 8, cells := 1, slots := 6, locals := 128 }
set_option maxRecDepth 100000 in
set_option maxHeartbeats 4000000 in
theorem mL_grant (l : Launch) (hl0 : l.stackTraces = false) (D : va_G) (cI cJ cZ : ClassId) (ad sx : Nat → Nat) (ao : Nat) (f : Nat → Int64) (a1 : Int32) (a2 : Int32) (a3 : Int32) (z0 : SH) : ∀ (r : (String ⊕ Int32) × SH) (sz : Nat), fX4_grant a1 a2 a3 z0 = some r → (∀ (E : String) (z1 : SH), r = (.inl E, z1) → c3 E ≠ 0) → Met l yL_grant wsL_grant rmL_grant (cPX (thY sx) D vwCl (tyl cI cJ cZ) (wW cI cJ cZ ad ao (z0, f)) sz [.ref (ad 0), .int a1, .int a2, .int a3, .ref ao]) (va_Qi (fun v u => (v, u) = wrI c3 f r) (fun u t => va_P D vwCl (wW cI cJ cZ ad ao u) t.heap) (va_A (wW cI cJ cZ ad ao (z0, f)) sz)) 1 6 (va_A (wW cI cJ cZ ad ao (z0, f)) sz) := by
  intro r sz h hE
  refine ofL (wu := wW cI cJ cZ ad ao) (cc := cL_grant) (maxL := 6) (hh := [(0, 12, 15, 13), (0, 12, 19, 15), (0, 12, 23, 17)]) (by decide) rfl (Nat.le_of_ble_eq_true rfl) (fun p e s m below meth c ls hsz C hK hD hA htab hX hret hP hl => ?_)
  have hx := C.1
  have hb := C.2.1
  refine lv_aload hx hb dL_grant_0 (lv_at hl 4 rfl) ?_
  refine lv_iconst (v := 0) hx hb dL_grant_2 (by decide) ?_
  refine lv_aload_n hx hb dL_grant_3 rfl (lv_at hl 0 rfl) ?_
  refine lv_iload_n hx hb dL_grant_4 rfl (lv_at hl 1 rfl) ?_
  refine lv_iload_n hx hb dL_grant_5 rfl (lv_at hl 2 rfl) ?_
  refine lv_iload_n hx hb dL_grant_6 rfl (lv_at hl 3 rfl) ?_
  refine kL_i (As := [.int a1, .int a2, .int a3]) (tgt := 27) C hK hD hA hX h c3 hP va_S.rf (mX4_grant l D cI cJ cZ ad a1 a2 a3 z0) (nX4_grant l hl0 D cI cJ cZ ad sx a1 a2 a3 z0) (cwV 3 C.2.2.2.2 gL_grant_X4_grant rfl rfl rfl (by decide +kernel) ⟨Nat.le_of_ble_eq_true rfl, Nat.le_of_ble_eq_true rfl⟩) (cwV 3 C.2.2.2.2 gL_grant_X4_grant rfl rfl rfl (by decide +kernel) ⟨Nat.le_of_ble_eq_true rfl, Nat.le_of_ble_eq_true rfl⟩) ⟨Nat.le_of_ble_eq_true rfl, Nat.le_of_ble_eq_true rfl⟩ rfl hl.1 rfl dL_grant_7 dL_grant_10 dL_grant_11 dL_grant_12 (by decide) dL_grant_27 dL_grant_28 hret (fun E z1 hr q9 ce H1 locs1 hP1 hS1 h1 h2 h3 => ?_)
  have hE1 := hE E z1 hr
  subst hr
  rcases c3_ne hE1 with rfl | rfl | rfl
  · refine kL_c (wu := wW cI cJ cZ ad ao) (name := "") C htab hX [] ⟨0, 12, 15, 13⟩ [⟨0, 12, 19, 15⟩, ⟨0, 12, 23, 17⟩] rfl (fun z hz => absurd hz List.not_mem_nil) (by decide) (by decide) (by decide +kernel) (by decide) h1 h2 h3 ?_
    refine lv_astore hx hb dL_grant_15 hl (by decide) rfl (fun ls hl => ?_)
    refine lv_iconst (v := 1) hx hb dL_grant_17 (by decide) ?_
    exact hret 18 H1 locs1 ls 1 (z1, f) _ _ rfl dL_grant_18 hP1 hS1 (Nat.le_refl _) (Nat.le_refl _)
  · refine kL_c (wu := wW cI cJ cZ ad ao) (name := "") C htab hX [⟨0, 12, 15, 13⟩] ⟨0, 12, 19, 15⟩ [⟨0, 12, 23, 17⟩] rfl (fun z hz => by simp only [List.mem_cons, List.not_mem_nil, or_false] at hz; subst hz; exact ⟨by decide, eIdx, by decide +kernel, by decide⟩) (by decide) (by decide) (by decide +kernel) (by decide) h1 h2 h3 ?_
    refine lv_astore hx hb dL_grant_19 hl (by decide) rfl (fun ls hl => ?_)
    refine lv_iconst (v := 2) hx hb dL_grant_21 (by decide) ?_
    exact hret 22 H1 locs1 ls 2 (z1, f) _ _ rfl dL_grant_22 hP1 hS1 (Nat.le_refl _) (Nat.le_refl _)
  · refine kL_c (wu := wW cI cJ cZ ad ao) (name := "") C htab hX [⟨0, 12, 15, 13⟩, ⟨0, 12, 19, 15⟩] ⟨0, 12, 23, 17⟩ [] rfl (fun z hz => by simp only [List.mem_cons, List.not_mem_nil, or_false] at hz; rcases hz with rfl | rfl; exact ⟨by decide, eIdx, by decide +kernel, by decide⟩; exact ⟨by decide, eArg, by decide +kernel, by decide⟩) (by decide) (by decide) (by decide +kernel) (by decide) h1 h2 h3 ?_
    refine lv_astore hx hb dL_grant_23 hl (by decide) rfl (fun ls hl => ?_)
    refine lv_iconst (v := 3) hx hb dL_grant_25 (by decide) ?_
    exact hret 26 H1 locs1 ls 3 (z1, f) _ _ rfl dL_grant_26 hP1 hS1 (Nat.le_refl _) (Nat.le_refl _)
abbrev rmL_order : Room := { frames := 8, cells := 1, slots := 6, locals := 169 }
set_option maxRecDepth 100000 in
set_option maxHeartbeats 4000000 in
theorem mL_order (l : Launch) (hl0 : l.stackTraces = false) (D : va_G) (cI cJ cZ : ClassId) (ad sx : Nat → Nat) (ao : Nat) (f : Nat → Int64) (N : Nat) (a1 : Int32) (a2 : Int32) (a3 : Int32) (a4 : Int32) (a5 : Int32) (a6 : Int32) (a7 : Int32) (z0 : SH) : ∀ (r : (String ⊕ Int32) × SH) (sz : Nat), fX4_order N a1 a2 a3 a4 a5 a6 a7 z0 = some r → (∀ (E : String) (z1 : SH), r = (.inl E, z1) → c3 E ≠ 0) → Met l yL_order wsL_order rmL_order (cPX (thY sx) D vwCl (tyl cI cJ cZ) (wW cI cJ cZ ad ao (z0, f)) sz [.ref (ad 0), .int a1, .int a2, .int a3, .int a4, .int a5, .int a6, .int a7, .ref ao]) (va_Qi (fun v u => (v, u) = wrI c3 f r) (fun u t => va_P D vwCl (wW cI cJ cZ ad ao u) t.heap) (va_A (wW cI cJ cZ ad ao (z0, f)) sz)) 1 6 (va_A (wW cI cJ cZ ad ao (z0, f)) sz) := by
  intro r sz h hE
  refine ofL (wu := wW cI cJ cZ ad ao) (cc := cL_order) (maxL := 10) (hh := [(0, 20, 23, 13), (0, 20, 27, 15), (0, 20, 31, 17)]) (by decide) rfl (Nat.le_of_ble_eq_true rfl) (fun p e s m below meth c ls hsz C hK hD hA htab hX hret hP hl => ?_)
  have hx := C.1
  have hb := C.2.1
  refine lv_aload hx hb dL_order_0 (lv_at hl 8 rfl) ?_
  refine lv_iconst (v := 0) hx hb dL_order_2 (by decide) ?_
  refine lv_aload_n hx hb dL_order_3 rfl (lv_at hl 0 rfl) ?_
  refine lv_iload_n hx hb dL_order_4 rfl (lv_at hl 1 rfl) ?_
  refine lv_iload_n hx hb dL_order_5 rfl (lv_at hl 2 rfl) ?_
  refine lv_iload_n hx hb dL_order_6 rfl (lv_at hl 3 rfl) ?_
  refine lv_iload hx hb dL_order_7 (lv_at hl 4 rfl) ?_
  refine lv_iload hx hb dL_order_9 (lv_at hl 5 rfl) ?_
  refine lv_iload hx hb dL_order_11 (lv_at hl 6 rfl) ?_
  refine lv_iload hx hb dL_order_13 (lv_at hl 7 rfl) ?_
  refine kL_i (As := [.int a1, .int a2, .int a3, .int a4, .int a5, .int a6, .int a7]) (tgt := 35) C hK hD hA hX h c3 hP va_S.rf (mX4_order l D cI cJ cZ ad N a1 a2 a3 a4 a5 a6 a7 z0) (nX4_order l hl0 D cI cJ cZ ad sx N a1 a2 a3 a4 a5 a6 a7 z0) (cwV 7 C.2.2.2.2 gL_order_X4_order rfl rfl rfl (by decide +kernel) ⟨Nat.le_of_ble_eq_true rfl, Nat.le_of_ble_eq_true rfl⟩) (cwV 7 C.2.2.2.2 gL_order_X4_order rfl rfl rfl (by decide +kernel) ⟨Nat.le_of_ble_eq_true rfl, Nat.le_of_ble_eq_true rfl⟩) ⟨Nat.le_of_ble_eq_true rfl, Nat.le_of_ble_eq_true rfl⟩ rfl hl.1 rfl dL_order_15 dL_order_18 dL_order_19 dL_order_20 (by decide) dL_order_35 dL_order_36 hret (fun E z1 hr q9 ce H1 locs1 hP1 hS1 h1 h2 h3 => ?_)
  have hE1 := hE E z1 hr
  subst hr
  rcases c3_ne hE1 with rfl | rfl | rfl
  · refine kL_c (wu := wW cI cJ cZ ad ao) (name := "") C htab hX [] ⟨0, 20, 23, 13⟩ [⟨0, 20, 27, 15⟩, ⟨0, 20, 31, 17⟩] rfl (fun z hz => absurd hz List.not_mem_nil) (by decide) (by decide) (by decide +kernel) (by decide) h1 h2 h3 ?_
    refine lv_astore hx hb dL_order_23 hl (by decide) rfl (fun ls hl => ?_)
    refine lv_iconst (v := 1) hx hb dL_order_25 (by decide) ?_
    exact hret 26 H1 locs1 ls 1 (z1, f) _ _ rfl dL_order_26 hP1 hS1 (Nat.le_refl _) (Nat.le_refl _)
  · refine kL_c (wu := wW cI cJ cZ ad ao) (name := "") C htab hX [⟨0, 20, 23, 13⟩] ⟨0, 20, 27, 15⟩ [⟨0, 20, 31, 17⟩] rfl (fun z hz => by simp only [List.mem_cons, List.not_mem_nil, or_false] at hz; subst hz; exact ⟨by decide, eIdx, by decide +kernel, by decide⟩) (by decide) (by decide) (by decide +kernel) (by decide) h1 h2 h3 ?_
    refine lv_astore hx hb dL_order_27 hl (by decide) rfl (fun ls hl => ?_)
    refine lv_iconst (v := 2) hx hb dL_order_29 (by decide) ?_
    exact hret 30 H1 locs1 ls 2 (z1, f) _ _ rfl dL_order_30 hP1 hS1 (Nat.le_refl _) (Nat.le_refl _)
  · refine kL_c (wu := wW cI cJ cZ ad ao) (name := "") C htab hX [⟨0, 20, 23, 13⟩, ⟨0, 20, 27, 15⟩] ⟨0, 20, 31, 17⟩ [] rfl (fun z hz => by simp only [List.mem_cons, List.not_mem_nil, or_false] at hz; rcases hz with rfl | rfl; exact ⟨by decide, eIdx, by decide +kernel, by decide⟩; exact ⟨by decide, eArg, by decide +kernel, by decide⟩) (by decide) (by decide) (by decide +kernel) (by decide) h1 h2 h3 ?_
    refine lv_astore hx hb dL_order_31 hl (by decide) rfl (fun ls hl => ?_)
    refine lv_iconst (v := 3) hx hb dL_order_33 (by decide) ?_
    exact hret 34 H1 locs1 ls 3 (z1, f) _ _ rfl dL_order_34 hP1 hS1 (Nat.le_refl _) (Nat.le_refl _)
abbrev rmL_cancel : Room := { frames := 9, cells := 1, slots := 6, locals := 148 }
set_option maxRecDepth 100000 in
set_option maxHeartbeats 4000000 in
theorem mL_cancel (l : Launch) (hl0 : l.stackTraces = false) (D : va_G) (cI cJ cZ : ClassId) (ad sx : Nat → Nat) (ao : Nat) (f : Nat → Int64) (N : Nat) (a1 : Int32) (a2 : Int32) (z0 : SH) : ∀ (r : (String ⊕ Int32) × SH) (sz : Nat), fX4_cancel N a1 a2 z0 = some r → (∀ (E : String) (z1 : SH), r = (.inl E, z1) → c3 E ≠ 0) → Met l yL_cancel wsL_cancel rmL_cancel (cPX (thY sx) D vwCl (tyl cI cJ cZ) (wW cI cJ cZ ad ao (z0, f)) sz [.ref (ad 0), .int a1, .int a2, .ref ao]) (va_Qi (fun v u => (v, u) = wrI c3 f r) (fun u t => va_P D vwCl (wW cI cJ cZ ad ao u) t.heap) (va_A (wW cI cJ cZ ad ao (z0, f)) sz)) 1 6 (va_A (wW cI cJ cZ ad ao (z0, f)) sz) := by
  intro r sz h hE
  refine ofL (wu := wW cI cJ cZ ad ao) (cc := cL_cancel) (maxL := 5) (hh := [(0, 10, 13, 13), (0, 10, 17, 15), (0, 10, 21, 17)]) (by decide) rfl (Nat.le_of_ble_eq_true rfl) (fun p e s m below meth c ls hsz C hK hD hA htab hX hret hP hl => ?_)
  have hx := C.1
  have hb := C.2.1
  refine lv_aload_n hx hb dL_cancel_0 rfl (lv_at hl 3 rfl) ?_
  refine lv_iconst (v := 0) hx hb dL_cancel_1 (by decide) ?_
  refine lv_aload_n hx hb dL_cancel_2 rfl (lv_at hl 0 rfl) ?_
  refine lv_iload_n hx hb dL_cancel_3 rfl (lv_at hl 1 rfl) ?_
  refine lv_iload_n hx hb dL_cancel_4 rfl (lv_at hl 2 rfl) ?_
  refine kL_i (As := [.int a1, .int a2]) (tgt := 25) C hK hD hA hX h c3 hP va_S.rf (mX4_cancel l D cI cJ cZ ad N a1 a2 z0) (nX4_cancel l hl0 D cI cJ cZ ad sx N a1 a2 z0) (cwV 2 C.2.2.2.2 gL_cancel_X4_cancel rfl rfl rfl (by decide +kernel) ⟨Nat.le_of_ble_eq_true rfl, Nat.le_of_ble_eq_true rfl⟩) (cwV 2 C.2.2.2.2 gL_cancel_X4_cancel rfl rfl rfl (by decide +kernel) ⟨Nat.le_of_ble_eq_true rfl, Nat.le_of_ble_eq_true rfl⟩) ⟨Nat.le_of_ble_eq_true rfl, Nat.le_of_ble_eq_true rfl⟩ rfl hl.1 rfl dL_cancel_5 dL_cancel_8 dL_cancel_9 dL_cancel_10 (by decide) dL_cancel_25 dL_cancel_26 hret (fun E z1 hr q9 ce H1 locs1 hP1 hS1 h1 h2 h3 => ?_)
  have hE1 := hE E z1 hr
  subst hr
  rcases c3_ne hE1 with rfl | rfl | rfl
  · refine kL_c (wu := wW cI cJ cZ ad ao) (name := "") C htab hX [] ⟨0, 10, 13, 13⟩ [⟨0, 10, 17, 15⟩, ⟨0, 10, 21, 17⟩] rfl (fun z hz => absurd hz List.not_mem_nil) (by decide) (by decide) (by decide +kernel) (by decide) h1 h2 h3 ?_
    refine lv_astore hx hb dL_cancel_13 hl (by decide) rfl (fun ls hl => ?_)
    refine lv_iconst (v := 1) hx hb dL_cancel_15 (by decide) ?_
    exact hret 16 H1 locs1 ls 1 (z1, f) _ _ rfl dL_cancel_16 hP1 hS1 (Nat.le_refl _) (Nat.le_refl _)
  · refine kL_c (wu := wW cI cJ cZ ad ao) (name := "") C htab hX [⟨0, 10, 13, 13⟩] ⟨0, 10, 17, 15⟩ [⟨0, 10, 21, 17⟩] rfl (fun z hz => by simp only [List.mem_cons, List.not_mem_nil, or_false] at hz; subst hz; exact ⟨by decide, eIdx, by decide +kernel, by decide⟩) (by decide) (by decide) (by decide +kernel) (by decide) h1 h2 h3 ?_
    refine lv_astore hx hb dL_cancel_17 hl (by decide) rfl (fun ls hl => ?_)
    refine lv_iconst (v := 2) hx hb dL_cancel_19 (by decide) ?_
    exact hret 20 H1 locs1 ls 2 (z1, f) _ _ rfl dL_cancel_20 hP1 hS1 (Nat.le_refl _) (Nat.le_refl _)
  · refine kL_c (wu := wW cI cJ cZ ad ao) (name := "") C htab hX [⟨0, 10, 13, 13⟩, ⟨0, 10, 17, 15⟩] ⟨0, 10, 21, 17⟩ [] rfl (fun z hz => by simp only [List.mem_cons, List.not_mem_nil, or_false] at hz; rcases hz with rfl | rfl; exact ⟨by decide, eIdx, by decide +kernel, by decide⟩; exact ⟨by decide, eArg, by decide +kernel, by decide⟩) (by decide) (by decide) (by decide +kernel) (by decide) h1 h2 h3 ?_
    refine lv_astore hx hb dL_cancel_21 hl (by decide) rfl (fun ls hl => ?_)
    refine lv_iconst (v := 3) hx hb dL_cancel_23 (by decide) ?_
    exact hret 24 H1 locs1 ls 3 (z1, f) _ _ rfl dL_cancel_24 hP1 hS1 (Nat.le_refl _) (Nat.le_refl _)
abbrev rmL_reduce : Room := { frames := 9, cells := 1, slots := 6, locals := 148 }
set_option maxRecDepth 100000 in
set_option maxHeartbeats 4000000 in
theorem mL_reduce (l : Launch) (hl0 : l.stackTraces = false) (D : va_G) (cI cJ cZ : ClassId) (ad sx : Nat → Nat) (ao : Nat) (f : Nat → Int64) (a1 : Int32) (a2 : Int32) (a3 : Int32) (z0 : SH) : ∀ (r : (String ⊕ Int32) × SH) (sz : Nat), fX4_reduce a1 a2 a3 z0 = some r → (∀ (E : String) (z1 : SH), r = (.inl E, z1) → c3 E ≠ 0) → Met l yL_reduce wsL_reduce rmL_reduce (cPX (thY sx) D vwCl (tyl cI cJ cZ) (wW cI cJ cZ ad ao (z0, f)) sz [.ref (ad 0), .int a1, .int a2, .int a3, .ref ao]) (va_Qi (fun v u => (v, u) = wrI c3 f r) (fun u t => va_P D vwCl (wW cI cJ cZ ad ao u) t.heap) (va_A (wW cI cJ cZ ad ao (z0, f)) sz)) 1 6 (va_A (wW cI cJ cZ ad ao (z0, f)) sz) := by
  intro r sz h hE
  refine ofL (wu := wW cI cJ cZ ad ao) (cc := cL_reduce) (maxL := 6) (hh := [(0, 12, 15, 13), (0, 12, 19, 15), (0, 12, 23, 17)]) (by decide) rfl (Nat.le_of_ble_eq_true rfl) (fun p e s m below meth c ls hsz C hK hD hA htab hX hret hP hl => ?_)
  have hx := C.1
  have hb := C.2.1
  refine lv_aload hx hb dL_reduce_0 (lv_at hl 4 rfl) ?_
  refine lv_iconst (v := 0) hx hb dL_reduce_2 (by decide) ?_
  refine lv_aload_n hx hb dL_reduce_3 rfl (lv_at hl 0 rfl) ?_
  refine lv_iload_n hx hb dL_reduce_4 rfl (lv_at hl 1 rfl) ?_
  refine lv_iload_n hx hb dL_reduce_5 rfl (lv_at hl 2 rfl) ?_
  refine lv_iload_n hx hb dL_reduce_6 rfl (lv_at hl 3 rfl) ?_
  refine kL_i (As := [.int a1, .int a2, .int a3]) (tgt := 27) C hK hD hA hX h c3 hP va_S.rf (mX4_reduce l D cI cJ cZ ad a1 a2 a3 z0) (nX4_reduce l hl0 D cI cJ cZ ad sx a1 a2 a3 z0) (cwV 3 C.2.2.2.2 gL_reduce_X4_reduce rfl rfl rfl (by decide +kernel) ⟨Nat.le_of_ble_eq_true rfl, Nat.le_of_ble_eq_true rfl⟩) (cwV 3 C.2.2.2.2 gL_reduce_X4_reduce rfl rfl rfl (by decide +kernel) ⟨Nat.le_of_ble_eq_true rfl, Nat.le_of_ble_eq_true rfl⟩) ⟨Nat.le_of_ble_eq_true rfl, Nat.le_of_ble_eq_true rfl⟩ rfl hl.1 rfl dL_reduce_7 dL_reduce_10 dL_reduce_11 dL_reduce_12 (by decide) dL_reduce_27 dL_reduce_28 hret (fun E z1 hr q9 ce H1 locs1 hP1 hS1 h1 h2 h3 => ?_)
  have hE1 := hE E z1 hr
  subst hr
  rcases c3_ne hE1 with rfl | rfl | rfl
  · refine kL_c (wu := wW cI cJ cZ ad ao) (name := "") C htab hX [] ⟨0, 12, 15, 13⟩ [⟨0, 12, 19, 15⟩, ⟨0, 12, 23, 17⟩] rfl (fun z hz => absurd hz List.not_mem_nil) (by decide) (by decide) (by decide +kernel) (by decide) h1 h2 h3 ?_
    refine lv_astore hx hb dL_reduce_15 hl (by decide) rfl (fun ls hl => ?_)
    refine lv_iconst (v := 1) hx hb dL_reduce_17 (by decide) ?_
    exact hret 18 H1 locs1 ls 1 (z1, f) _ _ rfl dL_reduce_18 hP1 hS1 (Nat.le_refl _) (Nat.le_refl _)
  · refine kL_c (wu := wW cI cJ cZ ad ao) (name := "") C htab hX [⟨0, 12, 15, 13⟩] ⟨0, 12, 19, 15⟩ [⟨0, 12, 23, 17⟩] rfl (fun z hz => by simp only [List.mem_cons, List.not_mem_nil, or_false] at hz; subst hz; exact ⟨by decide, eIdx, by decide +kernel, by decide⟩) (by decide) (by decide) (by decide +kernel) (by decide) h1 h2 h3 ?_
    refine lv_astore hx hb dL_reduce_19 hl (by decide) rfl (fun ls hl => ?_)
    refine lv_iconst (v := 2) hx hb dL_reduce_21 (by decide) ?_
    exact hret 22 H1 locs1 ls 2 (z1, f) _ _ rfl dL_reduce_22 hP1 hS1 (Nat.le_refl _) (Nat.le_refl _)
  · refine kL_c (wu := wW cI cJ cZ ad ao) (name := "") C htab hX [⟨0, 12, 15, 13⟩, ⟨0, 12, 19, 15⟩] ⟨0, 12, 23, 17⟩ [] rfl (fun z hz => by simp only [List.mem_cons, List.not_mem_nil, or_false] at hz; rcases hz with rfl | rfl; exact ⟨by decide, eIdx, by decide +kernel, by decide⟩; exact ⟨by decide, eArg, by decide +kernel, by decide⟩) (by decide) (by decide) (by decide +kernel) (by decide) h1 h2 h3 ?_
    refine lv_astore hx hb dL_reduce_23 hl (by decide) rfl (fun ls hl => ?_)
    refine lv_iconst (v := 3) hx hb dL_reduce_25 (by decide) ?_
    exact hret 26 H1 locs1 ls 3 (z1, f) _ _ rfl dL_reduce_26 hP1 hS1 (Nat.le_refl _) (Nat.le_refl _)
abbrev rmL_until : Room := { frames := 9, cells := 1, slots := 6, locals := 148 }
set_option maxRecDepth 100000 in
set_option maxHeartbeats 4000000 in
theorem mL_until (l : Launch) (hl0 : l.stackTraces = false) (D : va_G) (cI cJ cZ : ClassId) (ad sx : Nat → Nat) (a1 : Int32) (a2 : Int32) (a3 : Int32) (z0 : SH) : ∀ (r : (String ⊕ Unit) × SH) (sz : Nat), fX4_until a1 a2 a3 z0 = some r → (∀ (E : String) (z1 : SH), r = (.inl E, z1) → c3 E ≠ 0) → Met l yL_until wsL_until rmL_until (cPX (thY sx) D vwCl (tyl cI cJ cZ) (wH cI cJ cZ ad z0) sz [.ref (ad 0), .int a1, .int a2, .int a3]) (va_Qi (fun v u => (v, u) = wrV c3 r) (fun u t => va_P D vwCl (wH cI cJ cZ ad u) t.heap) (va_A (wH cI cJ cZ ad z0) sz)) 1 6 (va_A (wH cI cJ cZ ad z0) sz) := by
  intro r sz h hE
  refine ofL (wu := wH cI cJ cZ ad) (cc := cL_until) (maxL := 5) (hh := [(0, 7, 10, 13), (0, 7, 14, 15), (0, 7, 18, 17)]) (by decide) rfl (Nat.le_of_ble_eq_true rfl) (fun p e s m below meth c ls hsz C hK hD hA htab hX hret hP hl => ?_)
  have hx := C.1
  have hb := C.2.1
  refine lv_aload_n hx hb dL_until_0 rfl (lv_at hl 0 rfl) ?_
  refine lv_iload_n hx hb dL_until_1 rfl (lv_at hl 1 rfl) ?_
  refine lv_iload_n hx hb dL_until_2 rfl (lv_at hl 2 rfl) ?_
  refine lv_iload_n hx hb dL_until_3 rfl (lv_at hl 3 rfl) ?_
  refine kL_v (As := [.int a1, .int a2, .int a3]) (tgt := 22) C hK hD hA hX h c3 hP va_S.rf (mX4_until l D cI cJ cZ ad a1 a2 a3 z0) (nX4_until l hl0 D cI cJ cZ ad sx a1 a2 a3 z0) (cwV 3 C.2.2.2.2 gL_until_X4_until rfl rfl rfl (by decide +kernel) ⟨Nat.le_of_ble_eq_true rfl, Nat.le_of_ble_eq_true rfl⟩) (cwV 3 C.2.2.2.2 gL_until_X4_until rfl rfl rfl (by decide +kernel) ⟨Nat.le_of_ble_eq_true rfl, Nat.le_of_ble_eq_true rfl⟩) ⟨Nat.le_of_ble_eq_true rfl, Nat.le_of_ble_eq_true rfl⟩ rfl hl.1 rfl dL_until_4 dL_until_7 (by decide) dL_until_22 dL_until_23 hret (fun E z1 hr q9 ce H1 locs1 hP1 hS1 h1 h2 h3 => ?_)
  have hE1 := hE E z1 hr
  subst hr
  rcases c3_ne hE1 with rfl | rfl | rfl
  · refine kL_c (wu := wH cI cJ cZ ad) (name := "") C htab hX [] ⟨0, 7, 10, 13⟩ [⟨0, 7, 14, 15⟩, ⟨0, 7, 18, 17⟩] rfl (fun z hz => absurd hz List.not_mem_nil) (by decide) (by decide) (by decide +kernel) (by decide) h1 h2 h3 ?_
    refine lv_astore hx hb dL_until_10 hl (by decide) rfl (fun ls hl => ?_)
    refine lv_iconst (v := 1) hx hb dL_until_12 (by decide) ?_
    exact hret 13 H1 locs1 ls 1 z1 _ _ rfl dL_until_13 hP1 hS1 (Nat.le_refl _) (Nat.le_refl _)
  · refine kL_c (wu := wH cI cJ cZ ad) (name := "") C htab hX [⟨0, 7, 10, 13⟩] ⟨0, 7, 14, 15⟩ [⟨0, 7, 18, 17⟩] rfl (fun z hz => by simp only [List.mem_cons, List.not_mem_nil, or_false] at hz; subst hz; exact ⟨by decide, eIdx, by decide +kernel, by decide⟩) (by decide) (by decide) (by decide +kernel) (by decide) h1 h2 h3 ?_
    refine lv_astore hx hb dL_until_14 hl (by decide) rfl (fun ls hl => ?_)
    refine lv_iconst (v := 2) hx hb dL_until_16 (by decide) ?_
    exact hret 17 H1 locs1 ls 2 z1 _ _ rfl dL_until_17 hP1 hS1 (Nat.le_refl _) (Nat.le_refl _)
  · refine kL_c (wu := wH cI cJ cZ ad) (name := "") C htab hX [⟨0, 7, 10, 13⟩, ⟨0, 7, 14, 15⟩] ⟨0, 7, 18, 17⟩ [] rfl (fun z hz => by simp only [List.mem_cons, List.not_mem_nil, or_false] at hz; rcases hz with rfl | rfl; exact ⟨by decide, eIdx, by decide +kernel, by decide⟩; exact ⟨by decide, eArg, by decide +kernel, by decide⟩) (by decide) (by decide) (by decide +kernel) (by decide) h1 h2 h3 ?_
    refine lv_astore hx hb dL_until_18 hl (by decide) rfl (fun ls hl => ?_)
    refine lv_iconst (v := 3) hx hb dL_until_20 (by decide) ?_
    exact hret 21 H1 locs1 ls 3 z1 _ _ rfl dL_until_21 hP1 hS1 (Nat.le_refl _) (Nat.le_refl _)
