abbrev rmL_pass : Room := { frames := 8, cells := 1, slots := 6, locals := 127 }
set_option maxRecDepth 100000 in
set_option maxHeartbeats 4000000 in
theorem mL_pass (l : Launch) (hl0 : l.stackTraces = false) (D : va_G) (cI cJ cZ : ClassId) (ad sx : Nat → Nat) (ao : Nat) (f : Nat → Int64) (N : Nat) (a1 : Int32) (z0 : SH) : ∀ (r : (String ⊕ Int32) × SH) (sz : Nat), fX4_pass N a1 z0 = some r → (∀ (E : String) (z1 : SH), r = (.inl E, z1) → c1 E ≠ 0) → Met l yL_pass wsL_pass rmL_pass (cPX (thY sx) D vwCl (tyl cI cJ cZ) (wW cI cJ cZ ad ao (z0, f)) sz [.ref (ad 0), .int a1, .ref ao]) (va_Qi (fun v u => (v, u) = wrI c1 f r) (fun u t => va_P D vwCl (wW cI cJ cZ ad ao u) t.heap) (va_A (wW cI cJ cZ ad ao (z0, f)) sz)) 1 6 (va_A (wW cI cJ cZ ad ao (z0, f)) sz) := by
  intro r sz h hE
  refine ofL (wu := wW cI cJ cZ ad ao) (cc := cL_pass) (maxL := 4) (hh := [(0, 9, 12, 15)]) (by decide) rfl (Nat.le_of_ble_eq_true rfl) (fun p e s m below meth c ls hsz C hK hD hA htab hX hret hP hl => ?_)
  have hx := C.1
  have hb := C.2.1
  refine lv_aload_n hx hb dL_pass_0 rfl (lv_at hl 2 rfl) ?_
  refine lv_iconst (v := 0) hx hb dL_pass_1 (by decide) ?_
  refine lv_aload_n hx hb dL_pass_2 rfl (lv_at hl 0 rfl) ?_
  refine lv_iload_n hx hb dL_pass_3 rfl (lv_at hl 1 rfl) ?_
  refine kL_i (As := [.int a1]) (tgt := 15) C hK hD hA hX h c1 hP va_S.rf (mX4_pass l D cI cJ cZ ad N a1 z0) (nX4_pass l hl0 D cI cJ cZ ad sx N a1 z0) (cwV 1 C.2.2.2.2 gL_pass_X4_pass rfl rfl rfl (by decide +kernel) ⟨Nat.le_of_ble_eq_true rfl, Nat.le_of_ble_eq_true rfl⟩) (cwV 1 C.2.2.2.2 gL_pass_X4_pass rfl rfl rfl (by decide +kernel) ⟨Nat.le_of_ble_eq_true rfl, Nat.le_of_ble_eq_true rfl⟩) ⟨Nat.le_of_ble_eq_true rfl, Nat.le_of_ble_eq_true rfl⟩ rfl hl.1 rfl dL_pass_4 dL_pass_7 dL_pass_8 dL_pass_9 (by decide) dL_pass_15 dL_pass_16 hret (fun E z1 hr q9 ce H1 locs1 hP1 hS1 h1 h2 h3 => ?_)
  have hE1 := hE E z1 hr
  subst hr
  rcases c1_ne hE1 with rfl
  · refine kL_c (wu := wW cI cJ cZ ad ao) (name := "") C htab hX [] ⟨0, 9, 12, 15⟩ [] rfl (fun z hz => absurd hz List.not_mem_nil) (by decide) (by decide) (by decide +kernel) (by decide) h1 h2 h3 ?_
    refine lv_astore_n hx hb dL_pass_12 rfl hl (by decide) rfl (fun ls hl => ?_)
    refine lv_iconst (v := 1) hx hb dL_pass_13 (by decide) ?_
    exact hret 14 H1 locs1 ls 1 (z1, f) _ _ rfl dL_pass_14 hP1 hS1 (Nat.le_refl _) (Nat.le_refl _)
abbrev rmL_best : Room := { frames := 8, cells := 1, slots := 6, locals := 125 }
set_option maxRecDepth 100000 in
set_option maxHeartbeats 4000000 in
theorem mL_best (l : Launch) (hl0 : l.stackTraces = false) (D : va_G) (cI cJ cZ : ClassId) (ad sx : Nat → Nat) (ao : Nat) (f : Nat → Int64) (a1 : Int32) (a2 : Int32) (z0 : SH) : ∀ (r : (String ⊕ Int32) × SH) (sz : Nat), fX4_best a1 a2 z0 = some r → (∀ (E : String) (z1 : SH), r = (.inl E, z1) → cB E ≠ 0) → Met l yL_best wsL_best rmL_best (cPX (thY sx) D vwCl (tyl cI cJ cZ) (wW cI cJ cZ ad ao (z0, f)) sz [.ref (ad 0), .int a1, .int a2, .ref ao]) (va_Qi (fun v u => (v, u) = wrI cB f r) (fun u t => va_P D vwCl (wW cI cJ cZ ad ao u) t.heap) (va_A (wW cI cJ cZ ad ao (z0, f)) sz)) 1 6 (va_A (wW cI cJ cZ ad ao (z0, f)) sz) := by
  intro r sz h hE
  refine ofL (wu := wW cI cJ cZ ad ao) (cc := cL_best) (maxL := 5) (hh := [(0, 10, 13, 13), (0, 10, 17, 15), (0, 10, 21, 48)]) (by decide) rfl (Nat.le_of_ble_eq_true rfl) (fun p e s m below meth c ls hsz C hK hD hA htab hX hret hP hl => ?_)
  have hx := C.1
  have hb := C.2.1
  refine lv_aload_n hx hb dL_best_0 rfl (lv_at hl 3 rfl) ?_
  refine lv_iconst (v := 0) hx hb dL_best_1 (by decide) ?_
  refine lv_aload_n hx hb dL_best_2 rfl (lv_at hl 0 rfl) ?_
  refine lv_iload_n hx hb dL_best_3 rfl (lv_at hl 1 rfl) ?_
  refine lv_iload_n hx hb dL_best_4 rfl (lv_at hl 2 rfl) ?_
  refine kL_i (As := [.int a1, .int a2]) (tgt := 25) C hK hD hA hX h cB hP va_S.rf (mX4_best l D cI cJ cZ ad a1 a2 z0) (nX4_best l hl0 D cI cJ cZ ad sx a1 a2 z0) (cwV 2 C.2.2.2.2 gL_best_X4_best rfl rfl rfl (by decide +kernel) ⟨Nat.le_of_ble_eq_true rfl, Nat.le_of_ble_eq_true rfl⟩) (cwV 2 C.2.2.2.2 gL_best_X4_best rfl rfl rfl (by decide +kernel) ⟨Nat.le_of_ble_eq_true rfl, Nat.le_of_ble_eq_true rfl⟩) ⟨Nat.le_of_ble_eq_true rfl, Nat.le_of_ble_eq_true rfl⟩ rfl hl.1 rfl dL_best_5 dL_best_8 dL_best_9 dL_best_10 (by decide) dL_best_25 dL_best_26 hret (fun E z1 hr q9 ce H1 locs1 hP1 hS1 h1 h2 h3 => ?_)
  have hE1 := hE E z1 hr
  subst hr
  rcases cB_ne hE1 with rfl | rfl | rfl
  · refine kL_c (wu := wW cI cJ cZ ad ao) (name := "") C htab hX [] ⟨0, 10, 13, 13⟩ [⟨0, 10, 17, 15⟩, ⟨0, 10, 21, 48⟩] rfl (fun z hz => absurd hz List.not_mem_nil) (by decide) (by decide) (by decide +kernel) (by decide) h1 h2 h3 ?_
    refine lv_astore hx hb dL_best_13 hl (by decide) rfl (fun ls hl => ?_)
    refine lv_iconst (v := 1) hx hb dL_best_15 (by decide) ?_
    exact hret 16 H1 locs1 ls 1 (z1, f) _ _ rfl dL_best_16 hP1 hS1 (Nat.le_refl _) (Nat.le_refl _)
  · refine kL_c (wu := wW cI cJ cZ ad ao) (name := "") C htab hX [⟨0, 10, 13, 13⟩] ⟨0, 10, 17, 15⟩ [⟨0, 10, 21, 48⟩] rfl (fun z hz => by simp only [List.mem_cons, List.not_mem_nil, or_false] at hz; subst hz; exact ⟨by decide, eIdx, by decide +kernel, by decide⟩) (by decide) (by decide) (by decide +kernel) (by decide) h1 h2 h3 ?_
    refine lv_astore hx hb dL_best_17 hl (by decide) rfl (fun ls hl => ?_)
    refine lv_iconst (v := 2) hx hb dL_best_19 (by decide) ?_
    exact hret 20 H1 locs1 ls 2 (z1, f) _ _ rfl dL_best_20 hP1 hS1 (Nat.le_refl _) (Nat.le_refl _)
  · refine kL_c (wu := wW cI cJ cZ ad ao) (name := "") C htab hX [⟨0, 10, 13, 13⟩, ⟨0, 10, 17, 15⟩] ⟨0, 10, 21, 48⟩ [] rfl (fun z hz => by simp only [List.mem_cons, List.not_mem_nil, or_false] at hz; rcases hz with rfl | rfl; exact ⟨by decide, eIdx, by decide +kernel, by decide⟩; exact ⟨by decide, eArg, by decide +kernel, by decide⟩) (by decide) (by decide) (by decide +kernel) (by decide) h1 h2 h3 ?_
    refine lv_astore hx hb dL_best_21 hl (by decide) rfl (fun ls hl => ?_)
    refine lv_iconst (v := 3) hx hb dL_best_23 (by decide) ?_
    exact hret 24 H1 locs1 ls 3 (z1, f) _ _ rfl dL_best_24 hP1 hS1 (Nat.le_refl _) (Nat.le_refl _)
abbrev rmL_depth : Room := { frames := 8, cells := 1, slots := 6, locals := 128 }
set_option maxRecDepth 100000 in
set_option maxHeartbeats 4000000 in
theorem mL_depth (l : Launch) (hl0 : l.stackTraces = false) (D : va_G) (cI cJ cZ : ClassId) (ad sx : Nat → Nat) (ao : Nat) (f : Nat → Int64) (N : Nat) (a1 : Int32) (a2 : Int32) (a3 : Int32) (z0 : SH) : ∀ (r : (String ⊕ Int32) × SH) (sz : Nat), fX4_depth N a1 a2 a3 z0 = some r → (∀ (E : String) (z1 : SH), r = (.inl E, z1) → c2 E ≠ 0) → Met l yL_depth wsL_depth rmL_depth (cPX (thY sx) D vwCl (tyl cI cJ cZ) (wW cI cJ cZ ad ao (z0, f)) sz [.ref (ad 0), .int a1, .int a2, .int a3, .ref ao]) (va_Qi (fun v u => (v, u) = wrI c2 f r) (fun u t => va_P D vwCl (wW cI cJ cZ ad ao u) t.heap) (va_A (wW cI cJ cZ ad ao (z0, f)) sz)) 1 6 (va_A (wW cI cJ cZ ad ao (z0, f)) sz) := by
  intro r sz h hE
  refine ofL (wu := wW cI cJ cZ ad ao) (cc := cL_depth) (maxL := 6) (hh := [(0, 12, 15, 13), (0, 12, 19, 15)]) (by decide) rfl (Nat.le_of_ble_eq_true rfl) (fun p e s m below meth c ls hsz C hK hD hA htab hX hret hP hl => ?_)
  have hx := C.1
  have hb := C.2.1
  refine lv_aload hx hb dL_depth_0 (lv_at hl 4 rfl) ?_
  refine lv_iconst (v := 0) hx hb dL_depth_2 (by decide) ?_
  refine lv_aload_n hx hb dL_depth_3 rfl (lv_at hl 0 rfl) ?_
  refine lv_iload_n hx hb dL_depth_4 rfl (lv_at hl 1 rfl) ?_
  refine lv_iload_n hx hb dL_depth_5 rfl (lv_at hl 2 rfl) ?_
  refine lv_iload_n hx hb dL_depth_6 rfl (lv_at hl 3 rfl) ?_
  refine kL_i (As := [.int a1, .int a2, .int a3]) (tgt := 23) C hK hD hA hX h c2 hP va_S.rf (mX4_depth l D cI cJ cZ ad N a1 a2 a3 z0) (nX4_depth l hl0 D cI cJ cZ ad sx N a1 a2 a3 z0) (cwV 3 C.2.2.2.2 gL_depth_X4_depth rfl rfl rfl (by decide +kernel) ⟨Nat.le_of_ble_eq_true rfl, Nat.le_of_ble_eq_true rfl⟩) (cwV 3 C.2.2.2.2 gL_depth_X4_depth rfl rfl rfl (by decide +kernel) ⟨Nat.le_of_ble_eq_true rfl, Nat.le_of_ble_eq_true rfl⟩) ⟨Nat.le_of_ble_eq_true rfl, Nat.le_of_ble_eq_true rfl⟩ rfl hl.1 rfl dL_depth_7 dL_depth_10 dL_depth_11 dL_depth_12 (by decide) dL_depth_23 dL_depth_24 hret (fun E z1 hr q9 ce H1 locs1 hP1 hS1 h1 h2 h3 => ?_)
  have hE1 := hE E z1 hr
  subst hr
  rcases c2_ne hE1 with rfl | rfl
  · refine kL_c (wu := wW cI cJ cZ ad ao) (name := "") C htab hX [] ⟨0, 12, 15, 13⟩ [⟨0, 12, 19, 15⟩] rfl (fun z hz => absurd hz List.not_mem_nil) (by decide) (by decide) (by decide +kernel) (by decide) h1 h2 h3 ?_
    refine lv_astore hx hb dL_depth_15 hl (by decide) rfl (fun ls hl => ?_)
    refine lv_iconst (v := 1) hx hb dL_depth_17 (by decide) ?_
    exact hret 18 H1 locs1 ls 1 (z1, f) _ _ rfl dL_depth_18 hP1 hS1 (Nat.le_refl _) (Nat.le_refl _)
  · refine kL_c (wu := wW cI cJ cZ ad ao) (name := "") C htab hX [⟨0, 12, 15, 13⟩] ⟨0, 12, 19, 15⟩ [] rfl (fun z hz => by simp only [List.mem_cons, List.not_mem_nil, or_false] at hz; subst hz; exact ⟨by decide, eIdx, by decide +kernel, by decide⟩) (by decide) (by decide) (by decide +kernel) (by decide) h1 h2 h3 ?_
    refine lv_astore hx hb dL_depth_19 hl (by decide) rfl (fun ls hl => ?_)
    refine lv_iconst (v := 2) hx hb dL_depth_21 (by decide) ?_
    exact hret 22 H1 locs1 ls 2 (z1, f) _ _ rfl dL_depth_22 hP1 hS1 (Nat.le_refl _) (Nat.le_refl _)
abbrev rmL_level : Room := { frames := 8, cells := 1, slots := 6, locals := 128 }
set_option maxRecDepth 100000 in
set_option maxHeartbeats 4000000 in
theorem mL_level (l : Launch) (hl0 : l.stackTraces = false) (D : va_G) (cI cJ cZ : ClassId) (ad sx : Nat → Nat) (ao : Nat) (f : Nat → Int64) (N : Nat) (a1 : Int32) (a2 : Int32) (a3 : Int32) (a4 : Int32) (z0 : SH) : ∀ (r : (String ⊕ Int32) × SH) (sz : Nat), fX4_level N a1 a2 a3 a4 z0 = some r → (∀ (E : String) (z1 : SH), r = (.inl E, z1) → c2 E ≠ 0) → Met l yL_level wsL_level rmL_level (cPX (thY sx) D vwCl (tyl cI cJ cZ) (wW cI cJ cZ ad ao (z0, f)) sz [.ref (ad 0), .int a1, .int a2, .int a3, .int a4, .ref ao]) (va_Qi (fun v u => (v, u) = wrI c2 f r) (fun u t => va_P D vwCl (wW cI cJ cZ ad ao u) t.heap) (va_A (wW cI cJ cZ ad ao (z0, f)) sz)) 1 6 (va_A (wW cI cJ cZ ad ao (z0, f)) sz) := by
  intro r sz h hE
  refine ofL (wu := wW cI cJ cZ ad ao) (cc := cL_level) (maxL := 7) (hh := [(0, 14, 17, 13), (0, 14, 21, 15)]) (by decide) rfl (Nat.le_of_ble_eq_true rfl) (fun p e s m below meth c ls hsz C hK hD hA htab hX hret hP hl => ?_)
  have hx := C.1
  have hb := C.2.1
  refine lv_aload hx hb dL_level_0 (lv_at hl 5 rfl) ?_
  refine lv_iconst (v := 0) hx hb dL_level_2 (by decide) ?_
  refine lv_aload_n hx hb dL_level_3 rfl (lv_at hl 0 rfl) ?_
  refine lv_iload_n hx hb dL_level_4 rfl (lv_at hl 1 rfl) ?_
  refine lv_iload_n hx hb dL_level_5 rfl (lv_at hl 2 rfl) ?_
  refine lv_iload_n hx hb dL_level_6 rfl (lv_at hl 3 rfl) ?_
  refine lv_iload hx hb dL_level_7 (lv_at hl 4 rfl) ?_
  refine kL_i (As := [.int a1, .int a2, .int a3, .int a4]) (tgt := 25) C hK hD hA hX h c2 hP va_S.rf (mX4_level l D cI cJ cZ ad N a1 a2 a3 a4 z0) (nX4_level l hl0 D cI cJ cZ ad sx N a1 a2 a3 a4 z0) (cwV 4 C.2.2.2.2 gL_level_X4_level rfl rfl rfl (by decide +kernel) ⟨Nat.le_of_ble_eq_true rfl, Nat.le_of_ble_eq_true rfl⟩) (cwV 4 C.2.2.2.2 gL_level_X4_level rfl rfl rfl (by decide +kernel) ⟨Nat.le_of_ble_eq_true rfl, Nat.le_of_ble_eq_true rfl⟩) ⟨Nat.le_of_ble_eq_true rfl, Nat.le_of_ble_eq_true rfl⟩ rfl hl.1 rfl dL_level_9 dL_level_12 dL_level_13 dL_level_14 (by decide) dL_level_25 dL_level_26 hret (fun E z1 hr q9 ce H1 locs1 hP1 hS1 h1 h2 h3 => ?_)
  have hE1 := hE E z1 hr
  subst hr
  rcases c2_ne hE1 with rfl | rfl
  · refine kL_c (wu := wW cI cJ cZ ad ao) (name := "") C htab hX [] ⟨0, 14, 17, 13⟩ [⟨0, 14, 21, 15⟩] rfl (fun z hz => absurd hz List.not_mem_nil) (by decide) (by decide) (by decide +kernel) (by decide) h1 h2 h3 ?_
    refine lv_astore hx hb dL_level_17 hl (by decide) rfl (fun ls hl => ?_)
    refine lv_iconst (v := 1) hx hb dL_level_19 (by decide) ?_
    exact hret 20 H1 locs1 ls 1 (z1, f) _ _ rfl dL_level_20 hP1 hS1 (Nat.le_refl _) (Nat.le_refl _)
  · refine kL_c (wu := wW cI cJ cZ ad ao) (name := "") C htab hX [⟨0, 14, 17, 13⟩] ⟨0, 14, 21, 15⟩ [] rfl (fun z hz => by simp only [List.mem_cons, List.not_mem_nil, or_false] at hz; subst hz; exact ⟨by decide, eIdx, by decide +kernel, by decide⟩) (by decide) (by decide) (by decide +kernel) (by decide) h1 h2 h3 ?_
    refine lv_astore hx hb dL_level_21 hl (by decide) rfl (fun ls hl => ?_)
    refine lv_iconst (v := 2) hx hb dL_level_23 (by decide) ?_
    exact hret 24 H1 locs1 ls 2 (z1, f) _ _ rfl dL_level_24 hP1 hS1 (Nat.le_refl _) (Nat.le_refl _)
abbrev rmL_about : Room := { frames := 8, cells := 1, slots := 6, locals := 125 }
set_option maxRecDepth 100000 in
set_option maxHeartbeats 4000000 in
theorem mL_about (l : Launch) (hl0 : l.stackTraces = false) (D : va_G) (cI cJ cZ : ClassId) (ad sx : Nat → Nat) (ao : Nat) (f : Nat → Int64) (a1 : Int32) (a2 : Int32) (z0 : SH) : ∀ (r : (String ⊕ Int32) × SH) (sz : Nat), fX4_about a1 a2 z0 = some r → (∀ (E : String) (z1 : SH), r = (.inl E, z1) → c2 E ≠ 0) → Met l yL_about wsL_about rmL_about (cPX (thY sx) D vwCl (tyl cI cJ cZ) (wW cI cJ cZ ad ao (z0, f)) sz [.ref (ad 0), .int a1, .int a2, .ref ao]) (va_Qi (fun v u => (v, u) = wrI c2 f r) (fun u t => va_P D vwCl (wW cI cJ cZ ad ao u) t.heap) (va_A (wW cI cJ cZ ad ao (z0, f)) sz)) 1 6 (va_A (wW cI cJ cZ ad ao (z0, f)) sz) := by
  intro r sz h hE
  refine ofL (wu := wW cI cJ cZ ad ao) (cc := cL_about) (maxL := 5) (hh := [(0, 10, 13, 13), (0, 10, 17, 15)]) (by decide) rfl (Nat.le_of_ble_eq_true rfl) (fun p e s m below meth c ls hsz C hK hD hA htab hX hret hP hl => ?_)
  have hx := C.1
  have hb := C.2.1
  refine lv_aload_n hx hb dL_about_0 rfl (lv_at hl 3 rfl) ?_
  refine lv_iconst (v := 0) hx hb dL_about_1 (by decide) ?_
  refine lv_aload_n hx hb dL_about_2 rfl (lv_at hl 0 rfl) ?_
  refine lv_iload_n hx hb dL_about_3 rfl (lv_at hl 1 rfl) ?_
  refine lv_iload_n hx hb dL_about_4 rfl (lv_at hl 2 rfl) ?_
  refine kL_i (As := [.int a1, .int a2]) (tgt := 21) C hK hD hA hX h c2 hP va_S.rf (mX4_about l D cI cJ cZ ad a1 a2 z0) (nX4_about l hl0 D cI cJ cZ ad sx a1 a2 z0) (cwV 2 C.2.2.2.2 gL_about_X4_about rfl rfl rfl (by decide +kernel) ⟨Nat.le_of_ble_eq_true rfl, Nat.le_of_ble_eq_true rfl⟩) (cwV 2 C.2.2.2.2 gL_about_X4_about rfl rfl rfl (by decide +kernel) ⟨Nat.le_of_ble_eq_true rfl, Nat.le_of_ble_eq_true rfl⟩) ⟨Nat.le_of_ble_eq_true rfl, Nat.le_of_ble_eq_true rfl⟩ rfl hl.1 rfl dL_about_5 dL_about_8 dL_about_9 dL_about_10 (by decide) dL_about_21 dL_about_22 hret (fun E z1 hr q9 ce H1 locs1 hP1 hS1 h1 h2 h3 => ?_)
  have hE1 := hE E z1 hr
  subst hr
  rcases c2_ne hE1 with rfl | rfl
  · refine kL_c (wu := wW cI cJ cZ ad ao) (name := "") C htab hX [] ⟨0, 10, 13, 13⟩ [⟨0, 10, 17, 15⟩] rfl (fun z hz => absurd hz List.not_mem_nil) (by decide) (by decide) (by decide +kernel) (by decide) h1 h2 h3 ?_
    refine lv_astore hx hb dL_about_13 hl (by decide) rfl (fun ls hl => ?_)
    refine lv_iconst (v := 1) hx hb dL_about_15 (by decide) ?_
    exact hret 16 H1 locs1 ls 1 (z1, f) _ _ rfl dL_about_16 hP1 hS1 (Nat.le_refl _) (Nat.le_refl _)
  · refine kL_c (wu := wW cI cJ cZ ad ao) (name := "") C htab hX [⟨0, 10, 13, 13⟩] ⟨0, 10, 17, 15⟩ [] rfl (fun z hz => by simp only [List.mem_cons, List.not_mem_nil, or_false] at hz; subst hz; exact ⟨by decide, eIdx, by decide +kernel, by decide⟩) (by decide) (by decide) (by decide +kernel) (by decide) h1 h2 h3 ?_
    refine lv_astore hx hb dL_about_17 hl (by decide) rfl (fun ls hl => ?_)
    refine lv_iconst (v := 2) hx hb dL_about_19 (by decide) ?_
    exact hret 20 H1 locs1 ls 2 (z1, f) _ _ rfl dL_about_20 hP1 hS1 (Nat.le_refl _) (Nat.le_refl _)
abbrev rmL_ahead : Room := { frames := 8, cells := 1, slots := 6, locals := 125 }
set_option maxRecDepth 100000 in
set_option maxHeartbeats 4000000 in
theorem mL_ahead (l : Launch) (hl0 : l.stackTraces = false) (D : va_G) (cI cJ cZ : ClassId) (ad sx : Nat → Nat) (ao : Nat) (f : Nat → Int64) (N : Nat) (a1 : Int32) (z0 : SH) : ∀ (r : (String ⊕ Int32) × SH) (sz : Nat), fX4_ahead N a1 z0 = some r → (∀ (E : String) (z1 : SH), r = (.inl E, z1) → cA E ≠ 0) → Met l yL_ahead wsL_ahead rmL_ahead (cPX (thY sx) D vwCl (tyl cI cJ cZ) (wW cI cJ cZ ad ao (z0, f)) sz [.ref (ad 0), .int a1, .ref ao]) (va_Qi (fun v u => (v, u) = wrI cA f r) (fun u t => va_P D vwCl (wW cI cJ cZ ad ao u) t.heap) (va_A (wW cI cJ cZ ad ao (z0, f)) sz)) 1 6 (va_A (wW cI cJ cZ ad ao (z0, f)) sz) := by
  intro r sz h hE
  refine ofL (wu := wW cI cJ cZ ad ao) (cc := cL_ahead) (maxL := 4) (hh := [(0, 9, 12, 13), (0, 9, 15, 48)]) (by decide) rfl (Nat.le_of_ble_eq_true rfl) (fun p e s m below meth c ls hsz C hK hD hA htab hX hret hP hl => ?_)
  have hx := C.1
  have hb := C.2.1
  refine lv_aload_n hx hb dL_ahead_0 rfl (lv_at hl 2 rfl) ?_
  refine lv_iconst (v := 0) hx hb dL_ahead_1 (by decide) ?_
  refine lv_aload_n hx hb dL_ahead_2 rfl (lv_at hl 0 rfl) ?_
  refine lv_iload_n hx hb dL_ahead_3 rfl (lv_at hl 1 rfl) ?_
  refine kL_i (As := [.int a1]) (tgt := 18) C hK hD hA hX h cA hP va_S.rf (mX4_ahead l D cI cJ cZ ad N a1 z0) (nX4_ahead l hl0 D cI cJ cZ ad sx N a1 z0) (cwV 1 C.2.2.2.2 gL_ahead_X4_ahead rfl rfl rfl (by decide +kernel) ⟨Nat.le_of_ble_eq_true rfl, Nat.le_of_ble_eq_true rfl⟩) (cwV 1 C.2.2.2.2 gL_ahead_X4_ahead rfl rfl rfl (by decide +kernel) ⟨Nat.le_of_ble_eq_true rfl, Nat.le_of_ble_eq_true rfl⟩) ⟨Nat.le_of_ble_eq_true rfl, Nat.le_of_ble_eq_true rfl⟩ rfl hl.1 rfl dL_ahead_4 dL_ahead_7 dL_ahead_8 dL_ahead_9 (by decide) dL_ahead_18 dL_ahead_19 hret (fun E z1 hr q9 ce H1 locs1 hP1 hS1 h1 h2 h3 => ?_)
  have hE1 := hE E z1 hr
  subst hr
  rcases cA_ne hE1 with rfl | rfl
  · refine kL_c (wu := wW cI cJ cZ ad ao) (name := "") C htab hX [] ⟨0, 9, 12, 13⟩ [⟨0, 9, 15, 48⟩] rfl (fun z hz => absurd hz List.not_mem_nil) (by decide) (by decide) (by decide +kernel) (by decide) h1 h2 h3 ?_
    refine lv_astore_n hx hb dL_ahead_12 rfl hl (by decide) rfl (fun ls hl => ?_)
    refine lv_iconst (v := 1) hx hb dL_ahead_13 (by decide) ?_
    exact hret 14 H1 locs1 ls 1 (z1, f) _ _ rfl dL_ahead_14 hP1 hS1 (Nat.le_refl _) (Nat.le_refl _)
  · refine kL_c (wu := wW cI cJ cZ ad ao) (name := "") C htab hX [⟨0, 9, 12, 13⟩] ⟨0, 9, 15, 48⟩ [] rfl (fun z hz => by simp only [List.mem_cons, List.not_mem_nil, or_false] at hz; subst hz; exact ⟨by decide, eIdx, by decide +kernel, by decide⟩) (by decide) (by decide) (by decide +kernel) (by decide) h1 h2 h3 ?_
    refine lv_astore_n hx hb dL_ahead_15 rfl hl (by decide) rfl (fun ls hl => ?_)
    refine lv_iconst (v := 2) hx hb dL_ahead_16 (by decide) ?_
    exact hret 17 H1 locs1 ls 2 (z1, f) _ _ rfl dL_ahead_17 hP1 hS1 (Nat.le_refl _) (Nat.le_refl _)
abbrev rmL_cash : Room := { frames := 8, cells := 1, slots := 6, locals := 124 }
set_option maxRecDepth 100000 in
set_option maxHeartbeats 4000000 in
theorem mL_cash (l : Launch) (hl0 : l.stackTraces = false) (D : va_G) (cI cJ cZ : ClassId) (ad sx : Nat → Nat) (ao : Nat) (f : Nat → Int64) (a1 : Int32) (a2 : Int32) (z0 : SH) : ∀ (r : (String ⊕ Int64) × SH) (sz : Nat), fX4_cash a1 a2 z0 = some r → (∀ (E : String) (z1 : SH), r = (.inl E, z1) → c2 E ≠ 0) → Met l yL_cash wsL_cash rmL_cash (cPX (thY sx) D vwCl (tyl cI cJ cZ) (wW cI cJ cZ ad ao (z0, f)) sz [.ref (ad 0), .int a1, .int a2, .ref ao]) (va_Qi (fun v u => (v, u) = wrL c2 f r) (fun u t => va_P D vwCl (wW cI cJ cZ ad ao u) t.heap) (va_A (wW cI cJ cZ ad ao (z0, f)) sz)) 1 6 (va_A (wW cI cJ cZ ad ao (z0, f)) sz) := by
  intro r sz h hE
  refine ofL (wu := wW cI cJ cZ ad ao) (cc := cL_cash) (maxL := 5) (hh := [(0, 9, 12, 13), (0, 9, 16, 15)]) (by decide) rfl (Nat.le_of_ble_eq_true rfl) (fun p e s m below meth c ls hsz C hK hD hA htab hX hret hP hl => ?_)
  have hx := C.1
  have hb := C.2.1
  refine lv_aload_n hx hb dL_cash_0 rfl (lv_at hl 3 rfl) ?_
  refine lv_iconst (v := 0) hx hb dL_cash_1 (by decide) ?_
  refine lv_aload_n hx hb dL_cash_2 rfl (lv_at hl 0 rfl) ?_
  refine lv_iload_n hx hb dL_cash_3 rfl (lv_at hl 1 rfl) ?_
  refine lv_iload_n hx hb dL_cash_4 rfl (lv_at hl 2 rfl) ?_
  refine kL_l (As := [.int a1, .int a2]) (tgt := 20) C hK hD hA hX h c2 hP va_S.rf (mX4_cash l D cI cJ cZ ad a1 a2 z0) (nX4_cash l hl0 D cI cJ cZ ad sx a1 a2 z0) (cwV 2 C.2.2.2.2 gL_cash_X4_cash rfl rfl rfl (by decide +kernel) ⟨Nat.le_of_ble_eq_true rfl, Nat.le_of_ble_eq_true rfl⟩) (cwV 2 C.2.2.2.2 gL_cash_X4_cash rfl rfl rfl (by decide +kernel) ⟨Nat.le_of_ble_eq_true rfl, Nat.le_of_ble_eq_true rfl⟩) ⟨Nat.le_of_ble_eq_true rfl, Nat.le_of_ble_eq_true rfl⟩ rfl hl.1 rfl dL_cash_5 dL_cash_8 dL_cash_9 (by decide) dL_cash_20 dL_cash_21 hret (fun E z1 hr q9 ce H1 locs1 hP1 hS1 h1 h2 h3 => ?_)
  have hE1 := hE E z1 hr
  subst hr
  rcases c2_ne hE1 with rfl | rfl
  · refine kL_c (wu := wW cI cJ cZ ad ao) (name := "") C htab hX [] ⟨0, 9, 12, 13⟩ [⟨0, 9, 16, 15⟩] rfl (fun z hz => absurd hz List.not_mem_nil) (by decide) (by decide) (by decide +kernel) (by decide) h1 h2 h3 ?_
    refine lv_astore hx hb dL_cash_12 hl (by decide) rfl (fun ls hl => ?_)
    refine lv_iconst (v := 1) hx hb dL_cash_14 (by decide) ?_
    exact hret 15 H1 locs1 ls 1 (z1, f) _ _ rfl dL_cash_15 hP1 hS1 (Nat.le_refl _) (Nat.le_refl _)
  · refine kL_c (wu := wW cI cJ cZ ad ao) (name := "") C htab hX [⟨0, 9, 12, 13⟩] ⟨0, 9, 16, 15⟩ [] rfl (fun z hz => by simp only [List.mem_cons, List.not_mem_nil, or_false] at hz; subst hz; exact ⟨by decide, eIdx, by decide +kernel, by decide⟩) (by decide) (by decide) (by decide +kernel) (by decide) h1 h2 h3 ?_
    refine lv_astore hx hb dL_cash_16 hl (by decide) rfl (fun ls hl => ?_)
    refine lv_iconst (v := 2) hx hb dL_cash_18 (by decide) ?_
    exact hret 19 H1 locs1 ls 2 (z1, f) _ _ rfl dL_cash_19 hP1 hS1 (Nat.le_refl _) (Nat.le_refl _)
