abbrev rmL_shares : Room := { frames := 8, cells := 1, slots := 6, locals := 126 }
set_option maxRecDepth 100000 in
set_option maxHeartbeats 4000000 in
theorem mL_shares (l : Launch) (hl0 : l.stackTraces = false) (D : va_G) (cI cJ cZ : ClassId) (ad sx : Nat → Nat) (ao : Nat) (f : Nat → Int64) (a1 : Int32) (a2 : Int32) (a3 : Int32) (z0 : SH) : ∀ (r : (String ⊕ Int32) × SH) (sz : Nat), fX4_shares a1 a2 a3 z0 = some r → (∀ (E : String) (z1 : SH), r = (.inl E, z1) → c2 E ≠ 0) → Met l yL_shares wsL_shares rmL_shares (cPX (thY sx) D vwCl (tyl cI cJ cZ) (wW cI cJ cZ ad ao (z0, f)) sz [.ref (ad 0), .int a1, .int a2, .int a3, .ref ao]) (va_Qi (fun v u => (v, u) = wrI c2 f r) (fun u t => va_P D vwCl (wW cI cJ cZ ad ao u) t.heap) (va_A (wW cI cJ cZ ad ao (z0, f)) sz)) 1 6 (va_A (wW cI cJ cZ ad ao (z0, f)) sz) := by
  intro r sz h hE
  refine ofL (wu := wW cI cJ cZ ad ao) (cc := cL_shares) (maxL := 6) (hh := [(0, 12, 15, 13), (0, 12, 19, 15)]) (by decide) rfl (Nat.le_of_ble_eq_true rfl) (fun p e s m below meth c ls hsz C hK hD hA htab hX hret hP hl => ?_)
  have hx := C.1
  have hb := C.2.1
  refine lv_aload hx hb dL_shares_0 (lv_at hl 4 rfl) ?_
  refine lv_iconst (v := 0) hx hb dL_shares_2 (by decide) ?_
  refine lv_aload_n hx hb dL_shares_3 rfl (lv_at hl 0 rfl) ?_
  refine lv_iload_n hx hb dL_shares_4 rfl (lv_at hl 1 rfl) ?_
  refine lv_iload_n hx hb dL_shares_5 rfl (lv_at hl 2 rfl) ?_
  refine lv_iload_n hx hb dL_shares_6 rfl (lv_at hl 3 rfl) ?_
  refine kL_i (As := [.int a1, .int a2, .int a3]) (tgt := 23) C hK hD hA hX h c2 hP va_S.rf (mX4_shares l D cI cJ cZ ad a1 a2 a3 z0) (nX4_shares l hl0 D cI cJ cZ ad sx a1 a2 a3 z0) (cwV 3 C.2.2.2.2 gL_shares_X4_shares rfl rfl rfl (by decide +kernel) ⟨Nat.le_of_ble_eq_true rfl, Nat.le_of_ble_eq_true rfl⟩) (cwV 3 C.2.2.2.2 gL_shares_X4_shares rfl rfl rfl (by decide +kernel) ⟨Nat.le_of_ble_eq_true rfl, Nat.le_of_ble_eq_true rfl⟩) ⟨Nat.le_of_ble_eq_true rfl, Nat.le_of_ble_eq_true rfl⟩ rfl hl.1 rfl dL_shares_7 dL_shares_10 dL_shares_11 dL_shares_12 (by decide) dL_shares_23 dL_shares_24 hret (fun E z1 hr q9 ce H1 locs1 hP1 hS1 h1 h2 h3 => ?_)
  have hE1 := hE E z1 hr
  subst hr
  rcases c2_ne hE1 with rfl | rfl
  · refine kL_c (wu := wW cI cJ cZ ad ao) (name := "") C htab hX [] ⟨0, 12, 15, 13⟩ [⟨0, 12, 19, 15⟩] rfl (fun z hz => absurd hz List.not_mem_nil) (by decide) (by decide) (by decide +kernel) (by decide) h1 h2 h3 ?_
    refine lv_astore hx hb dL_shares_15 hl (by decide) rfl (fun ls hl => ?_)
    refine lv_iconst (v := 1) hx hb dL_shares_17 (by decide) ?_
    exact hret 18 H1 locs1 ls 1 (z1, f) _ _ rfl dL_shares_18 hP1 hS1 (Nat.le_refl _) (Nat.le_refl _)
  · refine kL_c (wu := wW cI cJ cZ ad ao) (name := "") C htab hX [⟨0, 12, 15, 13⟩] ⟨0, 12, 19, 15⟩ [] rfl (fun z hz => by simp only [List.mem_cons, List.not_mem_nil, or_false] at hz; subst hz; exact ⟨by decide, eIdx, by decide +kernel, by decide⟩) (by decide) (by decide) (by decide +kernel) (by decide) h1 h2 h3 ?_
    refine lv_astore hx hb dL_shares_19 hl (by decide) rfl (fun ls hl => ?_)
    refine lv_iconst (v := 2) hx hb dL_shares_21 (by decide) ?_
    exact hret 22 H1 locs1 ls 2 (z1, f) _ _ rfl dL_shares_22 hP1 hS1 (Nat.le_refl _) (Nat.le_refl _)
abbrev rmL_count : Room := { frames := 7, cells := 1, slots := 6, locals := 103 }
set_option maxRecDepth 100000 in
set_option maxHeartbeats 4000000 in
theorem mL_count (l : Launch) (hl0 : l.stackTraces = false) (D : va_G) (cI cJ cZ : ClassId) (ad sx : Nat → Nat) (ao : Nat) (f : Nat → Int64) (a1 : Int32) (z0 : SH) : ∀ (r : (String ⊕ Int32) × SH) (sz : Nat), fX4_count a1 z0 = some r → (∀ (E : String) (z1 : SH), r = (.inl E, z1) → c1 E ≠ 0) → Met l yL_count wsL_count rmL_count (cPX (thY sx) D vwCl (tyl cI cJ cZ) (wW cI cJ cZ ad ao (z0, f)) sz [.ref (ad 0), .int a1, .ref ao]) (va_Qi (fun v u => (v, u) = wrI c1 f r) (fun u t => va_P D vwCl (wW cI cJ cZ ad ao u) t.heap) (va_A (wW cI cJ cZ ad ao (z0, f)) sz)) 1 6 (va_A (wW cI cJ cZ ad ao (z0, f)) sz) := by
  intro r sz h hE
  refine ofL (wu := wW cI cJ cZ ad ao) (cc := cL_count) (maxL := 4) (hh := [(0, 9, 12, 15)]) (by decide) rfl (Nat.le_of_ble_eq_true rfl) (fun p e s m below meth c ls hsz C hK hD hA htab hX hret hP hl => ?_)
  have hx := C.1
  have hb := C.2.1
  refine lv_aload_n hx hb dL_count_0 rfl (lv_at hl 2 rfl) ?_
  refine lv_iconst (v := 0) hx hb dL_count_1 (by decide) ?_
  refine lv_aload_n hx hb dL_count_2 rfl (lv_at hl 0 rfl) ?_
  refine lv_iload_n hx hb dL_count_3 rfl (lv_at hl 1 rfl) ?_
  refine kL_i (As := [.int a1]) (tgt := 15) C hK hD hA hX h c1 hP va_S.rf (mX4_count l D cI cJ cZ ad a1 z0) (nX4_count l hl0 D cI cJ cZ ad sx a1 z0) (cwV 1 C.2.2.2.2 gL_count_X4_count rfl rfl rfl (by decide +kernel) ⟨Nat.le_of_ble_eq_true rfl, Nat.le_of_ble_eq_true rfl⟩) (cwV 1 C.2.2.2.2 gL_count_X4_count rfl rfl rfl (by decide +kernel) ⟨Nat.le_of_ble_eq_true rfl, Nat.le_of_ble_eq_true rfl⟩) ⟨Nat.le_of_ble_eq_true rfl, Nat.le_of_ble_eq_true rfl⟩ rfl hl.1 rfl dL_count_4 dL_count_7 dL_count_8 dL_count_9 (by decide) dL_count_15 dL_count_16 hret (fun E z1 hr q9 ce H1 locs1 hP1 hS1 h1 h2 h3 => ?_)
  have hE1 := hE E z1 hr
  subst hr
  rcases c1_ne hE1 with rfl
  · refine kL_c (wu := wW cI cJ cZ ad ao) (name := "") C htab hX [] ⟨0, 9, 12, 15⟩ [] rfl (fun z hz => absurd hz List.not_mem_nil) (by decide) (by decide) (by decide +kernel) (by decide) h1 h2 h3 ?_
    refine lv_astore_n hx hb dL_count_12 rfl hl (by decide) rfl (fun ls hl => ?_)
    refine lv_iconst (v := 1) hx hb dL_count_13 (by decide) ?_
    exact hret 14 H1 locs1 ls 1 (z1, f) _ _ rfl dL_count_14 hP1 hS1 (Nat.le_refl _) (Nat.le_refl _)
abbrev rmL_trade : Room := { frames := 7, cells := 1, slots := 6, locals := 104 }
set_option maxRecDepth 100000 in
set_option maxHeartbeats 4000000 in
theorem mL_trade (l : Launch) (hl0 : l.stackTraces = false) (D : va_G) (cI cJ cZ : ClassId) (ad sx : Nat → Nat) (ao : Nat) (f : Nat → Int64) (a1 : Int32) (a2 : Int32) (z0 : SH) : ∀ (r : (String ⊕ Int32) × SH) (sz : Nat), fX4_trade a1 a2 z0 = some r → (∀ (E : String) (z1 : SH), r = (.inl E, z1) → c2 E ≠ 0) → Met l yL_trade wsL_trade rmL_trade (cPX (thY sx) D vwCl (tyl cI cJ cZ) (wW cI cJ cZ ad ao (z0, f)) sz [.ref (ad 0), .int a1, .int a2, .ref ao]) (va_Qi (fun v u => (v, u) = wrI c2 f r) (fun u t => va_P D vwCl (wW cI cJ cZ ad ao u) t.heap) (va_A (wW cI cJ cZ ad ao (z0, f)) sz)) 1 6 (va_A (wW cI cJ cZ ad ao (z0, f)) sz) := by
  intro r sz h hE
  refine ofL (wu := wW cI cJ cZ ad ao) (cc := cL_trade) (maxL := 5) (hh := [(0, 10, 13, 13), (0, 10, 17, 15)]) (by decide) rfl (Nat.le_of_ble_eq_true rfl) (fun p e s m below meth c ls hsz C hK hD hA htab hX hret hP hl => ?_)
  have hx := C.1
  have hb := C.2.1
  refine lv_aload_n hx hb dL_trade_0 rfl (lv_at hl 3 rfl) ?_
  refine lv_iconst (v := 0) hx hb dL_trade_1 (by decide) ?_
  refine lv_aload_n hx hb dL_trade_2 rfl (lv_at hl 0 rfl) ?_
  refine lv_iload_n hx hb dL_trade_3 rfl (lv_at hl 1 rfl) ?_
  refine lv_iload_n hx hb dL_trade_4 rfl (lv_at hl 2 rfl) ?_
  refine kL_i (As := [.int a1, .int a2]) (tgt := 21) C hK hD hA hX h c2 hP va_S.rf (mX4_trade l D cI cJ cZ ad a1 a2 z0) (nX4_trade l hl0 D cI cJ cZ ad sx a1 a2 z0) (cwV 2 C.2.2.2.2 gL_trade_X4_trade rfl rfl rfl (by decide +kernel) ⟨Nat.le_of_ble_eq_true rfl, Nat.le_of_ble_eq_true rfl⟩) (cwV 2 C.2.2.2.2 gL_trade_X4_trade rfl rfl rfl (by decide +kernel) ⟨Nat.le_of_ble_eq_true rfl, Nat.le_of_ble_eq_true rfl⟩) ⟨Nat.le_of_ble_eq_true rfl, Nat.le_of_ble_eq_true rfl⟩ rfl hl.1 rfl dL_trade_5 dL_trade_8 dL_trade_9 dL_trade_10 (by decide) dL_trade_21 dL_trade_22 hret (fun E z1 hr q9 ce H1 locs1 hP1 hS1 h1 h2 h3 => ?_)
  have hE1 := hE E z1 hr
  subst hr
  rcases c2_ne hE1 with rfl | rfl
  · refine kL_c (wu := wW cI cJ cZ ad ao) (name := "") C htab hX [] ⟨0, 10, 13, 13⟩ [⟨0, 10, 17, 15⟩] rfl (fun z hz => absurd hz List.not_mem_nil) (by decide) (by decide) (by decide +kernel) (by decide) h1 h2 h3 ?_
    refine lv_astore hx hb dL_trade_13 hl (by decide) rfl (fun ls hl => ?_)
    refine lv_iconst (v := 1) hx hb dL_trade_15 (by decide) ?_
    exact hret 16 H1 locs1 ls 1 (z1, f) _ _ rfl dL_trade_16 hP1 hS1 (Nat.le_refl _) (Nat.le_refl _)
  · refine kL_c (wu := wW cI cJ cZ ad ao) (name := "") C htab hX [⟨0, 10, 13, 13⟩] ⟨0, 10, 17, 15⟩ [] rfl (fun z hz => by simp only [List.mem_cons, List.not_mem_nil, or_false] at hz; subst hz; exact ⟨by decide, eIdx, by decide +kernel, by decide⟩) (by decide) (by decide) (by decide +kernel) (by decide) h1 h2 h3 ?_
    refine lv_astore hx hb dL_trade_17 hl (by decide) rfl (fun ls hl => ?_)
    refine lv_iconst (v := 2) hx hb dL_trade_19 (by decide) ?_
    exact hret 20 H1 locs1 ls 2 (z1, f) _ _ rfl dL_trade_20 hP1 hS1 (Nat.le_refl _) (Nat.le_refl _)
abbrev rmL_symbol : Room := { frames := 8, cells := 1, slots := 6, locals := 124 }
set_option maxRecDepth 100000 in
set_option maxHeartbeats 4000000 in
theorem mL_symbol (l : Launch) (hl0 : l.stackTraces = false) (D : va_G) (cI cJ cZ : ClassId) (ad sx : Nat → Nat) (ao : Nat) (f : Nat → Int64) (a1 : Int32) (a2 : Int32) (z0 : SH) : ∀ (r : (String ⊕ Int32) × SH) (sz : Nat), fX4_symbol a1 a2 z0 = some r → (∀ (E : String) (z1 : SH), r = (.inl E, z1) → c2 E ≠ 0) → Met l yL_symbol wsL_symbol rmL_symbol (cPX (thY sx) D vwCl (tyl cI cJ cZ) (wW cI cJ cZ ad ao (z0, f)) sz [.ref (ad 0), .int a1, .int a2, .ref ao]) (va_Qi (fun v u => (v, u) = wrI c2 f r) (fun u t => va_P D vwCl (wW cI cJ cZ ad ao u) t.heap) (va_A (wW cI cJ cZ ad ao (z0, f)) sz)) 1 6 (va_A (wW cI cJ cZ ad ao (z0, f)) sz) := by
  intro r sz h hE
  refine ofL (wu := wW cI cJ cZ ad ao) (cc := cL_symbol) (maxL := 5) (hh := [(0, 10, 13, 13), (0, 10, 17, 15)]) (by decide) rfl (Nat.le_of_ble_eq_true rfl) (fun p e s m below meth c ls hsz C hK hD hA htab hX hret hP hl => ?_)
  have hx := C.1
  have hb := C.2.1
  refine lv_aload_n hx hb dL_symbol_0 rfl (lv_at hl 3 rfl) ?_
  refine lv_iconst (v := 0) hx hb dL_symbol_1 (by decide) ?_
  refine lv_aload_n hx hb dL_symbol_2 rfl (lv_at hl 0 rfl) ?_
  refine lv_iload_n hx hb dL_symbol_3 rfl (lv_at hl 1 rfl) ?_
  refine lv_iload_n hx hb dL_symbol_4 rfl (lv_at hl 2 rfl) ?_
  refine kL_i (As := [.int a1, .int a2]) (tgt := 21) C hK hD hA hX h c2 hP va_S.rf (mX4_symbol l D cI cJ cZ ad a1 a2 z0) (nX4_symbol l hl0 D cI cJ cZ ad sx a1 a2 z0) (cwV 2 C.2.2.2.2 gL_symbol_X4_symbol rfl rfl rfl (by decide +kernel) ⟨Nat.le_of_ble_eq_true rfl, Nat.le_of_ble_eq_true rfl⟩) (cwV 2 C.2.2.2.2 gL_symbol_X4_symbol rfl rfl rfl (by decide +kernel) ⟨Nat.le_of_ble_eq_true rfl, Nat.le_of_ble_eq_true rfl⟩) ⟨Nat.le_of_ble_eq_true rfl, Nat.le_of_ble_eq_true rfl⟩ rfl hl.1 rfl dL_symbol_5 dL_symbol_8 dL_symbol_9 dL_symbol_10 (by decide) dL_symbol_21 dL_symbol_22 hret (fun E z1 hr q9 ce H1 locs1 hP1 hS1 h1 h2 h3 => ?_)
  have hE1 := hE E z1 hr
  subst hr
  rcases c2_ne hE1 with rfl | rfl
  · refine kL_c (wu := wW cI cJ cZ ad ao) (name := "") C htab hX [] ⟨0, 10, 13, 13⟩ [⟨0, 10, 17, 15⟩] rfl (fun z hz => absurd hz List.not_mem_nil) (by decide) (by decide) (by decide +kernel) (by decide) h1 h2 h3 ?_
    refine lv_astore hx hb dL_symbol_13 hl (by decide) rfl (fun ls hl => ?_)
    refine lv_iconst (v := 1) hx hb dL_symbol_15 (by decide) ?_
    exact hret 16 H1 locs1 ls 1 (z1, f) _ _ rfl dL_symbol_16 hP1 hS1 (Nat.le_refl _) (Nat.le_refl _)
  · refine kL_c (wu := wW cI cJ cZ ad ao) (name := "") C htab hX [⟨0, 10, 13, 13⟩] ⟨0, 10, 17, 15⟩ [] rfl (fun z hz => by simp only [List.mem_cons, List.not_mem_nil, or_false] at hz; subst hz; exact ⟨by decide, eIdx, by decide +kernel, by decide⟩) (by decide) (by decide) (by decide +kernel) (by decide) h1 h2 h3 ?_
    refine lv_astore hx hb dL_symbol_17 hl (by decide) rfl (fun ls hl => ?_)
    refine lv_iconst (v := 2) hx hb dL_symbol_19 (by decide) ?_
    exact hret 20 H1 locs1 ls 2 (z1, f) _ _ rfl dL_symbol_20 hP1 hS1 (Nat.le_refl _) (Nat.le_refl _)
abbrev rmL_busiest : Room := { frames := 8, cells := 1, slots := 6, locals := 125 }
set_option maxRecDepth 100000 in
set_option maxHeartbeats 4000000 in
theorem mL_busiest (l : Launch) (hl0 : l.stackTraces = false) (D : va_G) (cI cJ cZ : ClassId) (ad sx : Nat → Nat) (ao : Nat) (f : Nat → Int64) (N : Nat) (a1 : Int32) (a2 : Int32) (z0 : SH) : ∀ (r : (String ⊕ Int32) × SH) (sz : Nat), fX4_busiest N a1 a2 z0 = some r → (∀ (E : String) (z1 : SH), r = (.inl E, z1) → cY E ≠ 0) → Met l yL_busiest wsL_busiest rmL_busiest (cPX (thY sx) D vwCl (tyl cI cJ cZ) (wW cI cJ cZ ad ao (z0, f)) sz [.ref (ad 0), .int a1, .int a2, .ref ao]) (va_Qi (fun v u => (v, u) = wrI cY f r) (fun u t => va_P D vwCl (wW cI cJ cZ ad ao u) t.heap) (va_A (wW cI cJ cZ ad ao (z0, f)) sz)) 1 6 (va_A (wW cI cJ cZ ad ao (z0, f)) sz) := by
  intro r sz h hE
  refine ofL (wu := wW cI cJ cZ ad ao) (cc := cL_busiest) (maxL := 5) (hh := [(0, 10, 13, 13)]) (by decide) rfl (Nat.le_of_ble_eq_true rfl) (fun p e s m below meth c ls hsz C hK hD hA htab hX hret hP hl => ?_)
  have hx := C.1
  have hb := C.2.1
  refine lv_aload_n hx hb dL_busiest_0 rfl (lv_at hl 3 rfl) ?_
  refine lv_iconst (v := 0) hx hb dL_busiest_1 (by decide) ?_
  refine lv_aload_n hx hb dL_busiest_2 rfl (lv_at hl 0 rfl) ?_
  refine lv_iload_n hx hb dL_busiest_3 rfl (lv_at hl 1 rfl) ?_
  refine lv_iload_n hx hb dL_busiest_4 rfl (lv_at hl 2 rfl) ?_
  refine kL_i (As := [.int a1, .int a2]) (tgt := 17) C hK hD hA hX h cY hP va_S.rf (mX4_busiest l D cI cJ cZ ad N a1 a2 z0) (nX4_busiest l hl0 D cI cJ cZ ad sx N a1 a2 z0) (cwV 2 C.2.2.2.2 gL_busiest_X4_busiest rfl rfl rfl (by decide +kernel) ⟨Nat.le_of_ble_eq_true rfl, Nat.le_of_ble_eq_true rfl⟩) (cwV 2 C.2.2.2.2 gL_busiest_X4_busiest rfl rfl rfl (by decide +kernel) ⟨Nat.le_of_ble_eq_true rfl, Nat.le_of_ble_eq_true rfl⟩) ⟨Nat.le_of_ble_eq_true rfl, Nat.le_of_ble_eq_true rfl⟩ rfl hl.1 rfl dL_busiest_5 dL_busiest_8 dL_busiest_9 dL_busiest_10 (by decide) dL_busiest_17 dL_busiest_18 hret (fun E z1 hr q9 ce H1 locs1 hP1 hS1 h1 h2 h3 => ?_)
  have hE1 := hE E z1 hr
  subst hr
  rcases cY_ne hE1 with rfl
  · refine kL_c (wu := wW cI cJ cZ ad ao) (name := "") C htab hX [] ⟨0, 10, 13, 13⟩ [] rfl (fun z hz => absurd hz List.not_mem_nil) (by decide) (by decide) (by decide +kernel) (by decide) h1 h2 h3 ?_
    refine lv_astore hx hb dL_busiest_13 hl (by decide) rfl (fun ls hl => ?_)
    refine lv_iconst (v := 1) hx hb dL_busiest_15 (by decide) ?_
    exact hret 16 H1 locs1 ls 1 (z1, f) _ _ rfl dL_busiest_16 hP1 hS1 (Nat.le_refl _) (Nat.le_refl _)
