/-! ===== the pure part: reading and writing a state by numbers ===== -/
def gA (z : SH) (k j : Nat) : Int32 := z.2.1 k j
def gL (z : SH) (k j : Nat) : Int64 := z.2.2 k j
def uA (z : SH) (k j : Nat) (v : Int32) : SH := (z.1, fun k' => if k' = k then upd (z.2.1 k) j v else z.2.1 k', z.2.2)
def uL (z : SH) (k j : Nat) (v : Int64) : SH := (z.1, z.2.1, fun k' => if k' = k then vp_updL (z.2.2 k) j v else z.2.2 k')
section ReadWrite
variable {z : SH} {k k' j j' n : Nat} {v : Int32} {x : Int64} {β : Type}
theorem gA_uA : gA (uA z k j v) k' j' = if k' = k ∧ j' = j then v else gA z k' j' := by
  unfold gA uA upd
  by_cases h : k' = k
  · subst h
    by_cases h2 : j' = j <;> simp [h2]
  · simp [h]
theorem gA_uL : gA (uL z k j x) k' j' = gA z k' j' := rfl
theorem gA_si : gA (si z k v) k' j' = gA z k' j' := rfl
theorem gL_uA : gL (uA z k j v) k' j' = gL z k' j' := rfl
theorem gL_si : gL (si z k v) k' j' = gL z k' j' := rfl
theorem gL_uL : gL (uL z k j x) k' j' = if k' = k ∧ j' = j then x else gL z k' j' := by
  unfold gL uL vp_updL
  by_cases h : k' = k
  · subst h
    by_cases h2 : j' = j <;> simp [h2]
  · simp [h]
theorem gi_uA : gi (uA z k j v) k' = gi z k' := rfl
theorem gi_uL : gi (uL z k j x) k' = gi z k' := rfl
theorem gi_si : gi (si z k v) k' = if k' = k then v else gi z k' := by
  unfold gi si upd
  rfl
theorem inb_n (h : j < n) (hn : n < 2 ^ 31) : inb (nI j) n = true := by
  unfold inb
  rw [nI_toInt (by omega)]
  simp
  omega
theorem inb_no (h : n ≤ j) (hj : j < 2 ^ 31) : inb (nI j) n = false := by
  unfold inb
  rw [nI_toInt hj]
  simp
  omega
theorem ga_n (hj : j < 2 ^ 31) : ga z k (nI j) = gA z k j := by unfold ga gA; rw [nI_clamp hj]
theorem gl_n (hj : j < 2 ^ 31) : gl z k (nI j) = gL z k j := by unfold gl gL; rw [nI_clamp hj]
theorem sa_n (hj : j < 2 ^ 31) : sa z k (nI j) v = uA z k j v := by unfold sa uA; rw [nI_clamp hj]
theorem sl_n (hj : j < 2 ^ 31) : sl z k (nI j) x = uL z k j x := by unfold sl uL; rw [nI_clamp hj]
theorem rda_n {F : Int32 → Option β} (h : j < n) (hn : n < 2 ^ 31 := by decide) : rda z k n (nI j) F = F (gA z k j) := by
  unfold rda
  rw [if_pos (inb_n h hn), ga_n (by omega)]
theorem rdl_n {F : Int64 → Option β} (h : j < n) (hn : n < 2 ^ 31 := by decide) : rdl z k n (nI j) F = F (gL z k j) := by
  unfold rdl
  rw [if_pos (inb_n h hn), gl_n (by omega)]
theorem wra_n {F : SH → Option β} (h : j < n) (hn : n < 2 ^ 31 := by decide) : wra z k n (nI j) v F = F (uA z k j v) := by
  unfold wra
  rw [if_pos (inb_n h hn), sa_n (by omega)]
theorem wrl_n {F : SH → Option β} (h : j < n) (hn : n < 2 ^ 31 := by decide) : wrl z k n (nI j) x F = F (uL z k j x) := by
  unfold wrl
  rw [if_pos (inb_n h hn), sl_n (by omega)]
theorem rdi_n {F : Int32 → Option β} : rdi z k F = F (gi z k) := rfl
theorem wri_n {F : SH → Option β} : wri z k v F = F (si z k v) := rfl
theorem bnd_some {α : Type} {a : α} {F : α → SH → Option β} : bnd (some (a, z)) F = F a z := rfl
theorem bndX_inr {α : Type} {a : α} {F : α → SH → Option ((String ⊕ β) × SH)} : bndX (some (.inr a, z)) F = F a z := rfl
theorem bndX_inl {α : Type} {E : String} {F : α → SH → Option ((String ⊕ β) × SH)} : bndX (some (.inl E, z)) F = some (.inl E, z) := rfl
theorem gdb_1 {w : Option β} : gdb (isB 1) w = w := by unfold gdb; rw [if_pos (by decide)]
theorem gdb_0 {w : Option β} : gdb (isB 0) w = w := by unfold gdb; rw [if_pos (by decide)]
end ReadWrite
/-! numbers -/
theorem nI_1' : (1 : Int32) = nI 1 := by decide
theorem nI_2' : (2 : Int32) = nI 2 := by decide
theorem nI_le' {a b : Nat} (ha : a < 2 ^ 31) (hb : b < 2 ^ 31) : (nI a ≤ nI b) = (a ≤ b) := propext (nI_leI ha hb)
theorem nI_lt' {a b : Nat} (ha : a < 2 ^ 31) (hb : b < 2 ^ 31) : (nI a < nI b) = (a < b) := propext (nI_ltI ha hb)
theorem nI_eq' {a b : Nat} (ha : a < 2 ^ 31) (hb : b < 2 ^ 31) : (nI a = nI b) = (a = b) := propext (nI_eq ha hb)
theorem nI_nem1 {a : Nat} (ha : a < 2 ^ 31) : ¬ nI a = -1 := by
  intro h
  have h1 := nI_toInt ha
  rw [h] at h1
  have h2 : (-1 : Int32).toInt = -1 := by decide
  omega
theorem nI_inj {a b : Nat} (ha : a < 2 ^ 31) (hb : b < 2 ^ 31) (h : nI a = nI b) : a = b := (nI_eq ha hb).mp h
/-- an index that comes as it likes -/
theorem ix_cases (x : Int32) (n : Nat) (hn : n < 2 ^ 31) : x < 0 ∨ nI n ≤ x ∨ ∃ j : Nat, j < n ∧ x = nI j := pk_ix x hn
/-! counting and adding up to a bound -/
def cnt (p : Nat → Bool) : Nat → Nat
  | 0 => 0
  | k + 1 => cnt p k + (if p k = true then 1 else 0)
def smm (f : Nat → Nat) : Nat → Nat
  | 0 => 0
  | k + 1 => smm f k + f k
theorem cnt_le (p : Nat → Bool) : ∀ k, cnt p k ≤ k
  | 0 => Nat.le_refl 0
  | k + 1 => by
    have h := cnt_le p k
    unfold cnt
    split <;> omega
theorem cnt_congr {p q : Nat → Bool} : ∀ {n : Nat}, (∀ k, k < n → p k = q k) → cnt p n = cnt q n
  | 0, _ => rfl
  | n + 1, h => by
    unfold cnt
    rw [cnt_congr (n := n) (fun k hk => h k (by omega)), h n (by omega)]
theorem smm_congr {f g : Nat → Nat} : ∀ {n : Nat}, (∀ k, k < n → f k = g k) → smm f n = smm g n
  | 0, _ => rfl
  | n + 1, h => by
    unfold smm
    rw [smm_congr (n := n) (fun k hk => h k (by omega)), h n (by omega)]
theorem cnt_upd {p q : Nat → Bool} {i : Nat} : ∀ {n : Nat}, i < n → (∀ k, k < n → k ≠ i → q k = p k) → cnt q n + (if p i = true then 1 else 0) = cnt p n + (if q i = true then 1 else 0)
  | 0, h, _ => absurd h (Nat.not_lt_zero i)
  | n + 1, h, hq => by
    unfold cnt
    by_cases hi : i = n
    · subst hi
      rw [cnt_congr (p := q) (q := p) (fun k hk => hq k (by omega) (by omega))]
      omega
    · have h1 := cnt_upd (p := p) (q := q) (i := i) (n := n) (by omega) (fun k hk hne => hq k (by omega) hne)
      rw [hq n (by omega) (fun h => hi h.symm)]
      omega
theorem smm_bound {f : Nat → Nat} {c : Nat} : ∀ {n : Nat}, (∀ k, k < n → f k ≤ c) → smm f n ≤ c * n
  | 0, _ => by simp [smm]
  | n + 1, h => by
    have h1 := smm_bound (f := f) (c := c) (n := n) (fun k hk => h k (by omega))
    have h2 := h n (by omega)
    unfold smm
    rw [Nat.mul_succ]
    omega
theorem smm_mono (f : Nat → Nat) {a b : Nat} (h : a ≤ b) : smm f a ≤ smm f b := by
  induction b with
  | zero => rw [Nat.le_zero.mp h]; exact Nat.le_refl _
  | succ b ih =>
    by_cases e : a = b + 1
    · rw [e]; exact Nat.le_refl _
    · have h1 := ih (by omega)
      show smm f a ≤ smm f b + f b
      omega
theorem cnt_mono (p : Nat → Bool) {a b : Nat} (h : a ≤ b) : cnt p a ≤ cnt p b := by
  induction b with
  | zero => rw [Nat.le_zero.mp h]; exact Nat.le_refl _
  | succ b ih =>
    by_cases e : a = b + 1
    · rw [e]; exact Nat.le_refl _
    · have h1 := ih (by omega)
      show cnt p a ≤ cnt p b + _
      omega
/-- the best one below a bound -/
def bst (p : Nat → Bool) (lt : Nat → Nat → Bool) : Nat → Option Nat
  | 0 => none
  | k + 1 => match bst p lt k with
    | none => if p k = true then some k else none
    | some b => if p k = true ∧ lt k b = true then some k else some b
theorem bst_in {p : Nat → Bool} {lt : Nat → Nat → Bool} : ∀ {n b : Nat}, bst p lt n = some b → b < n ∧ p b = true
  | 0, b, h => by cases h
  | n + 1, b, h => by
    unfold bst at h
    split at h
    · split at h
      · cases h; exact ⟨by omega, by assumption⟩
      · cases h
    · rename_i b0 hb0
      have h0 := bst_in (n := n) hb0
      split at h
      · rename_i hk
        cases h; exact ⟨by omega, hk.1⟩
      · cases h; exact ⟨by omega, h0.2⟩
theorem bst_none {p : Nat → Bool} {lt : Nat → Nat → Bool} : ∀ {n : Nat}, (∀ k, k < n → p k = false) → bst p lt n = none
  | 0, _ => rfl
  | n + 1, h => by
    unfold bst
    rw [bst_none (n := n) (fun k hk => h k (by omega))]
    simp [h n (by omega)]
theorem bst_is {p : Nat → Bool} {lt : Nat → Nat → Bool} {x : Nat} (hx : p x = true) : ∀ {n : Nat}, x < n → (∀ k, k < n → p k = true → k ≠ x → lt x k = true ∧ lt k x = false) → bst p lt n = some x
  | 0, h, _ => absurd h (Nat.not_lt_zero x)
  | n + 1, h, ho => by
    unfold bst
    by_cases e : x = n
    · subst e
      cases hb : bst p lt x with
      | none => simp [hx]
      | some b =>
        have h0 := bst_in hb
        have h1 := (ho b (by omega) h0.2 (by omega)).1
        simp [hx, h1]
    · rw [bst_is hx (n := n) (by omega) (fun k hk hp hne => ho k (by omega) hp hne)]
      by_cases hp : p n = true
      · have h1 := (ho n (by omega) hp (fun h => e h.symm)).2
        simp [h1]
      · simp [hp]
/-! a list that holds just the numbers below n with a property -/
def holdsAll (p : Nat → Bool) (n : Nat) (Q : List Nat) : Prop := Q.Nodup ∧ ∀ k, k ∈ Q ↔ (k < n ∧ p k = true)
theorem sum_erase {f : Nat → Nat} : ∀ {Q : List Nat} {a : Nat}, a ∈ Q → (Q.map f).sum = f a + ((Q.erase a).map f).sum
  | [], a, h => by cases h
  | b :: Q, a, h => by
    by_cases e : b = a
    · subst e
      simp
    · have h1 : a ∈ Q := by
        rcases List.mem_cons.mp h with h | h
        · exact absurd h.symm e
        · exact h
      have h2 := sum_erase (f := f) h1
      rw [List.erase_cons_tail (by simpa using e)]
      simp only [List.map_cons, List.sum_cons]
      omega
theorem smm_list {p : Nat → Bool} {f : Nat → Nat} : ∀ {n : Nat} {Q : List Nat}, holdsAll p n Q → smm (fun k => if p k = true then f k else 0) n = (Q.map f).sum
  | 0, Q, h => by
    have : Q = [] := List.eq_nil_iff_forall_not_mem.mpr (fun a ha => by have := (h.2 a).mp ha; omega)
    subst this
    rfl
  | n + 1, Q, h => by
    unfold smm
    by_cases hp : p n = true
    · have hm : n ∈ Q := (h.2 n).mpr ⟨by omega, hp⟩
      have hE : holdsAll p n (Q.erase n) := by
        refine ⟨h.1.erase n, fun k => ?_⟩
        rw [h.1.mem_erase_iff, h.2 k]
        constructor
        · rintro ⟨h1, h2, h3⟩; exact ⟨by omega, h3⟩
        · rintro ⟨h1, h2⟩; exact ⟨by omega, by omega, h2⟩
      rw [smm_list hE, sum_erase hm]
      simp [hp]
      omega
    · have hE : holdsAll p n Q := by
        refine ⟨h.1, fun k => ?_⟩
        rw [h.2 k]
        constructor
        · rintro ⟨h1, h2⟩
          refine ⟨?_, h2⟩
          by_cases e : k = n
          · subst e; exact absurd h2 hp
          · omega
        · rintro ⟨h1, h2⟩; exact ⟨by omega, h2⟩
      rw [smm_list hE]
      simp [hp]
theorem cnt_smm (p : Nat → Bool) : ∀ n, cnt p n = smm (fun k => if p k = true then 1 else 0) n
  | 0 => rfl
  | n + 1 => by unfold cnt smm; rw [cnt_smm p n]
theorem cnt_list {p : Nat → Bool} {n : Nat} {Q : List Nat} (h : holdsAll p n Q) : cnt p n = Q.length := by
  rw [cnt_smm, smm_list (f := fun _ => 1) h]
  clear h
  induction Q with
  | nil => rfl
  | cons a Q ih => simp only [List.map_cons, List.sum_cons, List.length_cons]; omega
/-- the first of a sorted list is the best one -/
theorem bst_list {p : Nat → Bool} {lt : Nat → Nat → Bool} {n : Nat} {Q : List Nat} (h : holdsAll p n Q) (hs : Q.Pairwise (fun a b => lt a b = true ∧ lt b a = false)) : bst p lt n = Q.head? := by
  cases Q with
  | nil =>
    refine bst_none (fun k hk => ?_)
    cases hp : p k with
    | false => rfl
    | true => exact absurd ((h.2 k).mpr ⟨hk, hp⟩) (by simp)
  | cons x R =>
    have hx := (h.2 x).mp List.mem_cons_self
    refine bst_is hx.2 hx.1 (fun k hk hp hne => ?_)
    have hm := (h.2 k).mpr ⟨hk, hp⟩
    rcases List.mem_cons.mp hm with e | e
    · exact absurd e hne
    · exact (List.pairwise_cons.mp hs).1 k e
