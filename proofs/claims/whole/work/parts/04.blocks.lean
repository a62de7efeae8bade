/-! MATHEMATICS 2: blocks and masks; the lowest clear block -/
/-- the mask of the block of order o at processor f -/
def mk (o f : Nat) : Int32 := (ush (-1 : Int32) ((32 : Int32) - ((1 : Int32) <<< (nI o &&& 31)))) <<< (nI f &&& 31)
theorem mk_eq (n o f : Nat) : fX4_blockMask n (nI o) (nI f) = some (mk o f) := rfl
theorem mk_shift : ∀ o, o < 6 → ∀ i, i < 32 / 2 ^ o → ((ush (-1 : Int32) ((32 : Int32) - ((1 : Int32) <<< (nI o &&& 31)))) <<< ((0 : Int32) &&& 31)) <<< ((nI i <<< (nI o &&& 31)) &&& 31) = mk o (i * 2 ^ o) := by decide +kernel
theorem sh_32 : ∀ o, o < 6 → (32 : Int32) >>> (nI o &&& 31) = nI (32 / 2 ^ o) := by decide +kernel
theorem sh_l : ∀ o, o < 6 → ∀ i, i < 64 → nI i <<< (nI o &&& 31) = nI (i * 2 ^ o) := by decide +kernel
theorem sh_1 : ∀ o, o < 6 → (1 : Int32) <<< (nI o &&& 31) = nI (2 ^ o) := by decide +kernel
theorem mk_ne : ∀ o, o < 6 → ∀ i, i < 32 / 2 ^ o → mk o (i * 2 ^ o) ≠ 0 := by decide +kernel
theorem mk_ov : ∀ o1, o1 < 6 → ∀ o2, o2 < 6 → ∀ i1, i1 < 32 / 2 ^ o1 → ∀ i2, i2 < 32 / 2 ^ o2 → (mk o1 (i1 * 2 ^ o1) &&& mk o2 (i2 * 2 ^ o2) = 0 ↔ ¬ (i1 * 2 ^ o1 < i2 * 2 ^ o2 + 2 ^ o2 ∧ i2 * 2 ^ o2 < i1 * 2 ^ o1 + 2 ^ o1)) := by decide +kernel
/-- the first place from i on, of d places, where P holds -/
def ffd (P : Nat → Bool) : Nat → Nat → Option Nat
  | _, 0 => none
  | i, d + 1 => if P i = true then some i else ffd P (i + 1) d
theorem ffd_congr {P Q : Nat → Bool} : ∀ (d i : Nat), (∀ k, i ≤ k → k < i + d → P k = Q k) → ffd P i d = ffd Q i d
  | 0, _, _ => rfl
  | d + 1, i, h => by
    have h1 : P i = Q i := h i (Nat.le_refl i) (by omega)
    have h2 := ffd_congr d (i + 1) (fun k a b => h k (by omega) (by omega))
    show (if P i = true then some i else ffd P (i + 1) d) = (if Q i = true then some i else ffd Q (i + 1) d)
    rw [h1, h2]
theorem ffd_some {P : Nat → Bool} : ∀ (d i k : Nat), ffd P i d = some k → i ≤ k ∧ k < i + d ∧ P k = true
  | 0, _, _, h => by cases h
  | d + 1, i, k, h => by
    by_cases c : P i = true
    · have h : some i = some k := by
        rw [← h]
        show some i = if P i = true then some i else ffd P (i + 1) d
        rw [if_pos c]
      cases h
      exact ⟨Nat.le_refl _, by omega, c⟩
    · have h : ffd P (i + 1) d = some k := by
        rw [← h]
        show _ = if P i = true then some i else ffd P (i + 1) d
        rw [if_neg c]
      obtain ⟨a, b, e⟩ := ffd_some d (i + 1) k h
      exact ⟨by omega, by omega, e⟩
theorem ffd_none {P : Nat → Bool} : ∀ (d i : Nat), ffd P i d = none ↔ ∀ k, i ≤ k → k < i + d → P k = false
  | 0, i => ⟨fun _ k a b => absurd b (by omega), fun _ => rfl⟩
  | d + 1, i => by
    show (if P i = true then some i else ffd P (i + 1) d) = none ↔ _
    by_cases c : P i = true
    · rw [if_pos c]
      constructor
      · intro h; cases h
      · intro h
        have := h i (Nat.le_refl _) (by omega)
        rw [c] at this
        cases this
    · rw [if_neg c, ffd_none d (i + 1)]
      have c' : P i = false := by cases hP : P i <;> simp_all
      constructor
      · intro h k a b
        rcases Nat.lt_or_ge i k with q | q
        · exact h k (by omega) (by omega)
        · have : k = i := by omega
          rw [this]; exact c'
      · intro h k a b
        exact h k (by omega) (by omega)
def resB (o : Nat) (x : Option Nat) : Int32 := match x with | none => -1 | some i => nI (i * 2 ^ o)
theorem lowestClear_eq {n : Nat} (hn : 33 ≤ n) (t : Int32) {o : Nat} (ho : o < 6) : fX4_lowestClear n t (nI o) = some (resB o (ffd (fun i => decide (t &&& mk o (i * 2 ^ o) = 0)) 0 (32 / 2 ^ o))) := by
  have hB : 32 / 2 ^ o ≤ 32 := Nat.div_le_self _ _
  have key : ∀ (d i fu : Nat), i + d = 32 / 2 ^ o → d < fu → lz1 (fX4_lowestClear_b8 t (nI o) ((ush (-1 : Int32) ((32 : Int32) - ((1 : Int32) <<< (nI o &&& 31)))) <<< ((0 : Int32) &&& 31))) fu (nI i) = some (resB o (ffd (fun i => decide (t &&& mk o (i * 2 ^ o) = 0)) i d)) := by
    intro d
    induction d with
    | zero =>
      intro i fu h hf
      obtain ⟨fu, rfl⟩ : ∃ z, fu = z + 1 := ⟨fu - 1, by omega⟩
      have hi : i = 32 / 2 ^ o := by omega
      rw [lz1_s, fX4_lowestClear_b8]
      rw [sh_32 o ho, if_pos (by rw [hi]; exact nI_le (Nat.le_refl _) (by omega))]
      rfl
    | succ d ih =>
      intro i fu h hf
      obtain ⟨fu, rfl⟩ : ∃ z, fu = z + 1 := ⟨fu - 1, by omega⟩
      rw [lz1_s, fX4_lowestClear_b8]
      rw [sh_32 o ho, if_neg (nI_ge (by omega) (by omega)), mk_shift o ho i (by omega), sh_l o ho i (by omega), nI_1]
      show _ = some (resB o (if (decide (t &&& mk o (i * 2 ^ o) = 0)) = true then some i else ffd _ (i + 1) d))
      by_cases c : t &&& mk o (i * 2 ^ o) = 0
      · rw [if_pos c, if_pos (decide_eq_true c)]
        rfl
      · rw [if_neg c, if_neg (fun q => c (of_decide_eq_true q))]
        exact ih (i + 1) fu (by omega) (by omega)
  exact key (32 / 2 ^ o) 0 n (by omega) (by omega)
theorem tk_clear (σ : St) (a b M : Int32) : tk σ a b &&& M = 0 ↔ ∀ k, k < 30 → ¬ b < σ 2 k → ¬ σ 3 k ≤ a → σ 0 k &&& M = 0 := by
  have key : ∀ d : Nat, itF (tkF σ a b) 0 d 0 &&& M = 0 ↔ ∀ k, k < d → ¬ b < σ 2 k → ¬ σ 3 k ≤ a → σ 0 k &&& M = 0 := by
    intro d
    induction d with
    | zero => exact ⟨fun _ k hk => absurd hk (Nat.not_lt_zero k), fun _ => by show (0 : Int32) &&& M = 0; simp⟩
    | succ d ih =>
      rw [itF_last, Nat.zero_add, tkF]
      by_cases c1 : b < σ 2 d
      · rw [if_pos c1, ih]
        constructor
        · intro h k hk h1 h2
          rcases Nat.lt_or_ge k d with q | q
          · exact h k q h1 h2
          · have : k = d := by omega
            subst this
            exact absurd c1 h1
        · intro h k hk
          exact h k (by omega)
      · rw [if_neg c1]
        by_cases c2 : σ 3 d ≤ a
        · rw [if_pos c2, ih]
          constructor
          · intro h k hk h1 h2
            rcases Nat.lt_or_ge k d with q | q
            · exact h k q h1 h2
            · have : k = d := by omega
              subst this
              exact absurd c2 h2
          · intro h k hk
            exact h k (by omega)
        · rw [if_neg c2, and_or0, ih]
          constructor
          · intro h k hk h1 h2
            rcases Nat.lt_or_ge k d with q | q
            · exact h.1 k q h1 h2
            · have : k = d := by omega
              subst this
              exact h.2
          · intro h
            exact ⟨fun k hk => h k (by omega), h d (by omega) c1 c2⟩
  exact key 30
