/-! MATHEMATICS 3: the next end of an allocation -/
def neF (σ : St) (u : Int32) (k : Nat) (acc : Int32) : Int32 := if σ 0 k = 0 then acc else if σ 3 k ≤ u then acc else if acc = u then σ 3 k else if acc ≤ σ 3 k then acc else σ 3 k
def ne (σ : St) (u : Int32) : Int32 := itF (neF σ u) 0 30 u
theorem nextEnd_eq {n : Nat} (hn : 31 ≤ n) (σ : St) (u : Int32) : fX3_nextEnd n σ u = some (ne σ u) := by
  unfold fX3_nextEnd
  refine lz2_for (N := 30) (F := neF σ u) (k := some) (fun go acc => ?_) (fun go i acc hi => ?_) 30 0 u n rfl (by omega)
  · rw [fX3_nextEnd_b4]
    exact if_pos (by decide)
  · have h1 : ¬ (30 : Int32) ≤ nI i := nI_ge hi (by decide)
    simp only [fX3_nextEnd_b4, if_neg h1, rd_nI _ hi (by decide : 30 < 2 ^ 31), sb, neF, nI_1]
    split
    · rfl
    · split
      · rfl
      · split
        · rfl
        · split <;> rfl
/-- what the next end is: nothing behind u, or the least end behind it -/
def neP (σ : St) (u : Int32) (d : Nat) (x : Int32) : Prop :=
  (x = u ∧ ∀ k, k < d → σ 0 k ≠ 0 → σ 3 k ≤ u) ∨ (u < x ∧ (∃ k, k < d ∧ σ 0 k ≠ 0 ∧ σ 3 k = x) ∧ ∀ k, k < d → σ 0 k ≠ 0 → u < σ 3 k → x ≤ σ 3 k)
theorem ne_spec (σ : St) (u : Int32) : neP σ u 30 (ne σ u) := by
  have key : ∀ d : Nat, neP σ u d (itF (neF σ u) 0 d u) := by
    intro d
    induction d with
    | zero => exact Or.inl ⟨rfl, fun k hk => absurd hk (Nat.not_lt_zero k)⟩
    | succ d ih =>
      rw [itF_last, Nat.zero_add, neF]
      generalize itF (neF σ u) 0 d u = x at ih
      have up : ∀ {Q : Nat → Prop}, (∀ k, k < d → Q k) → Q d → ∀ k, k < d + 1 → Q k := fun h1 h2 k hk => by
        rcases Nat.lt_or_ge k d with q | q
        · exact h1 k q
        · have : k = d := by omega
          rw [this]; exact h2
      by_cases c0 : σ 0 d = 0
      · rw [if_pos c0]
        rcases ih with ⟨h1, h2⟩ | ⟨h1, ⟨k, hk, h3⟩, h2⟩
        · exact Or.inl ⟨h1, up h2 (fun h => absurd c0 h)⟩
        · exact Or.inr ⟨h1, ⟨k, by omega, h3⟩, up h2 (fun h => absurd c0 h)⟩
      · rw [if_neg c0]
        by_cases c1 : σ 3 d ≤ u
        · rw [if_pos c1]
          rcases ih with ⟨h1, h2⟩ | ⟨h1, ⟨k, hk, h3⟩, h2⟩
          · exact Or.inl ⟨h1, up h2 (fun _ => c1)⟩
          · exact Or.inr ⟨h1, ⟨k, by omega, h3⟩, up h2 (fun _ h => absurd c1 (Int32.not_le.mpr h))⟩
        · rw [if_neg c1]
          have c1' : u < σ 3 d := Int32.not_le.mp c1
          by_cases c2 : x = u
          · rw [if_pos c2]
            rcases ih with ⟨h1, h2⟩ | ⟨h1, -, -⟩
            · exact Or.inr ⟨c1', ⟨d, by omega, c0, rfl⟩, up (fun k hk h3 h4 => absurd (h2 k hk h3) (Int32.not_le.mpr h4)) (fun _ _ => Int32.le_refl _)⟩
            · rw [c2] at h1
              exact absurd h1 Int32.lt_irrefl
          · rw [if_neg c2]
            rcases ih with ⟨h1, -⟩ | ⟨h1, ⟨k, hk, h3⟩, h2⟩
            · exact absurd h1 c2
            · by_cases c3 : x ≤ σ 3 d
              · rw [if_pos c3]
                exact Or.inr ⟨h1, ⟨k, by omega, h3⟩, up h2 (fun _ _ => c3)⟩
              · rw [if_neg c3]
                exact Or.inr ⟨c1', ⟨d, by omega, c0, rfl⟩, up (fun k hk h4 h5 => Int32.le_trans (Int32.le_of_lt (Int32.not_le.mp c3)) (h2 k hk h4 h5)) (fun _ _ => Int32.le_refl _)⟩
  exact key 30
