/-! MATHEMATICS 4: the class' search for the earliest start -/
/-- some block of order o is clear of t -/
def okT (t : Int32) (o : Nat) : Bool := (ffd (fun i => decide (t &&& mk o (i * 2 ^ o) = 0)) 0 (32 / 2 ^ o)).isSome
def okC (σ : St) (o : Nat) (len s : Int32) : Bool := okT (tk σ s (s + len - 1)) o
def erN (σ : St) (o : Nat) (len : Int32) : Nat → Int32 → Int32
  | 0, s => s
  | d + 1, s => if okC σ o len s = true then s else erN σ o len d (ne σ s)
theorem resB_ne {o : Nat} (ho : o < 6) {x : Option Nat} (hx : ∀ i, x = some i → i < 32 / 2 ^ o) : resB o x = -1 ↔ x = none := by
  cases x with
  | none => exact ⟨fun _ => rfl, fun _ => rfl⟩
  | some i =>
    refine ⟨fun h => ?_, fun h => (by cases h)⟩
    exfalso
    have h1 : i < 32 / 2 ^ o := hx i rfl
    have h2 : i * 2 ^ o < 32 := Nat.lt_of_lt_of_le (Nat.mul_lt_mul_of_pos_right h1 (Nat.two_pow_pos o)) (Nat.div_mul_le_self 32 (2 ^ o))
    have h : nI (i * 2 ^ o) = -1 := h
    have h3 := nI_pos (n := i * 2 ^ o) (by omega)
    rw [h] at h3
    exact h3 (by decide)
theorem ffd_lt {P : Nat → Bool} {d k : Nat} (h : ffd P 0 d = some k) : k < d := by
  have := ffd_some d 0 k h
  omega
theorem earliest_eq {n : Nat} (hn : 33 ≤ n) (σ : St) {o : Nat} (ho : o < 6) (len : Int32) (s0 : Int32) : fX3_earliest n σ (nI o) s0 len = some (erN σ o len 30 s0) := by
  have key : ∀ (d i fu : Nat) (s : Int32), i + d = 30 → d < fu → lz2 (fX3_earliest_b6 n σ (nI o) len) fu (nI i) s = some (erN σ o len d s) := by
    intro d
    induction d with
    | zero =>
      intro i fu s h hf
      obtain ⟨fu, rfl⟩ : ∃ z, fu = z + 1 := ⟨fu - 1, by omega⟩
      have hi : i = 30 := by omega
      rw [lz2_s, fX3_earliest_b6, if_pos (by rw [hi]; decide)]
      rfl
    | succ d ih =>
      intro i fu s h hf
      obtain ⟨fu, rfl⟩ : ∃ z, fu = z + 1 := ⟨fu - 1, by omega⟩
      rw [lz2_s, fX3_earliest_b6, if_neg (show ¬ (30 : Int32) ≤ nI i from nI_ge (a := i) (b := 30) (by omega) (by decide)), takenIn_eq (by omega), sb, lowestClear_eq (by omega) _ ho, sb]
      show _ = some (if okC σ o len s = true then s else erN σ o len d (ne σ s))
      unfold okC okT
      generalize hx : ffd (fun i => decide (tk σ s (s + len - 1) &&& mk o (i * 2 ^ o) = 0)) 0 (32 / 2 ^ o) = x
      have hr := resB_ne (o := o) ho (x := x) (fun k hk => ffd_lt (by rw [hx]; exact hk))
      cases x with
      | none =>
        rw [if_pos (hr.mpr rfl), if_neg (by simp), nextEnd_eq (by omega), sb, nI_1]
        exact ih (i + 1) fu (ne σ s) (by omega) (by omega)
      | some k =>
        rw [if_neg (fun q => by cases hr.mp q)]
        rfl
  unfold fX3_earliest
  exact key 30 0 n s0 rfl (by omega)
