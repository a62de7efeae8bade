/-! MATHEMATICS 1: reads and writes at plain places, loops that count -/
theorem sb {α β : Type} (x : α) (f : α → Option β) : Option.bind (some x) f = f x := rfl
theorem b2s {α β γ : Type} (x : α) (y : β) (f : α → β → Option γ) : b2 (some (x, y)) f = f x y := rfl
theorem bnd_nI {j N : Nat} (h : j < N) (hN : N < 2 ^ 31) : bnd (nI j) N = true := decide_eq_true (nI_in h hN)
theorem rd_nI (f : Nat → Int32) {j N : Nat} (h : j < N) (hN : N < 2 ^ 31) : rd f N (nI j) = some (f j) := by
  unfold rd
  rw [if_pos (bnd_nI h hN), nI_clamp (by omega)]
theorem wr_nI (σ : St) (k : Nat) (x : Int32) {j N : Nat} (h : j < N) (hN : N < 2 ^ 31) : wr σ k N (nI j) x = some (va_up σ k (upd (σ k) j x)) := by
  unfold wr
  rw [if_pos (bnd_nI h hN), nI_clamp (by omega)]
def itF {β : Type} (F : Nat → β → β) : Nat → Nat → β → β
  | _, 0, a => a
  | i, d + 1, a => itF F (i + 1) d (F i a)
theorem itF_last {β : Type} (F : Nat → β → β) : ∀ (d i : Nat) (a : β), itF F i (d + 1) a = F (i + d) (itF F i d a)
  | 0, _, _ => rfl
  | d + 1, i, a => by
    show itF F (i + 1) (d + 1) (F i a) = _
    rw [itF_last F d (i + 1) (F i a)]
    rw [show i + 1 + d = i + (d + 1) by omega]
    rfl
/-- a loop that counts to N and only gathers -/
theorem lz2_for {β ρ : Type} {b : (Int32 → β → Option ρ) → Int32 → β → Option ρ} {N : Nat} {F : Nat → β → β} {k : β → Option ρ} (hend : ∀ go a, b go (nI N) a = k a) (hstep : ∀ go i a, i < N → b go (nI i) a = go (nI (i + 1)) (F i a)) : ∀ (d i : Nat) (a : β) (fu : Nat), i + d = N → d < fu → lz2 b fu (nI i) a = k (itF F i d a) := by
  intro d
  induction d with
  | zero =>
    intro i a fu h hf
    obtain ⟨fu, rfl⟩ : ∃ z, fu = z + 1 := ⟨fu - 1, by omega⟩
    have : i = N := by omega
    subst this
    exact hend _ a
  | succ d ih =>
    intro i a fu h hf
    obtain ⟨fu, rfl⟩ : ∃ z, fu = z + 1 := ⟨fu - 1, by omega⟩
    show b (lz2 b fu) (nI i) a = _
    rw [hstep _ i a (by omega)]
    exact ih (i + 1) (F i a) fu (by omega) (by omega)
/-! takenIn: the processors of all allocations that meet the interval -/
def tkF (σ : St) (a b : Int32) (k : Nat) (acc : Int32) : Int32 := if b < σ 2 k then acc else if σ 3 k ≤ a then acc else acc ||| σ 0 k
def tk (σ : St) (a b : Int32) : Int32 := itF (tkF σ a b) 0 30 0
theorem takenIn_eq {n : Nat} (hn : 31 ≤ n) (σ : St) (a b : Int32) : fX3_takenIn n σ a b = some (tk σ a b) := by
  unfold fX3_takenIn
  refine lz2_for (N := 30) (F := tkF σ a b) (k := some) (fun go acc => ?_) (fun go i acc hi => ?_) 30 0 0 n rfl (by omega)
  · unfold fX3_takenIn_b5
    exact if_pos (by decide)
  · have h1 : ¬ (30 : Int32) ≤ nI i := nI_ge hi (by decide)
    simp only [fX3_takenIn_b5, if_neg h1, rd_nI _ hi (by decide : 30 < 2 ^ 31), sb, tkF, nI_1]
    split
    · rfl
    · split <;> rfl
theorem and_or0 (x y z : Int32) : (x ||| y) &&& z = 0 ↔ x &&& z = 0 ∧ y &&& z = 0 := by
  simp only [← Int32.toBitVec_inj, Int32.toBitVec_and, Int32.toBitVec_or]
  constructor
  · intro h
    constructor
    · apply BitVec.eq_of_getLsbD_eq
      intro i hi
      have := congrArg (fun v => BitVec.getLsbD v i) h
      simp at this ⊢
      intro h1
      cases hz : (Int32.toBitVec z).getLsbD i <;> simp_all
    · apply BitVec.eq_of_getLsbD_eq
      intro i hi
      have := congrArg (fun v => BitVec.getLsbD v i) h
      simp at this ⊢
      intro h1
      cases hz : (Int32.toBitVec z).getLsbD i <;> simp_all
  · rintro ⟨h1, h2⟩
    apply BitVec.eq_of_getLsbD_eq
    intro i hi
    have e1 := congrArg (fun v => BitVec.getLsbD v i) h1
    have e2 := congrArg (fun v => BitVec.getLsbD v i) h2
    simp at e1 e2 ⊢
    intro h
    rcases h with h | h
    · exact e1 h
    · exact e2 h
