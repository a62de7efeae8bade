/-! PURE: states, partial steps, loops with fuel, outcomes -/
/-- a state: the contents of the cells of a world by their numbers -/
abbrev St : Type := Nat → Nat → Int32
def bnd (i : Int32) (N : Nat) : Bool := decide (¬ (i < 0 ∨ N ≤ i.toNatClampNeg))
theorem bnd_in {i : Int32} {N : Nat} (h : bnd i N = true) : vp_in i N := show ¬ (i < 0 ∨ N ≤ i.toNatClampNeg) from of_decide_eq_true h
def rd (f : Nat → Int32) (N : Nat) (i : Int32) : Option Int32 := if bnd i N = true then some (f i.toNatClampNeg) else none
def wr (σ : St) (k N : Nat) (i x : Int32) : Option St := if bnd i N = true then some (va_up σ k (upd (σ k) i.toNatClampNeg x)) else none
def wf (σ : St) (k : Nat) (x : Int32) : Option St := some (va_up σ k (fun _ => x))
def wz (σ : St) (k : Nat) (x : Int32) : Option St := if x = 0 ∨ x = 1 then some (va_up σ k (fun _ => x)) else none
def gz (x : Int32) : Option Int32 := if x = 0 ∨ x = 1 then some x else none
def orem (x y : Int32) : Option Int32 := if y = 0 then none else some (x - x / y * y)
def ocp (σ : St) (k N : Nat) (f : Nat → Int32) (M : Nat) (sp dp n : Int32) : Option St := if ¬ sp < 0 ∧ ¬ dp < 0 ∧ ¬ n < 0 ∧ sp.toNatClampNeg + n.toNatClampNeg ≤ M ∧ dp.toNatClampNeg + n.toNatClampNeg ≤ N then some (va_up σ k (va_cpy f (σ k) sp.toNatClampNeg dp.toNatClampNeg n.toNatClampNeg)) else none
def imax (x y : Int32) : Int32 := if x < y then y else x
def ush (x y : Int32) : Int32 := (x.toUInt32 >>> (y.toUInt32 &&& Int32.toUInt32 31)).toInt32
def b2 {α β γ : Type} (A : Option (α × β)) (B : α → β → Option γ) : Option γ := A.bind (fun z => B z.1 z.2)
theorem ob {α β : Type} {A : Option α} {B : α → Option β} {r : β} (h : A.bind B = some r) : ∃ x, A = some x ∧ B x = some r := by
  cases A with
  | none => cases h
  | some x => exact ⟨x, rfl, h⟩
theorem ob2 {α β γ : Type} {A : Option (α × β)} {B : α → β → Option γ} {r : γ} (h : b2 A B = some r) : ∃ x y, A = some (x, y) ∧ B x y = some r := by
  cases A with
  | none => cases h
  | some x => exact ⟨x.1, x.2, rfl, h⟩
theorem it {α : Type} {c : Prop} [Decidable c] {X Y r : α} (h : c) (e : (if c then X else Y) = r) : X = r := by rw [if_pos h] at e; exact e
theorem ie {α : Type} {c : Prop} [Decidable c] {X Y r : α} (h : ¬ c) (e : (if c then X else Y) = r) : Y = r := by rw [if_neg h] at e; exact e
theorem rd_s {f : Nat → Int32} {N : Nat} {i x : Int32} (h : rd f N i = some x) : bnd i N = true ∧ x = f i.toNatClampNeg := by
  unfold rd at h
  split at h
  · rename_i q
    cases h
    exact ⟨q, rfl⟩
  · cases h
theorem wr_s {σ σ1 : St} {k N : Nat} {i x : Int32} (h : wr σ k N i x = some σ1) : bnd i N = true ∧ σ1 = va_up σ k (upd (σ k) i.toNatClampNeg x) := by
  unfold wr at h
  split at h
  · rename_i q
    cases h
    exact ⟨q, rfl⟩
  · cases h
theorem wz_s {σ σ1 : St} {k : Nat} {x : Int32} (h : wz σ k x = some σ1) : (x = 0 ∨ x = 1) ∧ σ1 = va_up σ k (fun _ => x) := by
  unfold wz at h
  split at h
  · rename_i q
    cases h
    exact ⟨q, rfl⟩
  · cases h
theorem gz_s {x y : Int32} (h : gz x = some y) : (x = 0 ∨ x = 1) ∧ y = x := by
  unfold gz at h
  split at h
  · rename_i q
    cases h
    exact ⟨q, rfl⟩
  · cases h
theorem orem_s {x y z : Int32} (h : orem x y = some z) : ¬ y = 0 ∧ z = x - x / y * y := by
  unfold orem at h
  split at h
  · cases h
  · rename_i q
    cases h
    exact ⟨q, rfl⟩
section LPS
variable {α β γ δ ε ζ ρ : Type}
def lz1 (b : (α → Option ρ) → α → Option ρ) : Nat → α → Option ρ
  | 0, _ => none
  | n + 1, x => b (lz1 b n) x
def lz2 (b : (α → β → Option ρ) → α → β → Option ρ) : Nat → α → β → Option ρ
  | 0, _, _ => none
  | n + 1, x, y => b (lz2 b n) x y
def lz3 (b : (α → β → γ → Option ρ) → α → β → γ → Option ρ) : Nat → α → β → γ → Option ρ
  | 0, _, _, _ => none
  | n + 1, x, y, z => b (lz3 b n) x y z
def lz4 (b : (α → β → γ → δ → Option ρ) → α → β → γ → δ → Option ρ) : Nat → α → β → γ → δ → Option ρ
  | 0, _, _, _, _ => none
  | n + 1, x, y, z, u => b (lz4 b n) x y z u
def lz5 (b : (α → β → γ → δ → ε → Option ρ) → α → β → γ → δ → ε → Option ρ) : Nat → α → β → γ → δ → ε → Option ρ
  | 0, _, _, _, _, _ => none
  | n + 1, x, y, z, u, v => b (lz5 b n) x y z u v
theorem lz1_s (b : (α → Option ρ) → α → Option ρ) (n : Nat) (x : α) : lz1 b (n + 1) x = b (lz1 b n) x := rfl
theorem lz2_s (b : (α → β → Option ρ) → α → β → Option ρ) (n : Nat) (x : α) (y : β) : lz2 b (n + 1) x y = b (lz2 b n) x y := rfl
theorem lz3_s (b : (α → β → γ → Option ρ) → α → β → γ → Option ρ) (n : Nat) (x : α) (y : β) (z : γ) : lz3 b (n + 1) x y z = b (lz3 b n) x y z := rfl
theorem lz4_s (b : (α → β → γ → δ → Option ρ) → α → β → γ → δ → Option ρ) (n : Nat) (x : α) (y : β) (z : γ) (u : δ) : lz4 b (n + 1) x y z u = b (lz4 b n) x y z u := rfl
theorem lz5_s (b : (α → β → γ → δ → ε → Option ρ) → α → β → γ → δ → ε → Option ρ) (n : Nat) (x : α) (y : β) (z : γ) (u : δ) (v : ε) : lz5 b (n + 1) x y z u v = b (lz5 b n) x y z u v := rfl
end LPS
def xIA : String := "java/lang/IllegalArgumentException"
def xIS : String := "java/lang/IllegalStateException"
def xIO : String := "java/lang/IndexOutOfBoundsException"
def xAE : String := "java/lang/ArithmeticException"
def xNS : String := "java/util/NoSuchElementException"
abbrev XRg (α : Type) : Type := (String × St) ⊕ (α × St)
abbrev XR : Type := XRg Int32
def bx {α : Type} (A : Option XR) (K : Int32 → St → Option (XRg α)) : Option (XRg α) := A.bind (fun o => match o with | .inl e => some (.inl e) | .inr z => K z.1 z.2)
theorem obx {α : Type} {A : Option XR} {K : Int32 → St → Option (XRg α)} {o : XRg α} (h : bx A K = some o) : ∃ z, A = some z ∧ ((∃ e, z = .inl e ∧ o = .inl e) ∨ ∃ x y, z = .inr (x, y) ∧ K x y = some o) := by
  cases A with
  | none => cases h
  | some z =>
    refine ⟨z, rfl, ?_⟩
    cases z with
    | inl e =>
      have h : some (Sum.inl e) = some o := h
      exact Or.inl ⟨e, rfl, (Option.some.inj h).symm⟩
    | inr z => exact Or.inr ⟨z.1, z.2, rfl, h⟩
/-- the state of a cluster put into that of the outer object -/
def mrg (σ s1 : St) : St := fun k => if k < 28 then s1 k else σ k
def od (x : UInt64) : Option UInt64 := if x &&& 0x7fffffffffffffff ≤ 0x7ff0000000000000 then some x else none
def og (x : UInt32) : Option UInt32 := if x &&& 0x7fffffff ≤ 0x7f800000 then some x else none
theorem od_s {x y : UInt64} (h : od x = some y) : vf_n64 x ∧ y = x := by
  unfold od at h
  split at h
  · rename_i q
    cases h
    exact ⟨q, rfl⟩
  · cases h
theorem og_s {x y : UInt32} (h : og x = some y) : vf_n32 x ∧ y = x := by
  unfold og at h
  split at h
  · rename_i q
    cases h
    exact ⟨q, rfl⟩
  · cases h
theorem ocp_s {σ σ1 : St} {k N M : Nat} {f : Nat → Int32} {sp dp n : Int32} (h : ocp σ k N f M sp dp n = some σ1) : (¬ sp < 0 ∧ ¬ dp < 0 ∧ ¬ n < 0 ∧ sp.toNatClampNeg + n.toNatClampNeg ≤ M ∧ dp.toNatClampNeg + n.toNatClampNeg ≤ N) ∧ σ1 = va_up σ k (va_cpy f (σ k) sp.toNatClampNeg dp.toNatClampNeg n.toNatClampNeg) := by
  unfold ocp at h
  split at h
  · rename_i q
    cases h
    exact ⟨q, rfl⟩
  · cases h
/-- what a wrapper of the law answers: 0, or the number of the handler -/
def cdL : List String → Int32 → String → Int32
  | [], _, _ => 0
  | x :: xs, i, E => if E = x then i else cdL xs (i + 1) E
def wcd {α : Type} (hs : List String) (o : XRg α) : Int32 := match o with | .inr _ => 0 | .inl e => cdL hs 1 e.1
def wst {α : Type} (o : XRg α) : St := match o with | .inr z => z.2 | .inl e => e.2
def woL (o : XRg Int32) (f : Nat → Int64) : Nat → Int64 := match o with | .inr z => vp_updL f 0 z.1.toInt64 | .inl _ => f
def woD (o : XRg UInt64) (f : Nat → UInt64) : Nat → UInt64 := match o with | .inr z => vf_upd f 0 z.1 | .inl _ => f
def woF (o : XRg UInt32) (f : Nat → UInt64) : Nat → UInt64 := match o with | .inr z => vf_upd f 0 (FP.f2d z.1) | .inl _ => f
/-- class and reference agree on one call: what the law looks at, and P of the states behind it -/
def AgI (hs : List String) (fx : Option (XRg Int32)) (fm : Option (Int32 × St)) (P : St → St → Prop) : Prop := ∃ o b τ', fx = some o ∧ fm = some (b, τ') ∧ (∀ E u, o = .inl (E, u) → E ∈ hs) ∧ τ' 6 0 = wcd hs o ∧ (∀ v u, o = .inr (v, u) → v = b) ∧ P (wst o) τ'
def AgV (hs : List String) (fx : Option (XRg Int32)) (fm : Option St) (P : St → St → Prop) : Prop := ∃ o τ', fx = some o ∧ fm = some τ' ∧ (∀ E u, o = .inl (E, u) → E ∈ hs) ∧ τ' 6 0 = wcd hs o ∧ P (wst o) τ'
def AgD (hs : List String) (fx : Option (XRg UInt64)) (fm : Option (UInt64 × St)) (P : St → St → Prop) : Prop := ∃ o b τ', fx = some o ∧ fm = some (b, τ') ∧ (∀ E u, o = .inl (E, u) → E ∈ hs) ∧ τ' 6 0 = wcd hs o ∧ (∀ v u, o = .inr (v, u) → v = b ∧ Op.cmpValue (FP.dcmp v v) CmpOp.l = 0) ∧ P (wst o) τ'
def AgF (hs : List String) (fx : Option (XRg UInt32)) (fm : Option (UInt32 × St)) (P : St → St → Prop) : Prop := ∃ o b τ', fx = some o ∧ fm = some (b, τ') ∧ (∀ E u, o = .inl (E, u) → E ∈ hs) ∧ τ' 6 0 = wcd hs o ∧ (∀ v u, o = .inr (v, u) → v = b ∧ vf_n64 (FP.f2d v) ∧ Op.cmpValue (FP.dcmp (FP.f2d v) (FP.f2d v)) CmpOp.l = 0) ∧ P (wst o) τ'
theorem wcd_1 {α : Type} {a : String} {o : XRg α} (h : ∀ E u, o = .inl (E, u) → E ∈ [a]) (h0 : wcd [a] o = 0) : ∃ v u, o = .inr (v, u) := by
  cases o with
  | inr z => exact ⟨z.1, z.2, rfl⟩
  | inl z =>
    have h1 := h z.1 z.2 rfl
    simp only [List.mem_cons, List.not_mem_nil, or_false] at h1
    simp [wcd, cdL, h1] at h0
theorem wcd_2 {α : Type} {a b : String} {o : XRg α} (h : ∀ E u, o = .inl (E, u) → E ∈ [a, b]) (h0 : wcd [a, b] o = 0) : ∃ v u, o = .inr (v, u) := by
  cases o with
  | inr z => exact ⟨z.1, z.2, rfl⟩
  | inl z =>
    have h1 := h z.1 z.2 rfl
    simp only [List.mem_cons, List.not_mem_nil, or_false] at h1
    exfalso
    have h0 : cdL [a, b] 1 z.1 = 0 := h0
    by_cases c1 : z.1 = a
    · rw [c1] at h0; simp [cdL] at h0
    · rcases h1 with h1 | h1
      · exact c1 h1
      · simp only [cdL, if_neg c1, if_pos h1] at h0; exact absurd h0 (by decide)
theorem wcd_3 {α : Type} {a b c : String} {o : XRg α} (h : ∀ E u, o = .inl (E, u) → E ∈ [a, b, c]) (h0 : wcd [a, b, c] o = 0) : ∃ v u, o = .inr (v, u) := by
  cases o with
  | inr z => exact ⟨z.1, z.2, rfl⟩
  | inl z =>
    have h1 := h z.1 z.2 rfl
    simp only [List.mem_cons, List.not_mem_nil, or_false] at h1
    exfalso
    have h0 : cdL [a, b, c] 1 z.1 = 0 := h0
    by_cases c1 : z.1 = a
    · rw [c1] at h0; simp [cdL] at h0
    · by_cases c2 : z.1 = b
      · simp only [cdL, if_neg c1, if_pos c2] at h0; exact absurd h0 (by decide)
      · rcases h1 with h1 | h1 | h1
        · exact c1 h1
        · exact c2 h1
        · simp only [cdL, if_neg c1, if_neg c2, if_pos h1] at h0; exact absurd h0 (by decide)
