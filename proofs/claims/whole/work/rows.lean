section
/-! PURE: states, partial steps, loops with fuel, outcomes -/
/-- a state: the contents of the cells of a world by their numbers -/
abbrev St : Type := Nat → Nat → Int32
def bnd (i : Int32) (N : Nat) : Bool := decide (¬ (i < 0 ∨ N ≤ i.toNatClampNeg))
theorem bnd_in {i : Int32} {N : Nat} (h : bnd i N = true) : vp_in i N := show ¬ (i < 0 ∨ N ≤ i.toNatClampNeg) from of_decide_eq_true h
def rd (f : Nat → Int32) (N : Nat) (i : Int32) : Option Int32 := if bnd i N = true then some (f i.toNatClampNeg) else none
def wr (σ : St) (k N : Nat) (i x : Int32) : Option St := if bnd i N = true then some (va_up σ k (upd (σ k) i.toNatClampNeg x)) else none
def wf (σ : St) (k : Nat) (x : Int32) : Option St := some (va_up σ k (fun _ => x))
def wz (σ : St) (k : Nat) (x : Int32) : Option St := if x = 0 ∨ x = 1 then some (va_up σ k (fun _ => x)) else none
def gz (x : Int32) : Option Int32 := if x = 0 ∨ x = 1 then some x else none
def orem (x y : Int32) : Option Int32 := if y = 0 then none else some (x - x / y * y)
def ocp (σ : St) (k N : Nat) (f : Nat → Int32) (M : Nat) (sp dp n : Int32) : Option St := if ¬ sp < 0 ∧ ¬ dp < 0 ∧ ¬ n < 0 ∧ sp.toNatClampNeg + n.toNatClampNeg ≤ M ∧ dp.toNatClampNeg + n.toNatClampNeg ≤ N then some (va_up σ k (va_cpy f (σ k) sp.toNatClampNeg dp.toNatClampNeg n.toNatClampNeg)) else none
def imax (x y : Int32) : Int32 := if x < y then y else x
def ush (x y : Int32) : Int32 := (x.toUInt32 >>> (y.toUInt32 &&& Int32.toUInt32 31)).toInt32
def b2 {α β γ : Type} (A : Option (α × β)) (B : α → β → Option γ) : Option γ := A.bind (fun z => B z.1 z.2)
theorem ob {α β : Type} {A : Option α} {B : α → Option β} {r : β} (h : A.bind B = some r) : ∃ x, A = some x ∧ B x = some r := by
  cases A with
  | none => cases h
  | some x => exact ⟨x, rfl, h⟩
theorem ob2 {α β γ : Type} {A : Option (α × β)} {B : α → β → Option γ} {r : γ} (h : b2 A B = some r) : ∃ x y, A = some (x, y) ∧ B x y = some r := by
  cases A with
  | none => cases h
  | some x => exact ⟨x.1, x.2, rfl, h⟩
theorem it {α : Type} {c : Prop} [Decidable c] {X Y r : α} (h : c) (e : (if c then X else Y) = r) : X = r := by rw [if_pos h] at e; exact e
theorem ie {α : Type} {c : Prop} [Decidable c] {X Y r : α} (h : ¬ c) (e : (if c then X else Y) = r) : Y = r := by rw [if_neg h] at e; exact e
theorem rd_s {f : Nat → Int32} {N : Nat} {i x : Int32} (h : rd f N i = some x) : bnd i N = true ∧ x = f i.toNatClampNeg := by
  unfold rd at h
  split at h
  · rename_i q
    cases h
    exact ⟨q, rfl⟩
  · cases h
theorem wr_s {σ σ1 : St} {k N : Nat} {i x : Int32} (h : wr σ k N i x = some σ1) : bnd i N = true ∧ σ1 = va_up σ k (upd (σ k) i.toNatClampNeg x) := by
  unfold wr at h
  split at h
  · rename_i q
    cases h
    exact ⟨q, rfl⟩
  · cases h
theorem wz_s {σ σ1 : St} {k : Nat} {x : Int32} (h : wz σ k x = some σ1) : (x = 0 ∨ x = 1) ∧ σ1 = va_up σ k (fun _ => x) := by
  unfold wz at h
  split at h
  · rename_i q
    cases h
    exact ⟨q, rfl⟩
  · cases h
theorem gz_s {x y : Int32} (h : gz x = some y) : (x = 0 ∨ x = 1) ∧ y = x := by
  unfold gz at h
  split at h
  · rename_i q
    cases h
    exact ⟨q, rfl⟩
  · cases h
theorem orem_s {x y z : Int32} (h : orem x y = some z) : ¬ y = 0 ∧ z = x - x / y * y := by
  unfold orem at h
  split at h
  · cases h
  · rename_i q
    cases h
    exact ⟨q, rfl⟩
section LPS
variable {α β γ δ ε ζ ρ : Type}
def lz1 (b : (α → Option ρ) → α → Option ρ) : Nat → α → Option ρ
  | 0, _ => none
  | n + 1, x => b (lz1 b n) x
def lz2 (b : (α → β → Option ρ) → α → β → Option ρ) : Nat → α → β → Option ρ
  | 0, _, _ => none
  | n + 1, x, y => b (lz2 b n) x y
def lz3 (b : (α → β → γ → Option ρ) → α → β → γ → Option ρ) : Nat → α → β → γ → Option ρ
  | 0, _, _, _ => none
  | n + 1, x, y, z => b (lz3 b n) x y z
def lz4 (b : (α → β → γ → δ → Option ρ) → α → β → γ → δ → Option ρ) : Nat → α → β → γ → δ → Option ρ
  | 0, _, _, _, _ => none
  | n + 1, x, y, z, u => b (lz4 b n) x y z u
def lz5 (b : (α → β → γ → δ → ε → Option ρ) → α → β → γ → δ → ε → Option ρ) : Nat → α → β → γ → δ → ε → Option ρ
  | 0, _, _, _, _, _ => none
  | n + 1, x, y, z, u, v => b (lz5 b n) x y z u v
theorem lz1_s (b : (α → Option ρ) → α → Option ρ) (n : Nat) (x : α) : lz1 b (n + 1) x = b (lz1 b n) x := rfl
theorem lz2_s (b : (α → β → Option ρ) → α → β → Option ρ) (n : Nat) (x : α) (y : β) : lz2 b (n + 1) x y = b (lz2 b n) x y := rfl
theorem lz3_s (b : (α → β → γ → Option ρ) → α → β → γ → Option ρ) (n : Nat) (x : α) (y : β) (z : γ) : lz3 b (n + 1) x y z = b (lz3 b n) x y z := rfl
theorem lz4_s (b : (α → β → γ → δ → Option ρ) → α → β → γ → δ → Option ρ) (n : Nat) (x : α) (y : β) (z : γ) (u : δ) : lz4 b (n + 1) x y z u = b (lz4 b n) x y z u := rfl
theorem lz5_s (b : (α → β → γ → δ → ε → Option ρ) → α → β → γ → δ → ε → Option ρ) (n : Nat) (x : α) (y : β) (z : γ) (u : δ) (v : ε) : lz5 b (n + 1) x y z u v = b (lz5 b n) x y z u v := rfl
end LPS
def xIA : String := "java/lang/IllegalArgumentException"
def xIS : String := "java/lang/IllegalStateException"
def xIO : String := "java/lang/IndexOutOfBoundsException"
def xAE : String := "java/lang/ArithmeticException"
def xNS : String := "java/util/NoSuchElementException"
abbrev XRg (α : Type) : Type := (String × St) ⊕ (α × St)
abbrev XR : Type := XRg Int32
def bx {α : Type} (A : Option XR) (K : Int32 → St → Option (XRg α)) : Option (XRg α) := A.bind (fun o => match o with | .inl e => some (.inl e) | .inr z => K z.1 z.2)
theorem obx {α : Type} {A : Option XR} {K : Int32 → St → Option (XRg α)} {o : XRg α} (h : bx A K = some o) : ∃ z, A = some z ∧ ((∃ e, z = .inl e ∧ o = .inl e) ∨ ∃ x y, z = .inr (x, y) ∧ K x y = some o) := by
  cases A with
  | none => cases h
  | some z =>
    refine ⟨z, rfl, ?_⟩
    cases z with
    | inl e =>
      have h : some (Sum.inl e) = some o := h
      exact Or.inl ⟨e, rfl, (Option.some.inj h).symm⟩
    | inr z => exact Or.inr ⟨z.1, z.2, rfl, h⟩
/-- the state of a cluster put into that of the outer object -/
def mrg (σ s1 : St) : St := fun k => if k < 28 then s1 k else σ k
def od (x : UInt64) : Option UInt64 := if x &&& 0x7fffffffffffffff ≤ 0x7ff0000000000000 then some x else none
def og (x : UInt32) : Option UInt32 := if x &&& 0x7fffffff ≤ 0x7f800000 then some x else none
theorem od_s {x y : UInt64} (h : od x = some y) : vf_n64 x ∧ y = x := by
  unfold od at h
  split at h
  · rename_i q
    cases h
    exact ⟨q, rfl⟩
  · cases h
theorem og_s {x y : UInt32} (h : og x = some y) : vf_n32 x ∧ y = x := by
  unfold og at h
  split at h
  · rename_i q
    cases h
    exact ⟨q, rfl⟩
  · cases h
theorem ocp_s {σ σ1 : St} {k N M : Nat} {f : Nat → Int32} {sp dp n : Int32} (h : ocp σ k N f M sp dp n = some σ1) : (¬ sp < 0 ∧ ¬ dp < 0 ∧ ¬ n < 0 ∧ sp.toNatClampNeg + n.toNatClampNeg ≤ M ∧ dp.toNatClampNeg + n.toNatClampNeg ≤ N) ∧ σ1 = va_up σ k (va_cpy f (σ k) sp.toNatClampNeg dp.toNatClampNeg n.toNatClampNeg) := by
  unfold ocp at h
  split at h
  · rename_i q
    cases h
    exact ⟨q, rfl⟩
  · cases h
/-- what a wrapper of the law answers: 0, or the number of the handler -/
def cdL : List String → Int32 → String → Int32
  | [], _, _ => 0
  | x :: xs, i, E => if E = x then i else cdL xs (i + 1) E
def wcd {α : Type} (hs : List String) (o : XRg α) : Int32 := match o with | .inr _ => 0 | .inl e => cdL hs 1 e.1
def wst {α : Type} (o : XRg α) : St := match o with | .inr z => z.2 | .inl e => e.2
def woL (o : XRg Int32) (f : Nat → Int64) : Nat → Int64 := match o with | .inr z => vp_updL f 0 z.1.toInt64 | .inl _ => f
def woD (o : XRg UInt64) (f : Nat → UInt64) : Nat → UInt64 := match o with | .inr z => vf_upd f 0 z.1 | .inl _ => f
def woF (o : XRg UInt32) (f : Nat → UInt64) : Nat → UInt64 := match o with | .inr z => vf_upd f 0 (FP.f2d z.1) | .inl _ => f
/-- class and reference agree on one call: what the law looks at, and P of the states behind it -/
def AgI (hs : List String) (fx : Option (XRg Int32)) (fm : Option (Int32 × St)) (P : St → St → Prop) : Prop := ∃ o b τ', fx = some o ∧ fm = some (b, τ') ∧ (∀ E u, o = .inl (E, u) → E ∈ hs) ∧ τ' 6 0 = wcd hs o ∧ (∀ v u, o = .inr (v, u) → v = b) ∧ P (wst o) τ'
def AgV (hs : List String) (fx : Option (XRg Int32)) (fm : Option St) (P : St → St → Prop) : Prop := ∃ o τ', fx = some o ∧ fm = some τ' ∧ (∀ E u, o = .inl (E, u) → E ∈ hs) ∧ τ' 6 0 = wcd hs o ∧ P (wst o) τ'
def AgD (hs : List String) (fx : Option (XRg UInt64)) (fm : Option (UInt64 × St)) (P : St → St → Prop) : Prop := ∃ o b τ', fx = some o ∧ fm = some (b, τ') ∧ (∀ E u, o = .inl (E, u) → E ∈ hs) ∧ τ' 6 0 = wcd hs o ∧ (∀ v u, o = .inr (v, u) → v = b ∧ Op.cmpValue (FP.dcmp v v) CmpOp.l = 0) ∧ P (wst o) τ'
def AgF (hs : List String) (fx : Option (XRg UInt32)) (fm : Option (UInt32 × St)) (P : St → St → Prop) : Prop := ∃ o b τ', fx = some o ∧ fm = some (b, τ') ∧ (∀ E u, o = .inl (E, u) → E ∈ hs) ∧ τ' 6 0 = wcd hs o ∧ (∀ v u, o = .inr (v, u) → v = b ∧ vf_n64 (FP.f2d v) ∧ Op.cmpValue (FP.dcmp (FP.f2d v) (FP.f2d v)) CmpOp.l = 0) ∧ P (wst o) τ'
theorem wcd_1 {α : Type} {a : String} {o : XRg α} (h : ∀ E u, o = .inl (E, u) → E ∈ [a]) (h0 : wcd [a] o = 0) : ∃ v u, o = .inr (v, u) := by
  cases o with
  | inr z => exact ⟨z.1, z.2, rfl⟩
  | inl z =>
    have h1 := h z.1 z.2 rfl
    simp only [List.mem_cons, List.not_mem_nil, or_false] at h1
    simp [wcd, cdL, h1] at h0
theorem wcd_2 {α : Type} {a b : String} {o : XRg α} (h : ∀ E u, o = .inl (E, u) → E ∈ [a, b]) (h0 : wcd [a, b] o = 0) : ∃ v u, o = .inr (v, u) := by
  cases o with
  | inr z => exact ⟨z.1, z.2, rfl⟩
  | inl z =>
    have h1 := h z.1 z.2 rfl
    simp only [List.mem_cons, List.not_mem_nil, or_false] at h1
    exfalso
    have h0 : cdL [a, b] 1 z.1 = 0 := h0
    by_cases c1 : z.1 = a
    · rw [c1] at h0; simp [cdL] at h0
    · rcases h1 with h1 | h1
      · exact c1 h1
      · simp only [cdL, if_neg c1, if_pos h1] at h0; exact absurd h0 (by decide)
theorem wcd_3 {α : Type} {a b c : String} {o : XRg α} (h : ∀ E u, o = .inl (E, u) → E ∈ [a, b, c]) (h0 : wcd [a, b, c] o = 0) : ∃ v u, o = .inr (v, u) := by
  cases o with
  | inr z => exact ⟨z.1, z.2, rfl⟩
  | inl z =>
    have h1 := h z.1 z.2 rfl
    simp only [List.mem_cons, List.not_mem_nil, or_false] at h1
    exfalso
    have h0 : cdL [a, b, c] 1 z.1 = 0 := h0
    by_cases c1 : z.1 = a
    · rw [c1] at h0; simp [cdL] at h0
    · by_cases c2 : z.1 = b
      · simp only [cdL, if_neg c1, if_pos c2] at h0; exact absurd h0 (by decide)
      · rcases h1 with h1 | h1 | h1
        · exact c1 h1
        · exact c2 h1
        · simp only [cdL, if_neg c1, if_neg c2, if_pos h1] at h0; exact absurd h0 (by decide)
end
section
def fX4_isUser (n : Nat) (x1 : Int32) : Option Int32 :=
  if x1 < 0 then
  (some (0 : Int32))
  else
  (if (4 : Int32) ≤ x1 then
  (some (0 : Int32))
  else
  (some (1 : Int32)))
def fX4_isOrder (n : Nat) (x1 : Int32) : Option Int32 :=
  if x1 < 0 then
  (some (0 : Int32))
  else
  (if (5 : Int32) < x1 then
  (some (0 : Int32))
  else
  (some (1 : Int32)))
def fX4_isLength (n : Nat) (x1 : Int32) : Option Int32 :=
  if x1 < (1 : Int32) then
  (some (0 : Int32))
  else
  (if (40 : Int32) < x1 then
  (some (0 : Int32))
  else
  (some (1 : Int32)))
def fX4_isBlock (n : Nat) (x1 : Int32) (x2 : Int32) : Option Int32 :=
  Option.bind (fX4_isOrder n x1) fun v1 =>
  if v1 = 0 then
  (some (0 : Int32))
  else
  (if x2 < 0 then
  (some (0 : Int32))
  else
  (if (32 : Int32) ≤ x2 then
  (some (0 : Int32))
  else
  (if (x2 &&& (((1 : Int32) <<< (x1 &&& 31)) - (1 : Int32))) = 0 then
  (some (1 : Int32))
  else
  (some (0 : Int32)))))
def fX4_blockMask (n : Nat) (x1 : Int32) (x2 : Int32) : Option Int32 :=
  some ((ush (-1 : Int32) ((32 : Int32) - ((1 : Int32) <<< (x1 &&& 31)))) <<< (x2 &&& 31))
def fX4_blockIndex (n : Nat) (x1 : Int32) (x2 : Int32) : Option Int32 :=
  some (((32 : Int32) + x2) >>> (x1 &&& 31))
def fX4_isClear (n : Nat) (x1 : Int32) (x2 : Int32) (x3 : Int32) : Option Int32 :=
  Option.bind (fX4_blockMask n x2 (x3 <<< (x2 &&& 31))) fun v1 =>
  if (x1 &&& v1) = 0 then
  (some (1 : Int32))
  else
  (some (0 : Int32))
def fX4_lowestClear_b8 (x1 : Int32) (x2 : Int32) (v1 : Int32) (go3 : Int32 → Option Int32) (y2 : Int32) : Option Int32 :=
  if ((32 : Int32) >>> (x2 &&& 31)) ≤ y2 then
  (some (-1 : Int32))
  else
  (if (x1 &&& (v1 <<< ((y2 <<< (x2 &&& 31)) &&& 31))) = 0 then
  (some (y2 <<< (x2 &&& 31)))
  else
  (go3 (y2 + (1 : Int32))))
def fX4_lowestClear (n : Nat) (x1 : Int32) (x2 : Int32) : Option Int32 :=
  Option.bind (fX4_blockMask n x2 (0 : Int32)) fun v1 =>
  lz1 (fX4_lowestClear_b8 x1 x2 v1) n (0 : Int32)
def fX4_largestClearOrder_b2 (n : Nat) (x1 : Int32) (go2 : Int32 → Option Int32) (y1 : Int32) : Option Int32 :=
  if y1 < 0 then
  (some (-1 : Int32))
  else
  (Option.bind (fX4_lowestClear n x1 y1) fun v3 =>
  if v3 = (-1 : Int32) then
  (go2 (y1 + (-1 : Int32)))
  else
  (some y1))
def fX4_largestClearOrder (n : Nat) (x1 : Int32) : Option Int32 :=
  lz1 (fX4_largestClearOrder_b2 n x1) n (5 : Int32)
def fJ6_bitCount_0f7a4 (n : Nat) (x1 : Int32) : Option Int32 :=
  some ((((((((x1 - ((ush x1 (1 : Int32)) &&& (1431655765 : Int32))) &&& (858993459 : Int32)) + ((ush (x1 - ((ush x1 (1 : Int32)) &&& (1431655765 : Int32))) (2 : Int32)) &&& (858993459 : Int32))) + (ush (((x1 - ((ush x1 (1 : Int32)) &&& (1431655765 : Int32))) &&& (858993459 : Int32)) + ((ush (x1 - ((ush x1 (1 : Int32)) &&& (1431655765 : Int32))) (2 : Int32)) &&& (858993459 : Int32))) (4 : Int32))) &&& (252645135 : Int32)) + (ush (((((x1 - ((ush x1 (1 : Int32)) &&& (1431655765 : Int32))) &&& (858993459 : Int32)) + ((ush (x1 - ((ush x1 (1 : Int32)) &&& (1431655765 : Int32))) (2 : Int32)) &&& (858993459 : Int32))) + (ush (((x1 - ((ush x1 (1 : Int32)) &&& (1431655765 : Int32))) &&& (858993459 : Int32)) + ((ush (x1 - ((ush x1 (1 : Int32)) &&& (1431655765 : Int32))) (2 : Int32)) &&& (858993459 : Int32))) (4 : Int32))) &&& (252645135 : Int32)) (8 : Int32))) + (ush ((((((x1 - ((ush x1 (1 : Int32)) &&& (1431655765 : Int32))) &&& (858993459 : Int32)) + ((ush (x1 - ((ush x1 (1 : Int32)) &&& (1431655765 : Int32))) (2 : Int32)) &&& (858993459 : Int32))) + (ush (((x1 - ((ush x1 (1 : Int32)) &&& (1431655765 : Int32))) &&& (858993459 : Int32)) + ((ush (x1 - ((ush x1 (1 : Int32)) &&& (1431655765 : Int32))) (2 : Int32)) &&& (858993459 : Int32))) (4 : Int32))) &&& (252645135 : Int32)) + (ush (((((x1 - ((ush x1 (1 : Int32)) &&& (1431655765 : Int32))) &&& (858993459 : Int32)) + ((ush (x1 - ((ush x1 (1 : Int32)) &&& (1431655765 : Int32))) (2 : Int32)) &&& (858993459 : Int32))) + (ush (((x1 - ((ush x1 (1 : Int32)) &&& (1431655765 : Int32))) &&& (858993459 : Int32)) + ((ush (x1 - ((ush x1 (1 : Int32)) &&& (1431655765 : Int32))) (2 : Int32)) &&& (858993459 : Int32))) (4 : Int32))) &&& (252645135 : Int32)) (8 : Int32))) (16 : Int32))) &&& (63 : Int32))
def fX1_note (n : Nat) (σ : St) (x1 : Int32) (x2 : Int32) (x3 : Int32) : Option St :=
  Option.bind (orem ((σ 21 0) + (σ 20 0)) (60 : Int32)) fun v1 =>
  Option.bind (wr σ 17 60 v1 x1) fun s2 =>
  Option.bind (wr s2 18 60 v1 x2) fun s3 =>
  Option.bind (wr s3 19 60 v1 x3) fun s4 =>
  if (60 : Int32) ≤ (s4 20 0) then
  (Option.bind (orem ((s4 21 0) + (1 : Int32)) (60 : Int32)) fun v5 =>
  Option.bind (wf s4 21 v5) fun s6 =>
  some s6)
  else
  (Option.bind (wf s4 20 ((s4 20 0) + (1 : Int32))) fun s7 =>
  some s7)
def fX1_entry (n : Nat) (σ : St) (x1 : Int32) (x2 : Int32) : Option Int32 :=
  Option.bind (orem ((σ 21 0) + x1) (60 : Int32)) fun v1 =>
  if x2 = 0 then
  (Option.bind (rd (σ 17) 60 v1) fun v4 =>
  some v4)
  else
  (if x2 = (1 : Int32) then
  (Option.bind (rd (σ 18) 60 v1) fun v3 =>
  some v3)
  else
  (Option.bind (rd (σ 19) 60 v1) fun v2 =>
  some v2))
def fX1_copyFrom (n : Nat) (σ2 : St) (σ : St) : Option St :=
  Option.bind (wf σ 20 (σ2 20 0)) fun s1 =>
  Option.bind (wf s1 21 (σ2 21 0)) fun s2 =>
  Option.bind (ocp s2 17 60 (σ2 17) 60 (0 : Int32) (0 : Int32) (60 : Int32)) fun s3 =>
  Option.bind (ocp s3 18 60 (σ2 18) 60 (0 : Int32) (0 : Int32) (60 : Int32)) fun s4 =>
  Option.bind (ocp s4 19 60 (σ2 19) 60 (0 : Int32) (0 : Int32) (60 : Int32)) fun s5 =>
  some s5
def fX2_wasStarted (n : Nat) (σ : St) (x1 : Int32) : Option Int32 :=
  Option.bind (rd (σ 12) 24 x1) fun v1 =>
  if v1 = (-1 : Int32) then
  (some (0 : Int32))
  else
  (some (1 : Int32))
def fX2_waited (n : Nat) (σ : St) (x1 : Int32) : Option Int32 :=
  Option.bind (rd (σ 12) 24 x1) fun v1 =>
  Option.bind (rd (σ 10) 24 x1) fun v2 =>
  some (v1 - v2)
def fX2_append (n : Nat) (σ : St) (x1 : Int32) (x2 : Int32) (x3 : Int32) (x4 : Int32) (x5 : Int32) : Option (Int32 × St) :=
  Option.bind (wr σ 4 24 (σ 16 0) x1) fun s1 =>
  Option.bind (wr s1 5 24 (σ 16 0) x2) fun s2 =>
  Option.bind (wr s2 6 24 (σ 16 0) x3) fun s3 =>
  Option.bind (wr s3 7 24 (σ 16 0) x4) fun s4 =>
  Option.bind (wr s4 8 24 (σ 16 0) (0 : Int32)) fun s5 =>
  Option.bind (wr s5 9 24 (σ 16 0) x4) fun s6 =>
  Option.bind (wr s6 10 24 (σ 16 0) x5) fun s7 =>
  Option.bind (wr s7 11 24 (σ 16 0) (-1 : Int32)) fun s8 =>
  Option.bind (wr s8 12 24 (σ 16 0) (-1 : Int32)) fun s9 =>
  Option.bind (wr s9 13 24 (σ 16 0) (-1 : Int32)) fun s10 =>
  Option.bind (wr s10 14 24 (σ 16 0) (0 : Int32)) fun s11 =>
  Option.bind (wr s11 15 24 (σ 16 0) (0 : Int32)) fun s12 =>
  Option.bind (wf s12 16 ((s12 16 0) + (1 : Int32))) fun s13 =>
  some ((σ 16 0), s13)
def fX2_copyFrom (n : Nat) (σ2 : St) (σ : St) : Option St :=
  Option.bind (wf σ 16 (σ2 16 0)) fun s1 =>
  Option.bind (ocp s1 4 24 (σ2 4) 24 (0 : Int32) (0 : Int32) (24 : Int32)) fun s2 =>
  Option.bind (ocp s2 5 24 (σ2 5) 24 (0 : Int32) (0 : Int32) (24 : Int32)) fun s3 =>
  Option.bind (ocp s3 6 24 (σ2 6) 24 (0 : Int32) (0 : Int32) (24 : Int32)) fun s4 =>
  Option.bind (ocp s4 7 24 (σ2 7) 24 (0 : Int32) (0 : Int32) (24 : Int32)) fun s5 =>
  Option.bind (ocp s5 8 24 (σ2 8) 24 (0 : Int32) (0 : Int32) (24 : Int32)) fun s6 =>
  Option.bind (ocp s6 9 24 (σ2 9) 24 (0 : Int32) (0 : Int32) (24 : Int32)) fun s7 =>
  Option.bind (ocp s7 10 24 (σ2 10) 24 (0 : Int32) (0 : Int32) (24 : Int32)) fun s8 =>
  Option.bind (ocp s8 11 24 (σ2 11) 24 (0 : Int32) (0 : Int32) (24 : Int32)) fun s9 =>
  Option.bind (ocp s9 12 24 (σ2 12) 24 (0 : Int32) (0 : Int32) (24 : Int32)) fun s10 =>
  Option.bind (ocp s10 13 24 (σ2 13) 24 (0 : Int32) (0 : Int32) (24 : Int32)) fun s11 =>
  Option.bind (ocp s11 14 24 (σ2 14) 24 (0 : Int32) (0 : Int32) (24 : Int32)) fun s12 =>
  Option.bind (ocp s12 15 24 (σ2 15) 24 (0 : Int32) (0 : Int32) (24 : Int32)) fun s13 =>
  some s13
def fX3_give (n : Nat) (σ : St) (x1 : Int32) (x2 : Int32) (x3 : Int32) (x4 : Int32) (x5 : Int32) : Option St :=
  Option.bind (fX4_blockMask n x2 x3) fun v1 =>
  Option.bind (wr σ 0 30 x1 v1) fun s2 =>
  Option.bind (wr s2 1 30 x1 x3) fun s3 =>
  Option.bind (wr s3 2 30 x1 x4) fun s4 =>
  Option.bind (wr s4 3 30 x1 (x4 + x5)) fun s5 =>
  some s5
def fX3_clearSlot (n : Nat) (σ : St) (x1 : Int32) : Option St :=
  Option.bind (wr σ 0 30 x1 (0 : Int32)) fun s1 =>
  some s1
def fX3_isUsed (n : Nat) (σ : St) (x1 : Int32) : Option Int32 :=
  Option.bind (rd (σ 0) 30 x1) fun v1 =>
  if v1 = 0 then
  (some (0 : Int32))
  else
  (some (1 : Int32))
def fX3_takenIn_b5 (σ : St) (x1 : Int32) (x2 : Int32) (go3 : Int32 → Int32 → Option Int32) (y1 : Int32) (y2 : Int32) : Option Int32 :=
  if (30 : Int32) ≤ y1 then
  (some y2)
  else
  (Option.bind (rd (σ 2) 30 y1) fun v4 =>
  if x2 < v4 then
  (go3 (y1 + (1 : Int32)) y2)
  else
  (Option.bind (rd (σ 3) 30 y1) fun v5 =>
  if v5 ≤ x1 then
  (go3 (y1 + (1 : Int32)) y2)
  else
  (Option.bind (rd (σ 0) 30 y1) fun v6 =>
  go3 (y1 + (1 : Int32)) (y2 ||| v6))))
def fX3_takenIn (n : Nat) (σ : St) (x1 : Int32) (x2 : Int32) : Option Int32 :=
  lz2 (fX3_takenIn_b5 σ x1 x2) n (0 : Int32) (0 : Int32)
def fX3_lowestFree (n : Nat) (σ : St) (x1 : Int32) (x2 : Int32) (x3 : Int32) : Option Int32 :=
  Option.bind (fX3_takenIn n σ x2 ((x2 + x3) - (1 : Int32))) fun v1 =>
  Option.bind (fX4_lowestClear n v1 x1) fun v2 =>
  some v2
def fX3_nextEnd_b4 (σ : St) (x1 : Int32) (go3 : Int32 → Int32 → Option Int32) (y1 : Int32) (y2 : Int32) : Option Int32 :=
  if (30 : Int32) ≤ y1 then
  (some y2)
  else
  (Option.bind (rd (σ 0) 30 y1) fun v4 =>
  if v4 = 0 then
  (go3 (y1 + (1 : Int32)) y2)
  else
  (Option.bind (rd (σ 3) 30 y1) fun v5 =>
  if v5 ≤ x1 then
  (go3 (y1 + (1 : Int32)) y2)
  else
  (if y2 = x1 then
  (Option.bind (rd (σ 3) 30 y1) fun v6 =>
  go3 (y1 + (1 : Int32)) v6)
  else
  (Option.bind (rd (σ 3) 30 y1) fun v7 =>
  if y2 ≤ v7 then
  (go3 (y1 + (1 : Int32)) y2)
  else
  (Option.bind (rd (σ 3) 30 y1) fun v8 =>
  go3 (y1 + (1 : Int32)) v8)))))
def fX3_nextEnd (n : Nat) (σ : St) (x1 : Int32) : Option Int32 :=
  lz2 (fX3_nextEnd_b4 σ x1) n (0 : Int32) x1
def fX3_earliest_b6 (n : Nat) (σ : St) (x1 : Int32) (x3 : Int32) (go3 : Int32 → Int32 → Option Int32) (y1 : Int32) (y2 : Int32) : Option Int32 :=
  if (30 : Int32) ≤ y1 then
  (some y2)
  else
  (Option.bind (fX3_takenIn n σ y2 ((y2 + x3) - (1 : Int32))) fun v4 =>
  Option.bind (fX4_lowestClear n v4 x1) fun v5 =>
  if v5 = (-1 : Int32) then
  (Option.bind (fX3_nextEnd n σ y2) fun v6 =>
  go3 (y1 + (1 : Int32)) v6)
  else
  (some y2))
def fX3_earliest (n : Nat) (σ : St) (x1 : Int32) (x2 : Int32) (x3 : Int32) : Option Int32 :=
  lz2 (fX3_earliest_b6 n σ x1 x3) n (0 : Int32) x2
def fX3_slotAt_b2 (σ : St) (x1 : Int32) (x2 : Int32) (go2 : Int32 → Option Int32) (y1 : Int32) : Option Int32 :=
  if (30 : Int32) ≤ y1 then
  (some (-1 : Int32))
  else
  (Option.bind (rd (σ 2) 30 y1) fun v3 =>
  if x2 < v3 then
  (if (0 : Int32) = 0 then
  (go2 (y1 + (1 : Int32)))
  else
  (Option.bind (rd (σ 0) 30 y1) fun v4 =>
  if ((ush v4 x1) &&& (1 : Int32)) = 0 then
  (go2 (y1 + (1 : Int32)))
  else
  (some y1)))
  else
  (Option.bind (rd (σ 3) 30 y1) fun v5 =>
  if v5 ≤ x2 then
  (if (0 : Int32) = 0 then
  (go2 (y1 + (1 : Int32)))
  else
  (Option.bind (rd (σ 0) 30 y1) fun v6 =>
  if ((ush v6 x1) &&& (1 : Int32)) = 0 then
  (go2 (y1 + (1 : Int32)))
  else
  (some y1)))
  else
  (if (1 : Int32) = 0 then
  (go2 (y1 + (1 : Int32)))
  else
  (Option.bind (rd (σ 0) 30 y1) fun v7 =>
  if ((ush v7 x1) &&& (1 : Int32)) = 0 then
  (go2 (y1 + (1 : Int32)))
  else
  (some y1)))))
def fX3_slotAt (n : Nat) (σ : St) (x1 : Int32) (x2 : Int32) : Option Int32 :=
  lz1 (fX3_slotAt_b2 σ x1 x2) n (0 : Int32)
def fX3_endOfJobs_b4 (σ : St) (go3 : Int32 → Int32 → Option Int32) (y1 : Int32) (y2 : Int32) : Option Int32 :=
  if (24 : Int32) ≤ y1 then
  (some y2)
  else
  (Option.bind (rd (σ 0) 30 y1) fun v4 =>
  if v4 = 0 then
  (go3 (y1 + (1 : Int32)) y2)
  else
  (Option.bind (rd (σ 3) 30 y1) fun v5 =>
  go3 (y1 + (1 : Int32)) (imax y2 v5)))
def fX3_endOfJobs (n : Nat) (σ : St) : Option Int32 :=
  lz2 (fX3_endOfJobs_b4 σ) n (0 : Int32) (0 : Int32)
def fX3_copyFrom (n : Nat) (σ2 : St) (σ : St) : Option St :=
  Option.bind (ocp σ 0 30 (σ2 0) 30 (0 : Int32) (0 : Int32) (30 : Int32)) fun s1 =>
  Option.bind (ocp s1 1 30 (σ2 1) 30 (0 : Int32) (0 : Int32) (30 : Int32)) fun s2 =>
  Option.bind (ocp s2 2 30 (σ2 2) 30 (0 : Int32) (0 : Int32) (30 : Int32)) fun s3 =>
  Option.bind (ocp s3 3 30 (σ2 3) 30 (0 : Int32) (0 : Int32) (30 : Int32)) fun s4 =>
  some s4
def fX0_plan (n : Nat) (σ : St) (x1 : Int32) : Option (Int32 × St) :=
  Option.bind (rd (σ 5) 24 x1) fun v1 =>
  Option.bind (rd (σ 6) 24 x1) fun v2 =>
  Option.bind (fX3_earliest n σ v1 (σ 25 0) v2) fun v3 =>
  Option.bind (fX3_lowestFree n σ v1 v3 v2) fun v4 =>
  Option.bind (fX3_give n σ x1 v1 v4 v3 v2) fun s5 =>
  some (v3, s5)
def fX0_startJobs_b2 (n : Nat) (go3 : Int32 → St → Option St) (y1 : Int32) (s2 : St) : Option St :=
  if (s2 16 0) ≤ y1 then
  (some s2)
  else
  (Option.bind (rd (s2 8) 24 y1) fun v4 =>
  if v4 = 0 then
  (Option.bind (rd (s2 2) 30 y1) fun v5 =>
  if v5 = (s2 25 0) then
  (Option.bind (wr s2 8 24 y1 (1 : Int32)) fun s6 =>
  Option.bind (fX2_wasStarted n s6 y1) fun v7 =>
  if v7 = 0 then
  (Option.bind (wr s6 12 24 y1 (s6 25 0)) fun s14 =>
  Option.bind (rd (s14 5) 24 y1) fun v15 =>
  Option.bind (rd (s14 1) 30 y1) fun v16 =>
  Option.bind (fX4_blockIndex n v15 v16) fun v17 =>
  Option.bind (rd (s14 22) 64 v17) fun v18 =>
  Option.bind (wr s14 22 64 v17 (v18 + (1 : Int32))) fun s19 =>
  Option.bind (fX1_note n s19 (s19 25 0) (1 : Int32) y1) fun s20 =>
  go3 (y1 + (1 : Int32)) s20)
  else
  (Option.bind (rd (s6 5) 24 y1) fun v8 =>
  Option.bind (rd (s6 1) 30 y1) fun v9 =>
  Option.bind (fX4_blockIndex n v8 v9) fun v10 =>
  Option.bind (rd (s6 22) 64 v10) fun v11 =>
  Option.bind (wr s6 22 64 v10 (v11 + (1 : Int32))) fun s12 =>
  Option.bind (fX1_note n s12 (s12 25 0) (1 : Int32) y1) fun s13 =>
  go3 (y1 + (1 : Int32)) s13))
  else
  (go3 (y1 + (1 : Int32)) s2))
  else
  (go3 (y1 + (1 : Int32)) s2))
def fX0_startJobs (n : Nat) (σ : St) : Option St :=
  lz2 (fX0_startJobs_b2 n) n (0 : Int32) σ
def fX0_addJob (n : Nat) (σ : St) (x1 : Int32) (x2 : Int32) (x3 : Int32) (x4 : Int32) : Option (Int32 × St) :=
  b2 (fX2_append n σ x1 x2 x3 x4 (σ 25 0)) fun v1 s2 =>
  Option.bind (fX1_note n s2 (s2 25 0) (0 : Int32) v1) fun s3 =>
  b2 (fX0_plan n s3 v1) fun v4 s5 =>
  Option.bind (wr s5 11 24 v1 v4) fun s6 =>
  Option.bind (fX0_startJobs n s6) fun s7 =>
  Option.bind (rd (s7 11) 24 v1) fun v8 =>
  some (v8, s7)
def fX0_unitsUpToNow (n : Nat) (σ : St) (x1 : Int32) : Option Int32 :=
  Option.bind (rd (σ 8) 24 x1) fun v1 =>
  if v1 = (1 : Int32) then
  (Option.bind (rd (σ 2) 30 x1) fun v3 =>
  Option.bind (rd (σ 15) 24 x1) fun v4 =>
  some (v4 + ((σ 25 0) - v3)))
  else
  (Option.bind (rd (σ 15) 24 x1) fun v2 =>
  some (v2 + (0 : Int32)))
def fX0_endRun (n : Nat) (σ : St) (x1 : Int32) (x2 : Int32) : Option St :=
  Option.bind (fX0_unitsUpToNow n σ x1) fun v1 =>
  Option.bind (wr σ 15 24 x1 v1) fun s2 =>
  Option.bind (wr s2 8 24 x1 x2) fun s3 =>
  some s3
def fX0_usageOfUser_b4 (n : Nat) (σ : St) (x1 : Int32) (go3 : Int32 → Int32 → Option Int32) (y1 : Int32) (y2 : Int32) : Option Int32 :=
  if (σ 16 0) ≤ y1 then
  (some y2)
  else
  (Option.bind (rd (σ 4) 24 y1) fun v4 =>
  if v4 = x1 then
  (Option.bind (fX0_unitsUpToNow n σ y1) fun v5 =>
  Option.bind (rd (σ 5) 24 y1) fun v6 =>
  go3 (y1 + (1 : Int32)) (y2 + (v5 <<< (v6 &&& 31))))
  else
  (go3 (y1 + (1 : Int32)) y2))
def fX0_usageOfUser (n : Nat) (σ : St) (x1 : Int32) : Option Int32 :=
  lz2 (fX0_usageOfUser_b4 n σ x1) n (0 : Int32) (0 : Int32)
def fX0_goesBefore (n : Nat) (σ : St) (x1 : Int32) (x2 : Int32) : Option Int32 :=
  Option.bind (rd (σ 4) 24 x1) fun v1 =>
  Option.bind (rd (σ 24) 4 v1) fun v2 =>
  Option.bind (rd (σ 4) 24 x2) fun v3 =>
  Option.bind (rd (σ 24) 4 v3) fun v4 =>
  if v2 = v4 then
  (Option.bind (rd (σ 2) 30 x1) fun v5 =>
  Option.bind (rd (σ 2) 30 x2) fun v6 =>
  if v6 ≤ v5 then
  (some (0 : Int32))
  else
  (some (1 : Int32)))
  else
  (if v4 ≤ v2 then
  (some (0 : Int32))
  else
  (some (1 : Int32)))
def fX0_insertIntoQueue_k2_42 (x1 : Int32) (y1 : Int32) (s2 : St) : Option St :=
  Option.bind (wr s2 23 24 y1 x1) fun s3 =>
  some s3
def fX0_insertIntoQueue_b2 (n : Nat) (x1 : Int32) (go6 : Int32 → St → Option St) (y4 : Int32) (s5 : St) : Option St :=
  if y4 ≤ 0 then
  (fX0_insertIntoQueue_k2_42 x1 y4 s5)
  else
  (Option.bind (rd (s5 23) 24 (y4 - (1 : Int32))) fun v7 =>
  Option.bind (fX0_goesBefore n s5 x1 v7) fun v8 =>
  if v8 = 0 then
  (fX0_insertIntoQueue_k2_42 x1 y4 s5)
  else
  (Option.bind (rd (s5 23) 24 (y4 - (1 : Int32))) fun v9 =>
  Option.bind (wr s5 23 24 y4 v9) fun s10 =>
  go6 (y4 + (-1 : Int32)) s10))
def fX0_insertIntoQueue (n : Nat) (σ : St) (x1 : Int32) (x2 : Int32) : Option St :=
  lz2 (fX0_insertIntoQueue_b2 n x1) n x2 σ
def fX0_queueWaiting_b39 (n : Nat) (go6 : Int32 → Int32 → St → Option (Int32 × St)) (y3 : Int32) (y4 : Int32) (s5 : St) : Option (Int32 × St) :=
  if (s5 16 0) ≤ y3 then
  (some (y4, s5))
  else
  (Option.bind (rd (s5 8) 24 y3) fun v7 =>
  if v7 = 0 then
  (Option.bind (fX0_insertIntoQueue n s5 y3 y4) fun s8 =>
  go6 (y3 + (1 : Int32)) (y4 + (1 : Int32)) s8)
  else
  (go6 (y3 + (1 : Int32)) y4 s5))
def fX0_queueWaiting_k2_35 (n : Nat) (y1 : Int32) (s2 : St) : Option (Int32 × St) :=
  lz3 (fX0_queueWaiting_b39 n) n (0 : Int32) (0 : Int32) s2
def fX0_queueWaiting_b2 (n : Nat) (go11 : Int32 → St → Option (Int32 × St)) (y9 : Int32) (s10 : St) : Option (Int32 × St) :=
  if (4 : Int32) ≤ y9 then
  (fX0_queueWaiting_k2_35 n y9 s10)
  else
  (if (s10 27 0) = 0 then
  (Option.bind (wr s10 24 4 y9 (0 : Int32)) fun s12 =>
  go11 (y9 + (1 : Int32)) s12)
  else
  (Option.bind (fX0_usageOfUser n s10 y9) fun v13 =>
  Option.bind (wr s10 24 4 y9 v13) fun s14 =>
  go11 (y9 + (1 : Int32)) s14))
def fX0_queueWaiting (n : Nat) (σ : St) : Option (Int32 × St) :=
  lz2 (fX0_queueWaiting_b2 n) n (0 : Int32) σ
def fX0_replan_b7 (n : Nat) (v1 : Int32) (go5 : Int32 → St → Option St) (y3 : Int32) (s4 : St) : Option St :=
  if v1 ≤ y3 then
  (some s4)
  else
  (Option.bind (rd (s4 23) 24 y3) fun v6 =>
  Option.bind (rd (s4 2) 30 v6) fun v7 =>
  Option.bind (fX3_clearSlot n s4 v6) fun s8 =>
  b2 (fX0_plan n s8 v6) fun v9 s10 =>
  if v7 ≤ v9 then
  (go5 (y3 + (1 : Int32)) s10)
  else
  (Option.bind (fX1_note n s10 (s10 25 0) (5 : Int32) v6) fun s11 =>
  go5 (y3 + (1 : Int32)) s11))
def fX0_replan (n : Nat) (σ : St) : Option St :=
  b2 (fX0_queueWaiting n σ) fun v1 s2 =>
  lz2 (fX0_replan_b7 n v1) n (0 : Int32) s2
def fX0_dropJob (n : Nat) (σ : St) (x1 : Int32) : Option St :=
  Option.bind (fX0_endRun n σ x1 (3 : Int32)) fun s1 =>
  Option.bind (fX3_clearSlot n s1 x1) fun s2 =>
  Option.bind (fX1_note n s2 (s2 25 0) (3 : Int32) x1) fun s3 =>
  Option.bind (fX0_replan n s3) fun s4 =>
  Option.bind (fX0_startJobs n s4) fun s5 =>
  some s5
def fX0_interrupt (n : Nat) (σ : St) (x1 : Int32) (x2 : Int32) : Option (Int32 × St) :=
  Option.bind (rd (σ 2) 30 x1) fun v1 =>
  Option.bind (rd (σ 6) 24 x1) fun v2 =>
  Option.bind (wr σ 6 24 x1 (v2 + (x2 - ((σ 25 0) - v1)))) fun s3 =>
  Option.bind (rd (s3 7) 24 x1) fun v4 =>
  Option.bind (wr s3 7 24 x1 (v4 + (x2 - ((σ 25 0) - v1)))) fun s5 =>
  Option.bind (rd (s5 14) 24 x1) fun v6 =>
  Option.bind (wr s5 14 24 x1 (v6 + (1 : Int32))) fun s7 =>
  Option.bind (fX0_endRun n s7 x1 (4 : Int32)) fun s8 =>
  Option.bind (fX3_clearSlot n s8 x1) fun s9 =>
  Option.bind (fX1_note n s9 (s9 25 0) (4 : Int32) x1) fun s10 =>
  Option.bind (fX0_replan n s10) fun s11 =>
  Option.bind (wr s11 8 24 x1 (0 : Int32)) fun s12 =>
  b2 (fX0_plan n s12 x1) fun v13 s14 =>
  Option.bind (fX0_startJobs n s14) fun s15 =>
  some (v13, s15)
def fX0_addReservation (n : Nat) (σ : St) (x1 : Int32) (x2 : Int32) (x3 : Int32) : Option (Int32 × St) :=
  Option.bind (fX3_lowestFree n σ x1 x2 x3) fun v1 =>
  Option.bind (fX3_give n σ ((24 : Int32) + (σ 26 0)) x1 v1 x2 x3) fun s2 =>
  Option.bind (wf s2 26 ((s2 26 0) + (1 : Int32))) fun s3 =>
  some ((σ 26 0), s3)
def fX0_dropReservation (n : Nat) (σ : St) (x1 : Int32) : Option St :=
  Option.bind (fX3_clearSlot n σ ((24 : Int32) + x1)) fun s1 =>
  Option.bind (fX0_replan n s1) fun s2 =>
  Option.bind (fX0_startJobs n s2) fun s3 =>
  some s3
def fX0_finishJobs_b4 (n : Nat) (go4 : Int32 → Int32 → St → Option (Int32 × St)) (y1 : Int32) (y2 : Int32) (s3 : St) : Option (Int32 × St) :=
  if (s3 16 0) ≤ y1 then
  (some (y2, s3))
  else
  (Option.bind (rd (s3 8) 24 y1) fun v5 =>
  if v5 = (1 : Int32) then
  (Option.bind (rd (s3 2) 30 y1) fun v6 =>
  Option.bind (rd (s3 7) 24 y1) fun v7 =>
  if ((s3 25 0) - v6) = v7 then
  (Option.bind (fX0_endRun n s3 y1 (2 : Int32)) fun s8 =>
  Option.bind (fX3_clearSlot n s8 y1) fun s9 =>
  Option.bind (wr s9 13 24 y1 (s9 25 0)) fun s10 =>
  Option.bind (fX1_note n s10 (s10 25 0) (2 : Int32) y1) fun s11 =>
  go4 (y1 + (1 : Int32)) (y2 + (1 : Int32)) s11)
  else
  (go4 (y1 + (1 : Int32)) y2 s3))
  else
  (go4 (y1 + (1 : Int32)) y2 s3))
def fX0_finishJobs (n : Nat) (σ : St) : Option (Int32 × St) :=
  lz3 (fX0_finishJobs_b4 n) n (0 : Int32) (0 : Int32) σ
def fX0_tick (n : Nat) (σ : St) : Option (Int32 × St) :=
  Option.bind (wf σ 25 ((σ 25 0) + (1 : Int32))) fun s1 =>
  b2 (fX0_finishJobs n s1) fun v2 s3 =>
  if v2 ≤ 0 then
  (Option.bind (fX0_startJobs n s3) fun s4 =>
  some (v2, s4))
  else
  (Option.bind (fX0_replan n s3) fun s5 =>
  Option.bind (fX0_startJobs n s5) fun s6 =>
  some (v2, s6))
def fX0_copyFrom (n : Nat) (σ2 : St) (σ : St) : Option St :=
  Option.bind (fX3_copyFrom n σ2 σ) fun s1 =>
  Option.bind (fX2_copyFrom n σ2 s1) fun s2 =>
  Option.bind (fX1_copyFrom n σ2 s2) fun s3 =>
  Option.bind (ocp s3 22 64 (σ2 22) 64 (0 : Int32) (0 : Int32) (64 : Int32)) fun s4 =>
  Option.bind (wf s4 25 (σ2 25 0)) fun s5 =>
  Option.bind (wf s5 26 (σ2 26 0)) fun s6 =>
  Option.bind (wz s6 27 (σ2 27 0)) fun s7 =>
  some s7
def fX5_thrown (n : Nat) (σ : St) : Option Int32 :=
  some (σ 6 0)
def fX5_in (n : Nat) (x1 : Int32) (x2 : Int32) (x3 : Int32) : Option Int32 :=
  if x1 < x2 then
  (some (0 : Int32))
  else
  (if x3 < x1 then
  (some (0 : Int32))
  else
  (some (1 : Int32)))
def fX5_raises (n : Nat) (σ : St) (x1 : Int32) : Option (Int32 × St) :=
  Option.bind (wf σ 6 x1) fun s1 =>
  some ((0 : Int32), s1)
def fX5_of (n : Nat) (σ : St) (x1 : Int32) (x2 : Int32) : Option Int32 :=
  Option.bind (rd (σ 0) 609 (((5 : Int32) + ((14 : Int32) * x1)) + x2)) fun v1 =>
  some v1
def fX5_put (n : Nat) (σ : St) (x1 : Int32) (x2 : Int32) (x3 : Int32) : Option St :=
  Option.bind (wr σ 0 609 (((5 : Int32) + ((14 : Int32) * x1)) + x2) x3) fun s1 =>
  some s1
def fX5_reserved (n : Nat) (σ : St) (x1 : Int32) (x2 : Int32) : Option Int32 :=
  Option.bind (rd (σ 0) 609 (((341 : Int32) + ((4 : Int32) * x1)) + x2)) fun v1 =>
  some v1
def fX5_isJob (n : Nat) (σ : St) (x1 : Int32) : Option Int32 :=
  Option.bind (rd (σ 0) 609 (1 : Int32)) fun v1 =>
  Option.bind (fX5_in n x1 (0 : Int32) (v1 - (1 : Int32))) fun v2 =>
  Option.bind (gz v2) fun v3 =>
  some v3
def fX5_isReservation (n : Nat) (σ : St) (x1 : Int32) : Option Int32 :=
  Option.bind (rd (σ 0) 609 (2 : Int32)) fun v1 =>
  Option.bind (fX5_in n x1 (0 : Int32) (v1 - (1 : Int32))) fun v2 =>
  Option.bind (gz v2) fun v3 =>
  some v3
def fX5_isAllocated (n : Nat) (σ : St) (x1 : Int32) : Option Int32 :=
  Option.bind (fX5_of n σ x1 (4 : Int32)) fun v1 =>
  if (2 : Int32) ≤ v1 then
  (some (0 : Int32))
  else
  (some (1 : Int32))
def fX5_records_b13 (x1 : Int32) (x2 : Int32) (go10 : Int32 → St → Option St) (y8 : Int32) (s9 : St) : Option St :=
  if (177 : Int32) ≤ y8 then
  (Option.bind (rd (s9 0) 609 (4 : Int32)) fun v11 =>
  Option.bind (wr s9 0 609 (4 : Int32) (v11 - (1 : Int32))) fun s12 =>
  Option.bind (rd (s12 0) 609 (4 : Int32)) fun v13 =>
  Option.bind (wr s12 0 609 (4 : Int32) (v13 + (1 : Int32))) fun s14 =>
  Option.bind (rd (s14 0) 609 (0 : Int32)) fun v15 =>
  Option.bind (wr s14 0 609 ((365 : Int32) + ((3 : Int32) * v13)) v15) fun s16 =>
  Option.bind (wr s16 0 609 (((365 : Int32) + ((3 : Int32) * v13)) + (1 : Int32)) x1) fun s17 =>
  Option.bind (wr s17 0 609 (((365 : Int32) + ((3 : Int32) * v13)) + (2 : Int32)) x2) fun s18 =>
  some s18)
  else
  (Option.bind (rd (s9 0) 609 (((365 : Int32) + y8) + (3 : Int32))) fun v19 =>
  Option.bind (wr s9 0 609 ((365 : Int32) + y8) v19) fun s20 =>
  go10 (y8 + (1 : Int32)) s20)
def fX5_records (n : Nat) (σ : St) (x1 : Int32) (x2 : Int32) : Option St :=
  Option.bind (rd (σ 0) 609 (4 : Int32)) fun v1 =>
  if v1 = (60 : Int32) then
  (lz2 (fX5_records_b13 x1 x2) n (0 : Int32) σ)
  else
  (Option.bind (rd (σ 0) 609 (4 : Int32)) fun v2 =>
  Option.bind (wr σ 0 609 (4 : Int32) (v2 + (1 : Int32))) fun s3 =>
  Option.bind (rd (s3 0) 609 (0 : Int32)) fun v4 =>
  Option.bind (wr s3 0 609 ((365 : Int32) + ((3 : Int32) * v2)) v4) fun s5 =>
  Option.bind (wr s5 0 609 (((365 : Int32) + ((3 : Int32) * v2)) + (1 : Int32)) x1) fun s6 =>
  Option.bind (wr s6 0 609 (((365 : Int32) + ((3 : Int32) * v2)) + (2 : Int32)) x2) fun s7 =>
  some s7)
def fX5_meets (n : Nat) (x1 : Int32) (x2 : Int32) (x3 : Int32) (x4 : Int32) (x5 : Int32) (x6 : Int32) (x7 : Int32) (x8 : Int32) : Option Int32 :=
  if (x6 + ((1 : Int32) <<< (x5 &&& 31))) ≤ x2 then
  (some (0 : Int32))
  else
  (if (x2 + ((1 : Int32) <<< (x1 &&& 31))) ≤ x6 then
  (some (0 : Int32))
  else
  (if x8 ≤ x3 then
  (some (0 : Int32))
  else
  (if x4 ≤ x7 then
  (some (0 : Int32))
  else
  (some (1 : Int32)))))
def fX5_isFree_b83 (n : Nat) (σ : St) (x1 : Int32) (x2 : Int32) (x3 : Int32) (x4 : Int32) (go3 : Int32 → Option Int32) (y2 : Int32) : Option Int32 :=
  Option.bind (rd (σ 0) 609 (2 : Int32)) fun v4 =>
  if v4 ≤ y2 then
  (some (1 : Int32))
  else
  (Option.bind (fX5_reserved n σ y2 (3 : Int32)) fun v5 =>
  if v5 ≤ 0 then
  (go3 (y2 + (1 : Int32)))
  else
  (Option.bind (fX5_reserved n σ y2 (0 : Int32)) fun v6 =>
  Option.bind (fX5_reserved n σ y2 (1 : Int32)) fun v7 =>
  Option.bind (fX5_reserved n σ y2 (2 : Int32)) fun v8 =>
  Option.bind (fX5_reserved n σ y2 (2 : Int32)) fun v9 =>
  Option.bind (fX5_reserved n σ y2 (3 : Int32)) fun v10 =>
  Option.bind (fX5_meets n x1 x2 x3 x4 v6 v7 v8 (v9 + v10)) fun v11 =>
  if v11 = 0 then
  (go3 (y2 + (1 : Int32)))
  else
  (some (0 : Int32))))
def fX5_isFree_k3_80 (n : Nat) (σ : St) (x1 : Int32) (x2 : Int32) (x3 : Int32) (x4 : Int32) (y1 : Int32) : Option Int32 :=
  lz1 (fX5_isFree_b83 n σ x1 x2 x3 x4) n (0 : Int32)
def fX5_isFree_b3 (n : Nat) (σ : St) (x1 : Int32) (x2 : Int32) (x3 : Int32) (x4 : Int32) (go13 : Int32 → Option Int32) (y12 : Int32) : Option Int32 :=
  Option.bind (rd (σ 0) 609 (1 : Int32)) fun v14 =>
  if v14 ≤ y12 then
  (fX5_isFree_k3_80 n σ x1 x2 x3 x4 y12)
  else
  (Option.bind (fX5_isAllocated n σ y12) fun v15 =>
  if v15 = 0 then
  (go13 (y12 + (1 : Int32)))
  else
  (Option.bind (fX5_of n σ y12 (1 : Int32)) fun v16 =>
  Option.bind (fX5_of n σ y12 (5 : Int32)) fun v17 =>
  Option.bind (fX5_of n σ y12 (6 : Int32)) fun v18 =>
  Option.bind (fX5_of n σ y12 (6 : Int32)) fun v19 =>
  Option.bind (fX5_of n σ y12 (2 : Int32)) fun v20 =>
  Option.bind (fX5_meets n x1 x2 x3 x4 v16 v17 v18 (v19 + v20)) fun v21 =>
  if v21 = 0 then
  (go13 (y12 + (1 : Int32)))
  else
  (some (0 : Int32))))
def fX5_isFree (n : Nat) (σ : St) (x1 : Int32) (x2 : Int32) (x3 : Int32) (x4 : Int32) : Option Int32 :=
  lz1 (fX5_isFree_b3 n σ x1 x2 x3 x4) n (0 : Int32)
def fX5_lowest_b3 (n : Nat) (σ : St) (x1 : Int32) (x2 : Int32) (x3 : Int32) (go2 : Int32 → Option Int32) (y1 : Int32) : Option Int32 :=
  if (32 : Int32) ≤ y1 then
  (some (-1 : Int32))
  else
  (Option.bind (fX5_isFree n σ x1 y1 x2 (x2 + x3)) fun v3 =>
  if v3 = 0 then
  (go2 (y1 + ((1 : Int32) <<< (x1 &&& 31))))
  else
  (some y1))
def fX5_lowest (n : Nat) (σ : St) (x1 : Int32) (x2 : Int32) (x3 : Int32) : Option Int32 :=
  lz1 (fX5_lowest_b3 n σ x1 x2 x3) n (0 : Int32)
def fX5_earliest_b6 (n : Nat) (σ : St) (x1 : Int32) (x2 : Int32) (go3 : Int32 → Int32 → Option Int32) (y1 : Int32) (y2 : Int32) : Option Int32 :=
  Option.bind (rd (σ 0) 609 (1 : Int32)) fun v4 =>
  Option.bind (rd (σ 0) 609 (2 : Int32)) fun v5 =>
  if (v4 + v5) ≤ y1 then
  (some y2)
  else
  (Option.bind (rd (σ 0) 609 (0 : Int32)) fun v6 =>
  Option.bind (rd (σ 0) 609 (1 : Int32)) fun v7 =>
  if y1 < v7 then
  (if y1 < 0 then
  (Option.bind (rd (σ 0) 609 (0 : Int32)) fun v8 =>
  if v6 < v8 then
  (go3 (y1 + (1 : Int32)) y2)
  else
  (if y2 ≤ v6 then
  (go3 (y1 + (1 : Int32)) y2)
  else
  (Option.bind (fX5_lowest n σ x1 v6 x2) fun v9 =>
  if v9 < 0 then
  (go3 (y1 + (1 : Int32)) y2)
  else
  (go3 (y1 + (1 : Int32)) v6))))
  else
  (Option.bind (fX5_isAllocated n σ y1) fun v10 =>
  if v10 = 0 then
  (go3 (y1 + (1 : Int32)) y2)
  else
  (Option.bind (fX5_of n σ y1 (6 : Int32)) fun v11 =>
  Option.bind (fX5_of n σ y1 (2 : Int32)) fun v12 =>
  Option.bind (rd (σ 0) 609 (0 : Int32)) fun v13 =>
  if (v11 + v12) < v13 then
  (go3 (y1 + (1 : Int32)) y2)
  else
  (if y2 ≤ (v11 + v12) then
  (go3 (y1 + (1 : Int32)) y2)
  else
  (Option.bind (fX5_lowest n σ x1 (v11 + v12) x2) fun v14 =>
  if v14 < 0 then
  (go3 (y1 + (1 : Int32)) y2)
  else
  (go3 (y1 + (1 : Int32)) (v11 + v12)))))))
  else
  (Option.bind (rd (σ 0) 609 (1 : Int32)) fun v15 =>
  Option.bind (fX5_reserved n σ (y1 - v15) (3 : Int32)) fun v16 =>
  if v16 = 0 then
  (go3 (y1 + (1 : Int32)) y2)
  else
  (Option.bind (fX5_reserved n σ (y1 - v15) (2 : Int32)) fun v17 =>
  Option.bind (fX5_reserved n σ (y1 - v15) (3 : Int32)) fun v18 =>
  Option.bind (rd (σ 0) 609 (0 : Int32)) fun v19 =>
  if (v17 + v18) < v19 then
  (go3 (y1 + (1 : Int32)) y2)
  else
  (if y2 ≤ (v17 + v18) then
  (go3 (y1 + (1 : Int32)) y2)
  else
  (Option.bind (fX5_lowest n σ x1 (v17 + v18) x2) fun v20 =>
  if v20 < 0 then
  (go3 (y1 + (1 : Int32)) y2)
  else
  (go3 (y1 + (1 : Int32)) (v17 + v18)))))))
def fX5_earliest (n : Nat) (σ : St) (x1 : Int32) (x2 : Int32) : Option Int32 :=
  lz2 (fX5_earliest_b6 n σ x1 x2) n (-1 : Int32) (2147483647 : Int32)
def fX5_plans (n : Nat) (σ : St) (x1 : Int32) : Option St :=
  Option.bind (fX5_of n σ x1 (1 : Int32)) fun v1 =>
  Option.bind (fX5_of n σ x1 (2 : Int32)) fun v2 =>
  Option.bind (fX5_earliest n σ v1 v2) fun v3 =>
  Option.bind (fX5_of n σ x1 (1 : Int32)) fun v4 =>
  Option.bind (fX5_of n σ x1 (2 : Int32)) fun v5 =>
  Option.bind (fX5_lowest n σ v4 v3 v5) fun v6 =>
  Option.bind (fX5_put n σ x1 (5 : Int32) v6) fun s7 =>
  Option.bind (fX5_put n s7 x1 (6 : Int32) v3) fun s8 =>
  Option.bind (fX5_put n s8 x1 (4 : Int32) (0 : Int32)) fun s9 =>
  some s9
def fX5_usageOf (n : Nat) (σ : St) (x1 : Int32) : Option Int32 :=
  Option.bind (fX5_of n σ x1 (13 : Int32)) fun v1 =>
  Option.bind (fX5_of n σ x1 (4 : Int32)) fun v2 =>
  if v2 = (1 : Int32) then
  (Option.bind (rd (σ 0) 609 (0 : Int32)) fun v4 =>
  Option.bind (fX5_of n σ x1 (6 : Int32)) fun v5 =>
  Option.bind (fX5_of n σ x1 (1 : Int32)) fun v6 =>
  some ((v1 + (v4 - v5)) <<< (v6 &&& 31)))
  else
  (Option.bind (fX5_of n σ x1 (1 : Int32)) fun v3 =>
  some ((v1 + (0 : Int32)) <<< (v3 &&& 31)))
def fX5_used_b4 (n : Nat) (σ : St) (x1 : Int32) (go3 : Int32 → Int32 → Option Int32) (y1 : Int32) (y2 : Int32) : Option Int32 :=
  Option.bind (rd (σ 0) 609 (1 : Int32)) fun v4 =>
  if v4 ≤ y1 then
  (some y2)
  else
  (Option.bind (fX5_of n σ y1 (0 : Int32)) fun v5 =>
  if v5 = x1 then
  (Option.bind (fX5_usageOf n σ y1) fun v6 =>
  go3 (y1 + (1 : Int32)) (y2 + v6))
  else
  (go3 (y1 + (1 : Int32)) y2))
def fX5_used (n : Nat) (σ : St) (x1 : Int32) : Option Int32 :=
  lz2 (fX5_used_b4 n σ x1) n (0 : Int32) (0 : Int32)
def fX5_goesAhead (n : Nat) (σ : St) (x1 : Int32) (x2 : Int32) : Option Int32 :=
  Option.bind (rd (σ 0) 609 (3 : Int32)) fun v1 =>
  if v1 = (1 : Int32) then
  (Option.bind (fX5_of n σ x1 (0 : Int32)) fun v6 =>
  Option.bind (rd (σ 3) 4 v6) fun v7 =>
  Option.bind (fX5_of n σ x2 (0 : Int32)) fun v8 =>
  Option.bind (rd (σ 3) 4 v8) fun v9 =>
  if v7 = v9 then
  (Option.bind (fX5_of n σ x1 (6 : Int32)) fun v10 =>
  Option.bind (fX5_of n σ x2 (6 : Int32)) fun v11 =>
  if v10 = v11 then
  (if x2 ≤ x1 then
  (some (0 : Int32))
  else
  (some (1 : Int32)))
  else
  (Option.bind (fX5_of n σ x1 (6 : Int32)) fun v12 =>
  Option.bind (fX5_of n σ x2 (6 : Int32)) fun v13 =>
  if v13 ≤ v12 then
  (some (0 : Int32))
  else
  (some (1 : Int32))))
  else
  (Option.bind (fX5_of n σ x1 (0 : Int32)) fun v14 =>
  Option.bind (rd (σ 3) 4 v14) fun v15 =>
  Option.bind (fX5_of n σ x2 (0 : Int32)) fun v16 =>
  Option.bind (rd (σ 3) 4 v16) fun v17 =>
  if v17 ≤ v15 then
  (some (0 : Int32))
  else
  (some (1 : Int32))))
  else
  (Option.bind (fX5_of n σ x1 (6 : Int32)) fun v2 =>
  Option.bind (fX5_of n σ x2 (6 : Int32)) fun v3 =>
  if v2 = v3 then
  (if x2 ≤ x1 then
  (some (0 : Int32))
  else
  (some (1 : Int32)))
  else
  (Option.bind (fX5_of n σ x1 (6 : Int32)) fun v4 =>
  Option.bind (fX5_of n σ x2 (6 : Int32)) fun v5 =>
  if v5 ≤ v4 then
  (some (0 : Int32))
  else
  (some (1 : Int32))))
def fX5_replans_b110 (n : Nat) (y4 : Int32) (go8 : Int32 → St → Option St) (y6 : Int32) (s7 : St) : Option St :=
  if y4 ≤ y6 then
  (some s7)
  else
  (Option.bind (rd (s7 2) 24 y6) fun v9 =>
  Option.bind (fX5_of n s7 v9 (6 : Int32)) fun v10 =>
  Option.bind (fX5_put n s7 v9 (4 : Int32) (4 : Int32)) fun s11 =>
  Option.bind (fX5_plans n s11 v9) fun s12 =>
  Option.bind (fX5_of n s12 v9 (6 : Int32)) fun v13 =>
  if v10 ≤ v13 then
  (go8 (y6 + (1 : Int32)) s12)
  else
  (Option.bind (fX5_records n s12 (5 : Int32) v9) fun s14 =>
  go8 (y6 + (1 : Int32)) s14))
def fX5_replans_k28_108 (n : Nat) (y3 : Int32) (y4 : Int32) (s5 : St) : Option St :=
  lz2 (fX5_replans_b110 n y4) n (0 : Int32) s5
def fX5_replans_k55_95 (y15 : Int32) (y16 : Int32) (go18 : Int32 → Int32 → St → Option St) (y21 : Int32) (s22 : St) : Option St :=
  Option.bind (wr s22 2 24 y21 y15) fun s23 =>
  go18 (y15 + (1 : Int32)) (y16 + (1 : Int32)) s23
def fX5_replans_b55 (n : Nat) (y15 : Int32) (y16 : Int32) (go18 : Int32 → Int32 → St → Option St) (go26 : Int32 → St → Option St) (y24 : Int32) (s25 : St) : Option St :=
  if y24 ≤ 0 then
  (fX5_replans_k55_95 y15 y16 go18 y24 s25)
  else
  (Option.bind (rd (s25 2) 24 (y24 - (1 : Int32))) fun v27 =>
  Option.bind (fX5_goesAhead n s25 y15 v27) fun v28 =>
  if v28 = 0 then
  (fX5_replans_k55_95 y15 y16 go18 y24 s25)
  else
  (Option.bind (rd (s25 2) 24 (y24 - (1 : Int32))) fun v29 =>
  Option.bind (wr s25 2 24 y24 v29) fun s30 =>
  go26 (y24 + (-1 : Int32)) s30))
def fX5_replans_b28 (n : Nat) (go18 : Int32 → Int32 → St → Option St) (y15 : Int32) (y16 : Int32) (s17 : St) : Option St :=
  Option.bind (rd (s17 0) 609 (1 : Int32)) fun v19 =>
  if v19 ≤ y15 then
  (fX5_replans_k28_108 n y15 y16 s17)
  else
  (Option.bind (fX5_of n s17 y15 (4 : Int32)) fun v20 =>
  if v20 = 0 then
  (lz2 (fX5_replans_b55 n y15 y16 go18) n y16 s17)
  else
  (go18 (y15 + (1 : Int32)) y16 s17))
def fX5_replans_k2_24 (n : Nat) (y1 : Int32) (s2 : St) : Option St :=
  lz3 (fX5_replans_b28 n) n (0 : Int32) (0 : Int32) s2
def fX5_replans_b2 (n : Nat) (go33 : Int32 → St → Option St) (y31 : Int32) (s32 : St) : Option St :=
  if (4 : Int32) ≤ y31 then
  (fX5_replans_k2_24 n y31 s32)
  else
  (Option.bind (fX5_used n s32 y31) fun v34 =>
  Option.bind (wr s32 3 4 y31 v34) fun s35 =>
  go33 (y31 + (1 : Int32)) s35)
def fX5_replans (n : Nat) (σ : St) : Option St :=
  lz2 (fX5_replans_b2 n) n (0 : Int32) σ
def fX5_block (n : Nat) (x1 : Int32) (x2 : Int32) : Option Int32 :=
  some (((32 : Int32) >>> (x1 &&& 31)) + (x2 >>> (x1 &&& 31)))
def fX5_starts_b2 (n : Nat) (go3 : Int32 → St → Option St) (y1 : Int32) (s2 : St) : Option St :=
  Option.bind (rd (s2 0) 609 (1 : Int32)) fun v4 =>
  if v4 ≤ y1 then
  (some s2)
  else
  (Option.bind (fX5_of n s2 y1 (4 : Int32)) fun v5 =>
  if v5 = 0 then
  (Option.bind (fX5_of n s2 y1 (6 : Int32)) fun v6 =>
  Option.bind (rd (s2 0) 609 (0 : Int32)) fun v7 =>
  if v6 = v7 then
  (Option.bind (fX5_put n s2 y1 (4 : Int32) (1 : Int32)) fun s8 =>
  Option.bind (fX5_of n s8 y1 (12 : Int32)) fun v9 =>
  if 0 ≤ v9 then
  (Option.bind (fX5_of n s8 y1 (1 : Int32)) fun v10 =>
  Option.bind (fX5_of n s8 y1 (5 : Int32)) fun v11 =>
  Option.bind (fX5_block n v10 v11) fun v12 =>
  Option.bind (rd (s8 0) 609 ((545 : Int32) + v12)) fun v13 =>
  Option.bind (wr s8 0 609 ((545 : Int32) + v12) (v13 + (1 : Int32))) fun s14 =>
  Option.bind (fX5_records n s14 (1 : Int32) y1) fun s15 =>
  go3 (y1 + (1 : Int32)) s15)
  else
  (Option.bind (rd (s8 0) 609 (0 : Int32)) fun v16 =>
  Option.bind (fX5_put n s8 y1 (12 : Int32) v16) fun s17 =>
  Option.bind (fX5_of n s17 y1 (1 : Int32)) fun v18 =>
  Option.bind (fX5_of n s17 y1 (5 : Int32)) fun v19 =>
  Option.bind (fX5_block n v18 v19) fun v20 =>
  Option.bind (rd (s17 0) 609 ((545 : Int32) + v20)) fun v21 =>
  Option.bind (wr s17 0 609 ((545 : Int32) + v20) (v21 + (1 : Int32))) fun s22 =>
  Option.bind (fX5_records n s22 (1 : Int32) y1) fun s23 =>
  go3 (y1 + (1 : Int32)) s23))
  else
  (go3 (y1 + (1 : Int32)) s2))
  else
  (go3 (y1 + (1 : Int32)) s2))
def fX5_starts (n : Nat) (σ : St) : Option St :=
  lz2 (fX5_starts_b2 n) n (0 : Int32) σ
def fX5_submit (n : Nat) (σ : St) (x1 : Int32) (x2 : Int32) (x3 : Int32) (x4 : Int32) : Option (Int32 × St) :=
  Option.bind (wf σ 6 (0 : Int32)) fun s1 =>
  Option.bind (fX5_in n x1 (0 : Int32) (3 : Int32)) fun v2 =>
  if v2 = 0 then
  (b2 (fX5_raises n s1 (1 : Int32)) fun v3 s4 =>
  some (v3, s4))
  else
  (Option.bind (fX5_in n x2 (0 : Int32) (5 : Int32)) fun v5 =>
  if v5 = 0 then
  (b2 (fX5_raises n s1 (1 : Int32)) fun v6 s7 =>
  some (v6, s7))
  else
  (Option.bind (fX5_in n x3 (1 : Int32) (40 : Int32)) fun v8 =>
  if v8 = 0 then
  (b2 (fX5_raises n s1 (1 : Int32)) fun v9 s10 =>
  some (v9, s10))
  else
  (Option.bind (fX5_in n x4 (1 : Int32) x3) fun v11 =>
  if v11 = 0 then
  (b2 (fX5_raises n s1 (1 : Int32)) fun v35 s36 =>
  some (v35, s36))
  else
  (Option.bind (rd (s1 0) 609 (1 : Int32)) fun v12 =>
  if v12 = (24 : Int32) then
  (b2 (fX5_raises n s1 (2 : Int32)) fun v33 s34 =>
  some (v33, s34))
  else
  (Option.bind (rd (s1 0) 609 (1 : Int32)) fun v13 =>
  Option.bind (fX5_put n s1 v13 (0 : Int32) x1) fun s14 =>
  Option.bind (fX5_put n s14 v13 (1 : Int32) x2) fun s15 =>
  Option.bind (fX5_put n s15 v13 (2 : Int32) x3) fun s16 =>
  Option.bind (fX5_put n s16 v13 (3 : Int32) x4) fun s17 =>
  Option.bind (fX5_put n s17 v13 (9 : Int32) x4) fun s18 =>
  Option.bind (fX5_put n s18 v13 (4 : Int32) (4 : Int32)) fun s19 =>
  Option.bind (rd (s19 0) 609 (0 : Int32)) fun v20 =>
  Option.bind (fX5_put n s19 v13 (8 : Int32) v20) fun s21 =>
  Option.bind (fX5_put n s21 v13 (10 : Int32) (-1 : Int32)) fun s22 =>
  Option.bind (fX5_put n s22 v13 (11 : Int32) (0 : Int32)) fun s23 =>
  Option.bind (fX5_put n s23 v13 (12 : Int32) (-1 : Int32)) fun s24 =>
  Option.bind (fX5_put n s24 v13 (13 : Int32) (0 : Int32)) fun s25 =>
  Option.bind (rd (s25 0) 609 (1 : Int32)) fun v26 =>
  Option.bind (wr s25 0 609 (1 : Int32) (v26 + (1 : Int32))) fun s27 =>
  Option.bind (fX5_records n s27 (0 : Int32) v13) fun s28 =>
  Option.bind (fX5_plans n s28 v13) fun s29 =>
  Option.bind (fX5_of n s29 v13 (6 : Int32)) fun v30 =>
  Option.bind (fX5_put n s29 v13 (7 : Int32) v30) fun s31 =>
  Option.bind (fX5_starts n s31) fun s32 =>
  some (v30, s32))))))
def fX5_ticks_b14 (n : Nat) (go6 : Int32 → Int32 → St → Option (Int32 × St)) (y3 : Int32) (y4 : Int32) (s5 : St) : Option (Int32 × St) :=
  Option.bind (rd (s5 0) 609 (1 : Int32)) fun v7 =>
  if v7 ≤ y3 then
  (if y4 ≤ 0 then
  (Option.bind (fX5_starts n s5) fun s8 =>
  some (y4, s8))
  else
  (Option.bind (fX5_replans n s5) fun s9 =>
  Option.bind (fX5_starts n s9) fun s10 =>
  some (y4, s10)))
  else
  (Option.bind (fX5_of n s5 y3 (4 : Int32)) fun v11 =>
  if v11 = (1 : Int32) then
  (Option.bind (rd (s5 0) 609 (0 : Int32)) fun v12 =>
  Option.bind (fX5_of n s5 y3 (6 : Int32)) fun v13 =>
  Option.bind (fX5_of n s5 y3 (3 : Int32)) fun v14 =>
  if (v12 - v13) = v14 then
  (Option.bind (fX5_of n s5 y3 (13 : Int32)) fun v15 =>
  Option.bind (fX5_of n s5 y3 (3 : Int32)) fun v16 =>
  Option.bind (fX5_put n s5 y3 (13 : Int32) (v15 + v16)) fun s17 =>
  Option.bind (fX5_put n s17 y3 (4 : Int32) (2 : Int32)) fun s18 =>
  Option.bind (rd (s18 0) 609 (0 : Int32)) fun v19 =>
  Option.bind (fX5_put n s18 y3 (10 : Int32) v19) fun s20 =>
  Option.bind (fX5_records n s20 (2 : Int32) y3) fun s21 =>
  go6 (y3 + (1 : Int32)) (y4 + (1 : Int32)) s21)
  else
  (go6 (y3 + (1 : Int32)) y4 s5))
  else
  (go6 (y3 + (1 : Int32)) y4 s5))
def fX5_ticks (n : Nat) (σ : St) : Option (Int32 × St) :=
  Option.bind (rd (σ 0) 609 (0 : Int32)) fun v1 =>
  Option.bind (wr σ 0 609 (0 : Int32) (v1 + (1 : Int32))) fun s2 =>
  lz3 (fX5_ticks_b14 n) n (0 : Int32) (0 : Int32) s2
def fX5_advance_b45 (n : Nat) (x1 : Int32) (go7 : Int32 → Int32 → St → Option (Int32 × St)) (y4 : Int32) (y5 : Int32) (s6 : St) : Option (Int32 × St) :=
  if x1 ≤ y4 then
  (some (y5, s6))
  else
  (b2 (fX5_ticks n s6) fun v8 s9 =>
  go7 (y4 + (1 : Int32)) (y5 + v8) s9)
def fX5_advance (n : Nat) (σ : St) (x1 : Int32) : Option (Int32 × St) :=
  Option.bind (wf σ 6 (0 : Int32)) fun s1 =>
  Option.bind (fX5_in n x1 (1 : Int32) (50 : Int32)) fun v2 =>
  if v2 = 0 then
  (b2 (fX5_raises n s1 (1 : Int32)) fun v12 s13 =>
  some (v12, s13))
  else
  (Option.bind (rd (s1 0) 609 (0 : Int32)) fun v3 =>
  if (v3 + x1) ≤ (1000 : Int32) then
  (lz3 (fX5_advance_b45 n x1) n (0 : Int32) (0 : Int32) s1)
  else
  (b2 (fX5_raises n s1 (2 : Int32)) fun v10 s11 =>
  some (v10, s11)))
def fX5_cancel (n : Nat) (σ : St) (x1 : Int32) : Option (Int32 × St) :=
  Option.bind (wf σ 6 (0 : Int32)) fun s1 =>
  Option.bind (fX5_isJob n s1 x1) fun v2 =>
  if v2 = 0 then
  (b2 (fX5_raises n s1 (1 : Int32)) fun v18 s19 =>
  some (v18, s19))
  else
  (Option.bind (fX5_of n s1 x1 (4 : Int32)) fun v3 =>
  if v3 ≤ (1 : Int32) then
  (if v3 = (1 : Int32) then
  (Option.bind (fX5_of n s1 x1 (13 : Int32)) fun v8 =>
  Option.bind (rd (s1 0) 609 (0 : Int32)) fun v9 =>
  Option.bind (fX5_of n s1 x1 (6 : Int32)) fun v10 =>
  Option.bind (fX5_put n s1 x1 (13 : Int32) ((v8 + v9) - v10)) fun s11 =>
  Option.bind (fX5_put n s11 x1 (4 : Int32) (3 : Int32)) fun s12 =>
  Option.bind (fX5_records n s12 (3 : Int32) x1) fun s13 =>
  Option.bind (fX5_replans n s13) fun s14 =>
  Option.bind (fX5_starts n s14) fun s15 =>
  some (v3, s15))
  else
  (Option.bind (fX5_put n s1 x1 (4 : Int32) (3 : Int32)) fun s4 =>
  Option.bind (fX5_records n s4 (3 : Int32) x1) fun s5 =>
  Option.bind (fX5_replans n s5) fun s6 =>
  Option.bind (fX5_starts n s6) fun s7 =>
  some (v3, s7)))
  else
  (b2 (fX5_raises n s1 (2 : Int32)) fun v16 s17 =>
  some (v16, s17)))
def fX5_preempt (n : Nat) (σ : St) (x1 : Int32) (x2 : Int32) : Option (Int32 × St) :=
  Option.bind (wf σ 6 (0 : Int32)) fun s1 =>
  Option.bind (fX5_isJob n s1 x1) fun v2 =>
  if v2 = 0 then
  (b2 (fX5_raises n s1 (1 : Int32)) fun v25 s26 =>
  some (v25, s26))
  else
  (Option.bind (fX5_in n x2 (0 : Int32) (9 : Int32)) fun v3 =>
  if v3 = 0 then
  (b2 (fX5_raises n s1 (2 : Int32)) fun v23 s24 =>
  some (v23, s24))
  else
  (Option.bind (fX5_of n s1 x1 (4 : Int32)) fun v4 =>
  if v4 = (1 : Int32) then
  (Option.bind (rd (s1 0) 609 (0 : Int32)) fun v5 =>
  Option.bind (fX5_of n s1 x1 (6 : Int32)) fun v6 =>
  Option.bind (fX5_of n s1 x1 (13 : Int32)) fun v7 =>
  Option.bind (fX5_put n s1 x1 (13 : Int32) (v7 + (v5 - v6))) fun s8 =>
  Option.bind (fX5_of n s8 x1 (2 : Int32)) fun v9 =>
  Option.bind (fX5_put n s8 x1 (2 : Int32) ((v9 - (v5 - v6)) + x2)) fun s10 =>
  Option.bind (fX5_of n s10 x1 (3 : Int32)) fun v11 =>
  Option.bind (fX5_put n s10 x1 (3 : Int32) ((v11 - (v5 - v6)) + x2)) fun s12 =>
  Option.bind (fX5_of n s12 x1 (11 : Int32)) fun v13 =>
  Option.bind (fX5_put n s12 x1 (11 : Int32) (v13 + (1 : Int32))) fun s14 =>
  Option.bind (fX5_put n s14 x1 (4 : Int32) (4 : Int32)) fun s15 =>
  Option.bind (fX5_records n s15 (4 : Int32) x1) fun s16 =>
  Option.bind (fX5_replans n s16) fun s17 =>
  Option.bind (fX5_plans n s17 x1) fun s18 =>
  Option.bind (fX5_of n s18 x1 (6 : Int32)) fun v19 =>
  Option.bind (fX5_starts n s18) fun s20 =>
  some (v19, s20))
  else
  (b2 (fX5_raises n s1 (3 : Int32)) fun v21 s22 =>
  some (v21, s22))))
def fX5_refuses (n : Nat) (σ : St) (x1 : Int32) : Option (Int32 × St) :=
  Option.bind (wf σ 5 x1) fun s1 =>
  b2 (fX5_raises n s1 (2 : Int32)) fun v2 s3 =>
  some (v2, s3)
def fX5_reserve (n : Nat) (σ : St) (x1 : Int32) (x2 : Int32) (x3 : Int32) : Option (Int32 × St) :=
  Option.bind (wf σ 6 (0 : Int32)) fun s1 =>
  Option.bind (fX5_in n x1 (0 : Int32) (5 : Int32)) fun v2 =>
  if v2 = 0 then
  (b2 (fX5_raises n s1 (1 : Int32)) fun v3 s4 =>
  some (v3, s4))
  else
  (Option.bind (fX5_in n x2 (0 : Int32) (1000 : Int32)) fun v5 =>
  if v5 = 0 then
  (b2 (fX5_raises n s1 (1 : Int32)) fun v6 s7 =>
  some (v6, s7))
  else
  (Option.bind (fX5_in n x3 (1 : Int32) (40 : Int32)) fun v8 =>
  if v8 = 0 then
  (b2 (fX5_raises n s1 (1 : Int32)) fun v26 s27 =>
  some (v26, s27))
  else
  (Option.bind (rd (s1 0) 609 (0 : Int32)) fun v9 =>
  if v9 ≤ x2 then
  (Option.bind (rd (s1 0) 609 (2 : Int32)) fun v10 =>
  if v10 = (6 : Int32) then
  (b2 (fX5_refuses n s1 (2 : Int32)) fun v22 s23 =>
  some (v22, s23))
  else
  (Option.bind (fX5_lowest n s1 x1 x2 x3) fun v11 =>
  if 0 ≤ v11 then
  (Option.bind (wf s1 5 (0 : Int32)) fun s12 =>
  Option.bind (rd (s12 0) 609 (2 : Int32)) fun v13 =>
  Option.bind (wr s12 0 609 ((341 : Int32) + ((4 : Int32) * v13)) x1) fun s14 =>
  Option.bind (wr s14 0 609 (((341 : Int32) + ((4 : Int32) * v13)) + (1 : Int32)) v11) fun s15 =>
  Option.bind (wr s15 0 609 (((341 : Int32) + ((4 : Int32) * v13)) + (2 : Int32)) x2) fun s16 =>
  Option.bind (wr s16 0 609 (((341 : Int32) + ((4 : Int32) * v13)) + (3 : Int32)) x3) fun s17 =>
  Option.bind (rd (s17 0) 609 (2 : Int32)) fun v18 =>
  Option.bind (wr s17 0 609 (2 : Int32) (v18 + (1 : Int32))) fun s19 =>
  some (v18, s19))
  else
  (b2 (fX5_refuses n s1 (3 : Int32)) fun v20 s21 =>
  some (v20, s21))))
  else
  (b2 (fX5_refuses n s1 (1 : Int32)) fun v24 s25 =>
  some (v24, s25)))))
def fX5_refusal (n : Nat) (σ : St) : Option (Int32 × St) :=
  Option.bind (wf σ 6 (0 : Int32)) fun s1 =>
  some ((s1 5 0), s1)
def fX5_cancelReservation (n : Nat) (σ : St) (x1 : Int32) : Option St :=
  Option.bind (wf σ 6 (0 : Int32)) fun s1 =>
  Option.bind (fX5_isReservation n s1 x1) fun v2 =>
  if v2 = 0 then
  (Option.bind (wf s1 6 (1 : Int32)) fun s8 =>
  some s8)
  else
  (Option.bind (fX5_reserved n s1 x1 (3 : Int32)) fun v3 =>
  if v3 = 0 then
  (Option.bind (wf s1 6 (2 : Int32)) fun s7 =>
  some s7)
  else
  (Option.bind (wr s1 0 609 (((341 : Int32) + ((4 : Int32) * x1)) + (3 : Int32)) (0 : Int32)) fun s4 =>
  Option.bind (fX5_replans n s4) fun s5 =>
  Option.bind (fX5_starts n s5) fun s6 =>
  some s6))
def fX5_reservedProcessor (n : Nat) (σ : St) (x1 : Int32) : Option (Int32 × St) :=
  Option.bind (wf σ 6 (0 : Int32)) fun s1 =>
  Option.bind (fX5_isReservation n s1 x1) fun v2 =>
  if v2 = 0 then
  (b2 (fX5_raises n s1 (1 : Int32)) fun v7 s8 =>
  some (v7, s8))
  else
  (Option.bind (fX5_reserved n s1 x1 (3 : Int32)) fun v3 =>
  if v3 = 0 then
  (b2 (fX5_raises n s1 (2 : Int32)) fun v5 s6 =>
  some (v5, s6))
  else
  (Option.bind (fX5_reserved n s1 x1 (1 : Int32)) fun v4 =>
  some (v4, s1)))
def fX5_setFair (n : Nat) (σ : St) (x1 : Int32) : Option (Int32 × St) :=
  Option.bind (wf σ 6 (0 : Int32)) fun s1 =>
  Option.bind (rd (s1 0) 609 (3 : Int32)) fun v2 =>
  if v2 = (1 : Int32) then
  (if x1 = 0 then
  (Option.bind (wr s1 0 609 (3 : Int32) (0 : Int32)) fun s5 =>
  some ((1 : Int32), s5))
  else
  (Option.bind (wr s1 0 609 (3 : Int32) (1 : Int32)) fun s6 =>
  some ((1 : Int32), s6)))
  else
  (if x1 = 0 then
  (Option.bind (wr s1 0 609 (3 : Int32) (0 : Int32)) fun s3 =>
  some ((0 : Int32), s3))
  else
  (Option.bind (wr s1 0 609 (3 : Int32) (1 : Int32)) fun s4 =>
  some ((0 : Int32), s4)))
def fX5_clock (n : Nat) (σ : St) : Option (Int32 × St) :=
  Option.bind (wf σ 6 (0 : Int32)) fun s1 =>
  Option.bind (rd (s1 0) 609 (0 : Int32)) fun v2 =>
  some (v2, s1)
def fX5_jobCount (n : Nat) (σ : St) : Option (Int32 × St) :=
  Option.bind (wf σ 6 (0 : Int32)) fun s1 =>
  Option.bind (rd (s1 0) 609 (1 : Int32)) fun v2 =>
  some (v2, s1)
def fX5_state (n : Nat) (σ : St) (x1 : Int32) : Option (Int32 × St) :=
  Option.bind (wf σ 6 (0 : Int32)) fun s1 =>
  Option.bind (fX5_isJob n s1 x1) fun v2 =>
  if v2 = 0 then
  (b2 (fX5_raises n s1 (1 : Int32)) fun v3 s4 =>
  some (v3, s4))
  else
  (Option.bind (fX5_of n s1 x1 (4 : Int32)) fun v5 =>
  some (v5, s1))
def fX5_ofAllocated (n : Nat) (σ : St) (x1 : Int32) (x2 : Int32) : Option (Int32 × St) :=
  Option.bind (wf σ 6 (0 : Int32)) fun s1 =>
  Option.bind (fX5_isJob n s1 x1) fun v2 =>
  if v2 = 0 then
  (b2 (fX5_raises n s1 (1 : Int32)) fun v7 s8 =>
  some (v7, s8))
  else
  (Option.bind (fX5_isAllocated n s1 x1) fun v3 =>
  if v3 = 0 then
  (b2 (fX5_raises n s1 (2 : Int32)) fun v4 s5 =>
  some (v4, s5))
  else
  (Option.bind (fX5_of n s1 x1 x2) fun v6 =>
  some (v6, s1)))
def fX5_startTime (n : Nat) (σ : St) (x1 : Int32) : Option (Int32 × St) :=
  b2 (fX5_ofAllocated n σ x1 (6 : Int32)) fun v1 s2 =>
  some (v1, s2)
def fX5_firstProcessor (n : Nat) (σ : St) (x1 : Int32) : Option (Int32 × St) :=
  b2 (fX5_ofAllocated n σ x1 (5 : Int32)) fun v1 s2 =>
  some (v1, s2)
def fX5_promise (n : Nat) (σ : St) (x1 : Int32) : Option (Int32 × St) :=
  Option.bind (wf σ 6 (0 : Int32)) fun s1 =>
  Option.bind (fX5_isJob n s1 x1) fun v2 =>
  if v2 = 0 then
  (b2 (fX5_raises n s1 (1 : Int32)) fun v3 s4 =>
  some (v3, s4))
  else
  (Option.bind (fX5_of n s1 x1 (7 : Int32)) fun v5 =>
  some (v5, s1))
def fX5_finishTime (n : Nat) (σ : St) (x1 : Int32) : Option (Int32 × St) :=
  Option.bind (wf σ 6 (0 : Int32)) fun s1 =>
  Option.bind (fX5_isJob n s1 x1) fun v2 =>
  if v2 = 0 then
  (b2 (fX5_raises n s1 (1 : Int32)) fun v7 s8 =>
  some (v7, s8))
  else
  (Option.bind (fX5_of n s1 x1 (4 : Int32)) fun v3 =>
  if v3 = (2 : Int32) then
  (Option.bind (fX5_of n s1 x1 (10 : Int32)) fun v6 =>
  some (v6, s1))
  else
  (b2 (fX5_raises n s1 (2 : Int32)) fun v4 s5 =>
  some (v4, s5)))
def fX5_preemptions (n : Nat) (σ : St) (x1 : Int32) : Option (Int32 × St) :=
  Option.bind (wf σ 6 (0 : Int32)) fun s1 =>
  Option.bind (fX5_isJob n s1 x1) fun v2 =>
  if v2 = 0 then
  (b2 (fX5_raises n s1 (1 : Int32)) fun v3 s4 =>
  some (v3, s4))
  else
  (Option.bind (fX5_of n s1 x1 (11 : Int32)) fun v5 =>
  some (v5, s1))
def fX5_waitTime (n : Nat) (σ : St) (x1 : Int32) : Option (Int32 × St) :=
  Option.bind (wf σ 6 (0 : Int32)) fun s1 =>
  Option.bind (fX5_isJob n s1 x1) fun v2 =>
  if v2 = 0 then
  (b2 (fX5_raises n s1 (1 : Int32)) fun v8 s9 =>
  some (v8, s9))
  else
  (Option.bind (fX5_of n s1 x1 (12 : Int32)) fun v3 =>
  if 0 ≤ v3 then
  (Option.bind (fX5_of n s1 x1 (12 : Int32)) fun v4 =>
  Option.bind (fX5_of n s1 x1 (8 : Int32)) fun v5 =>
  some ((v4 - v5), s1))
  else
  (b2 (fX5_raises n s1 (2 : Int32)) fun v6 s7 =>
  some (v6, s7)))
def fX5_averageWait_b11 (n : Nat) (s1 : St) (go5 : Int32 → Int32 → Int32 → Option (UInt64 × St)) (y2 : Int32) (y3 : Int32) (y4 : Int32) : Option (UInt64 × St) :=
  Option.bind (rd (s1 0) 609 (1 : Int32)) fun v6 =>
  if v6 ≤ y2 then
  (if y3 = 0 then
  (b2 (fX5_raises n s1 (1 : Int32)) fun v8 s9 =>
  some ((FP.i2d v8), s9))
  else
  (Option.bind (od (FP.ddiv (FP.i2d y4) (FP.i2d y3))) fun v7 =>
  some (v7, s1)))
  else
  (Option.bind (fX5_of n s1 y2 (12 : Int32)) fun v10 =>
  if 0 ≤ v10 then
  (Option.bind (fX5_of n s1 y2 (12 : Int32)) fun v11 =>
  Option.bind (fX5_of n s1 y2 (8 : Int32)) fun v12 =>
  go5 (y2 + (1 : Int32)) (y3 + (1 : Int32)) (y4 + (v11 - v12)))
  else
  (go5 (y2 + (1 : Int32)) y3 y4))
def fX5_averageWait (n : Nat) (σ : St) : Option (UInt64 × St) :=
  Option.bind (wf σ 6 (0 : Int32)) fun s1 =>
  lz3 (fX5_averageWait_b11 n s1) n (0 : Int32) (0 : Int32) (0 : Int32)
def fX5_slowdown (n : Nat) (σ : St) (x1 : Int32) : Option (UInt32 × St) :=
  Option.bind (wf σ 6 (0 : Int32)) fun s1 =>
  Option.bind (fX5_isJob n s1 x1) fun v2 =>
  if v2 = 0 then
  (b2 (fX5_raises n s1 (1 : Int32)) fun v10 s11 =>
  some ((FP.i2f v10), s11))
  else
  (Option.bind (fX5_of n s1 x1 (4 : Int32)) fun v3 =>
  if v3 = (2 : Int32) then
  (Option.bind (fX5_of n s1 x1 (10 : Int32)) fun v4 =>
  Option.bind (fX5_of n s1 x1 (8 : Int32)) fun v5 =>
  Option.bind (fX5_of n s1 x1 (9 : Int32)) fun v6 =>
  Option.bind (og (FP.fdiv (FP.i2f (v4 - v5)) (FP.i2f v6))) fun v7 =>
  some (v7, s1))
  else
  (b2 (fX5_raises n s1 (2 : Int32)) fun v8 s9 =>
  some ((FP.i2f v8), s9)))
def fX5_usage (n : Nat) (σ : St) (x1 : Int32) : Option (Int32 × St) :=
  Option.bind (wf σ 6 (0 : Int32)) fun s1 =>
  Option.bind (fX5_in n x1 (0 : Int32) (3 : Int32)) fun v2 =>
  if v2 = 0 then
  (b2 (fX5_raises n s1 (1 : Int32)) fun v3 s4 =>
  some (v3, s4))
  else
  (Option.bind (fX5_used n s1 x1) fun v5 =>
  some (v5, s1))
def fX5_utilization_b25 (n : Nat) (s1 : St) (go5 : Int32 → Int32 → Option (UInt64 × St)) (y3 : Int32) (y4 : Int32) : Option (UInt64 × St) :=
  if (4 : Int32) ≤ y3 then
  (Option.bind (rd (s1 0) 609 (0 : Int32)) fun v6 =>
  Option.bind (od (FP.ddiv (FP.i2d y4) (FP.i2d ((32 : Int32) * v6)))) fun v7 =>
  some (v7, s1))
  else
  (Option.bind (fX5_used n s1 y3) fun v8 =>
  go5 (y3 + (1 : Int32)) (y4 + v8))
def fX5_utilization (n : Nat) (σ : St) : Option (UInt64 × St) :=
  Option.bind (wf σ 6 (0 : Int32)) fun s1 =>
  Option.bind (rd (s1 0) 609 (0 : Int32)) fun v2 =>
  if v2 = 0 then
  (b2 (fX5_raises n s1 (1 : Int32)) fun v9 s10 =>
  some ((FP.i2d v9), s10))
  else
  (lz2 (fX5_utilization_b25 n s1) n (0 : Int32) (0 : Int32))
def fX5_makespan_b14 (n : Nat) (s1 : St) (go5 : Int32 → Int32 → Option (Int32 × St)) (y3 : Int32) (y4 : Int32) : Option (Int32 × St) :=
  Option.bind (rd (s1 0) 609 (1 : Int32)) fun v6 =>
  if v6 ≤ y3 then
  (some (y4, s1))
  else
  (Option.bind (fX5_isAllocated n s1 y3) fun v7 =>
  if v7 = 0 then
  (go5 (y3 + (1 : Int32)) y4)
  else
  (Option.bind (fX5_of n s1 y3 (6 : Int32)) fun v8 =>
  Option.bind (fX5_of n s1 y3 (2 : Int32)) fun v9 =>
  go5 (y3 + (1 : Int32)) (imax y4 (v8 + v9))))
def fX5_makespan (n : Nat) (σ : St) : Option (Int32 × St) :=
  Option.bind (wf σ 6 (0 : Int32)) fun s1 =>
  Option.bind (rd (s1 0) 609 (0 : Int32)) fun v2 =>
  lz2 (fX5_makespan_b14 n s1) n (0 : Int32) v2
def fX5_owner_b83 (n : Nat) (σ : St) (x1 : Int32) (x2 : Int32) (go3 : Int32 → Option Int32) (y2 : Int32) : Option Int32 :=
  Option.bind (rd (σ 0) 609 (2 : Int32)) fun v4 =>
  if v4 ≤ y2 then
  (some (-1 : Int32))
  else
  (Option.bind (fX5_reserved n σ y2 (2 : Int32)) fun v5 =>
  if x2 < v5 then
  (go3 (y2 + (1 : Int32)))
  else
  (Option.bind (fX5_reserved n σ y2 (2 : Int32)) fun v6 =>
  Option.bind (fX5_reserved n σ y2 (3 : Int32)) fun v7 =>
  if v7 ≤ (x2 - v6) then
  (go3 (y2 + (1 : Int32)))
  else
  (Option.bind (fX5_reserved n σ y2 (0 : Int32)) fun v8 =>
  Option.bind (fX5_reserved n σ y2 (1 : Int32)) fun v9 =>
  Option.bind (fX5_reserved n σ y2 (0 : Int32)) fun v10 =>
  if (x1 >>> (v8 &&& 31)) = (v9 >>> (v10 &&& 31)) then
  (some ((100 : Int32) + y2))
  else
  (go3 (y2 + (1 : Int32))))))
def fX5_owner_k2_81 (n : Nat) (σ : St) (x1 : Int32) (x2 : Int32) (y1 : Int32) : Option Int32 :=
  lz1 (fX5_owner_b83 n σ x1 x2) n (0 : Int32)
def fX5_owner_b2 (n : Nat) (σ : St) (x1 : Int32) (x2 : Int32) (go12 : Int32 → Option Int32) (y11 : Int32) : Option Int32 :=
  Option.bind (rd (σ 0) 609 (1 : Int32)) fun v13 =>
  if v13 ≤ y11 then
  (fX5_owner_k2_81 n σ x1 x2 y11)
  else
  (Option.bind (fX5_isAllocated n σ y11) fun v14 =>
  if v14 = 0 then
  (go12 (y11 + (1 : Int32)))
  else
  (Option.bind (fX5_of n σ y11 (6 : Int32)) fun v15 =>
  if x2 < v15 then
  (go12 (y11 + (1 : Int32)))
  else
  (Option.bind (fX5_of n σ y11 (6 : Int32)) fun v16 =>
  Option.bind (fX5_of n σ y11 (2 : Int32)) fun v17 =>
  if v17 ≤ (x2 - v16) then
  (go12 (y11 + (1 : Int32)))
  else
  (Option.bind (fX5_of n σ y11 (1 : Int32)) fun v18 =>
  Option.bind (fX5_of n σ y11 (5 : Int32)) fun v19 =>
  Option.bind (fX5_of n σ y11 (1 : Int32)) fun v20 =>
  if (x1 >>> (v18 &&& 31)) = (v19 >>> (v20 &&& 31)) then
  (some y11)
  else
  (go12 (y11 + (1 : Int32)))))))
def fX5_owner (n : Nat) (σ : St) (x1 : Int32) (x2 : Int32) : Option Int32 :=
  lz1 (fX5_owner_b2 n σ x1 x2) n (0 : Int32)
def fX5_ownerAt (n : Nat) (σ : St) (x1 : Int32) (x2 : Int32) : Option (Int32 × St) :=
  Option.bind (wf σ 6 (0 : Int32)) fun s1 =>
  Option.bind (fX5_in n x1 (0 : Int32) (31 : Int32)) fun v2 =>
  if v2 = 0 then
  (b2 (fX5_raises n s1 (1 : Int32)) fun v3 s4 =>
  some (v3, s4))
  else
  (if x2 < 0 then
  (b2 (fX5_raises n s1 (1 : Int32)) fun v5 s6 =>
  some (v5, s6))
  else
  (Option.bind (fX5_owner n s1 x1 x2) fun v7 =>
  some (v7, s1)))
def fX5_frees_b4 (n : Nat) (σ : St) (x1 : Int32) (go3 : Int32 → Int32 → Option Int32) (y1 : Int32) (y2 : Int32) : Option Int32 :=
  if (32 : Int32) ≤ y1 then
  (some y2)
  else
  (Option.bind (fX5_owner n σ y1 x1) fun v4 =>
  if 0 ≤ v4 then
  (go3 (y1 + (1 : Int32)) y2)
  else
  (go3 (y1 + (1 : Int32)) (y2 + (1 : Int32))))
def fX5_frees (n : Nat) (σ : St) (x1 : Int32) : Option Int32 :=
  lz2 (fX5_frees_b4 n σ x1) n (0 : Int32) (0 : Int32)
def fX5_freeProcessors (n : Nat) (σ : St) (x1 : Int32) : Option (Int32 × St) :=
  Option.bind (wf σ 6 (0 : Int32)) fun s1 =>
  if 0 ≤ x1 then
  (Option.bind (fX5_frees n s1 x1) fun v2 =>
  some (v2, s1))
  else
  (b2 (fX5_raises n s1 (1 : Int32)) fun v3 s4 =>
  some (v3, s4))
def fX5_isFreeNow_b2 (n : Nat) (σ : St) (x1 : Int32) (x2 : Int32) (go2 : Int32 → Option Int32) (y1 : Int32) : Option Int32 :=
  if (x2 + ((1 : Int32) <<< (x1 &&& 31))) ≤ y1 then
  (some (1 : Int32))
  else
  (Option.bind (rd (σ 0) 609 (0 : Int32)) fun v3 =>
  Option.bind (fX5_owner n σ y1 v3) fun v4 =>
  if v4 < 0 then
  (go2 (y1 + (1 : Int32)))
  else
  (some (0 : Int32)))
def fX5_isFreeNow (n : Nat) (σ : St) (x1 : Int32) (x2 : Int32) : Option Int32 :=
  lz1 (fX5_isFreeNow_b2 n σ x1 x2) n x2
def fX5_freeBlocks_b24 (n : Nat) (x1 : Int32) (s1 : St) (go5 : Int32 → Int32 → Option (Int32 × St)) (y3 : Int32) (y4 : Int32) : Option (Int32 × St) :=
  if (32 : Int32) ≤ y3 then
  (some (y4, s1))
  else
  (Option.bind (fX5_isFreeNow n s1 x1 y3) fun v6 =>
  if v6 = 0 then
  (go5 (y3 + ((1 : Int32) <<< (x1 &&& 31))) y4)
  else
  (if x1 = (5 : Int32) then
  (go5 (y3 + ((1 : Int32) <<< (x1 &&& 31))) (y4 + (1 : Int32)))
  else
  (Option.bind (fX5_isFreeNow n s1 (x1 + (1 : Int32)) ((y3 >>> ((x1 + (1 : Int32)) &&& 31)) <<< ((x1 + (1 : Int32)) &&& 31))) fun v7 =>
  if v7 = 0 then
  (go5 (y3 + ((1 : Int32) <<< (x1 &&& 31))) (y4 + (1 : Int32)))
  else
  (go5 (y3 + ((1 : Int32) <<< (x1 &&& 31))) y4))))
def fX5_freeBlocks (n : Nat) (σ : St) (x1 : Int32) : Option (Int32 × St) :=
  Option.bind (wf σ 6 (0 : Int32)) fun s1 =>
  Option.bind (fX5_in n x1 (0 : Int32) (5 : Int32)) fun v2 =>
  if v2 = 0 then
  (b2 (fX5_raises n s1 (1 : Int32)) fun v8 s9 =>
  some (v8, s9))
  else
  (lz2 (fX5_freeBlocks_b24 n x1 s1) n (0 : Int32) (0 : Int32))
def fX5_largest_k8_34 (y1 : Int32) (go2 : Int32 → Option Int32) (y3 : Int32) : Option Int32 :=
  go2 (y1 + (-1 : Int32))
def fX5_largest_b8 (n : Nat) (σ : St) (y1 : Int32) (go2 : Int32 → Option Int32) (go5 : Int32 → Option Int32) (y4 : Int32) : Option Int32 :=
  if (32 : Int32) ≤ y4 then
  (fX5_largest_k8_34 y1 go2 y4)
  else
  (Option.bind (fX5_isFreeNow n σ y1 y4) fun v6 =>
  if v6 = 0 then
  (go5 (y4 + ((1 : Int32) <<< (y1 &&& 31))))
  else
  (some y1))
def fX5_largest_b2 (n : Nat) (σ : St) (go2 : Int32 → Option Int32) (y1 : Int32) : Option Int32 :=
  if y1 < 0 then
  (some (-1 : Int32))
  else
  (lz1 (fX5_largest_b8 n σ y1 go2) n (0 : Int32))
def fX5_largest (n : Nat) (σ : St) : Option Int32 :=
  lz1 (fX5_largest_b2 n σ) n (5 : Int32)
def fX5_largestFree (n : Nat) (σ : St) : Option (Int32 × St) :=
  Option.bind (wf σ 6 (0 : Int32)) fun s1 =>
  Option.bind (fX5_largest n s1) fun v2 =>
  if 0 ≤ v2 then
  (some (v2, s1))
  else
  (b2 (fX5_raises n s1 (1 : Int32)) fun v3 s4 =>
  some (v3, s4))
def fX5_fragmentation (n : Nat) (σ : St) : Option (UInt64 × St) :=
  Option.bind (wf σ 6 (0 : Int32)) fun s1 =>
  Option.bind (fX5_largest n s1) fun v2 =>
  if 0 ≤ v2 then
  (Option.bind (rd (s1 0) 609 (0 : Int32)) fun v3 =>
  Option.bind (fX5_frees n s1 v3) fun v4 =>
  Option.bind (od (FP.ddiv (FP.i2d ((1 : Int32) <<< (v2 &&& 31))) (FP.i2d v4))) fun v5 =>
  Option.bind (od (FP.dsub FP.dconst1 v5)) fun v6 =>
  some (v6, s1))
  else
  (b2 (fX5_raises n s1 (1 : Int32)) fun v7 s8 =>
  some ((FP.i2d v7), s8))
def fX5_earliestStart (n : Nat) (σ : St) (x1 : Int32) (x2 : Int32) : Option (Int32 × St) :=
  Option.bind (wf σ 6 (0 : Int32)) fun s1 =>
  Option.bind (fX5_in n x1 (0 : Int32) (5 : Int32)) fun v2 =>
  if v2 = 0 then
  (b2 (fX5_raises n s1 (1 : Int32)) fun v3 s4 =>
  some (v3, s4))
  else
  (Option.bind (fX5_in n x2 (1 : Int32) (40 : Int32)) fun v5 =>
  if v5 = 0 then
  (b2 (fX5_raises n s1 (1 : Int32)) fun v6 s7 =>
  some (v6, s7))
  else
  (Option.bind (fX5_earliest n s1 x1 x2) fun v8 =>
  some (v8, s1)))
def fX5_lowestBlock (n : Nat) (σ : St) (x1 : Int32) (x2 : Int32) (x3 : Int32) : Option (Int32 × St) :=
  Option.bind (wf σ 6 (0 : Int32)) fun s1 =>
  Option.bind (fX5_in n x1 (0 : Int32) (5 : Int32)) fun v2 =>
  if v2 = 0 then
  (b2 (fX5_raises n s1 (1 : Int32)) fun v3 s4 =>
  some (v3, s4))
  else
  (Option.bind (fX5_in n x2 (0 : Int32) (1000 : Int32)) fun v5 =>
  if v5 = 0 then
  (b2 (fX5_raises n s1 (1 : Int32)) fun v6 s7 =>
  some (v6, s7))
  else
  (Option.bind (fX5_in n x3 (1 : Int32) (40 : Int32)) fun v8 =>
  if v8 = 0 then
  (b2 (fX5_raises n s1 (1 : Int32)) fun v12 s13 =>
  some (v12, s13))
  else
  (Option.bind (fX5_lowest n s1 x1 x2 x3) fun v9 =>
  if 0 ≤ v9 then
  (some (v9, s1))
  else
  (b2 (fX5_raises n s1 (2 : Int32)) fun v10 s11 =>
  some (v10, s11)))))
def fX5_blockStarts (n : Nat) (σ : St) (x1 : Int32) (x2 : Int32) : Option (Int32 × St) :=
  Option.bind (wf σ 6 (0 : Int32)) fun s1 =>
  Option.bind (fX5_in n x1 (0 : Int32) (5 : Int32)) fun v2 =>
  if v2 = 0 then
  (b2 (fX5_raises n s1 (1 : Int32)) fun v3 s4 =>
  some (v3, s4))
  else
  (Option.bind (fX5_in n x2 (0 : Int32) (31 : Int32)) fun v5 =>
  if v5 = 0 then
  (b2 (fX5_raises n s1 (1 : Int32)) fun v6 s7 =>
  some (v6, s7))
  else
  (Option.bind (orem x2 ((1 : Int32) <<< (x1 &&& 31))) fun v8 =>
  if v8 = 0 then
  (Option.bind (fX5_block n x1 x2) fun v9 =>
  Option.bind (rd (s1 0) 609 ((545 : Int32) + v9)) fun v10 =>
  some (v10, s1))
  else
  (b2 (fX5_raises n s1 (1 : Int32)) fun v11 s12 =>
  some (v11, s12))))
def fX5_busiestBlock_k20_84 (y2 : Int32) (go5 : Int32 → Int32 → Int32 → Option (Int32 × St)) (y8 : Int32) (y9 : Int32) (y10 : Int32) : Option (Int32 × St) :=
  go5 (y2 + (1 : Int32)) y9 y10
def fX5_busiestBlock_b20 (n : Nat) (s1 : St) (y2 : Int32) (go5 : Int32 → Int32 → Int32 → Option (Int32 × St)) (go14 : Int32 → Int32 → Int32 → Option (Int32 × St)) (y11 : Int32) (y12 : Int32) (y13 : Int32) : Option (Int32 × St) :=
  if (32 : Int32) ≤ y11 then
  (fX5_busiestBlock_k20_84 y2 go5 y11 y12 y13)
  else
  (Option.bind (fX5_block n y2 y11) fun v15 =>
  Option.bind (rd (s1 0) 609 ((545 : Int32) + v15)) fun v16 =>
  if y13 < v16 then
  (Option.bind (fX5_block n y2 y11) fun v17 =>
  Option.bind (rd (s1 0) 609 ((545 : Int32) + v17)) fun v18 =>
  go14 (y11 + ((1 : Int32) <<< (y2 &&& 31))) (((100 : Int32) * y2) + y11) v18)
  else
  (go14 (y11 + ((1 : Int32) <<< (y2 &&& 31))) y12 y13))
def fX5_busiestBlock_b11 (n : Nat) (s1 : St) (go5 : Int32 → Int32 → Int32 → Option (Int32 × St)) (y2 : Int32) (y3 : Int32) (y4 : Int32) : Option (Int32 × St) :=
  if (6 : Int32) ≤ y2 then
  (if y4 = 0 then
  (b2 (fX5_raises n s1 (1 : Int32)) fun v6 s7 =>
  some (v6, s7))
  else
  (some (y3, s1)))
  else
  (lz3 (fX5_busiestBlock_b20 n s1 y2 go5) n (0 : Int32) y3 y4)
def fX5_busiestBlock (n : Nat) (σ : St) : Option (Int32 × St) :=
  Option.bind (wf σ 6 (0 : Int32)) fun s1 =>
  lz3 (fX5_busiestBlock_b11 n s1) n (0 : Int32) (0 : Int32) (0 : Int32)
def fX5_eventCount (n : Nat) (σ : St) : Option (Int32 × St) :=
  Option.bind (wf σ 6 (0 : Int32)) fun s1 =>
  Option.bind (rd (s1 0) 609 (4 : Int32)) fun v2 =>
  some (v2, s1)
def fX5_event (n : Nat) (σ : St) (x1 : Int32) (x2 : Int32) : Option (Int32 × St) :=
  Option.bind (wf σ 6 (0 : Int32)) fun s1 =>
  Option.bind (rd (s1 0) 609 (4 : Int32)) fun v2 =>
  Option.bind (fX5_in n x1 (0 : Int32) (v2 - (1 : Int32))) fun v3 =>
  if v3 = 0 then
  (b2 (fX5_raises n s1 (1 : Int32)) fun v4 s5 =>
  some (v4, s5))
  else
  (Option.bind (fX5_in n x2 (0 : Int32) (2 : Int32)) fun v6 =>
  if v6 = 0 then
  (b2 (fX5_raises n s1 (1 : Int32)) fun v7 s8 =>
  some (v7, s8))
  else
  (Option.bind (rd (s1 0) 609 (((365 : Int32) + ((3 : Int32) * x1)) + x2)) fun v9 =>
  some (v9, s1)))
def fX5_save_b12 (go5 : Int32 → St → Option St) (y3 : Int32) (s4 : St) : Option St :=
  if (609 : Int32) ≤ y3 then
  (some s4)
  else
  (Option.bind (rd (s4 0) 609 y3) fun v6 =>
  Option.bind (wr s4 1 609 y3 v6) fun s7 =>
  go5 (y3 + (1 : Int32)) s7)
def fX5_save (n : Nat) (σ : St) : Option St :=
  Option.bind (wf σ 6 (0 : Int32)) fun s1 =>
  Option.bind (wz s1 4 (1 : Int32)) fun s2 =>
  lz2 (fX5_save_b12) n (0 : Int32) s2
def fX5_restore_b20 (go4 : Int32 → St → Option (Int32 × St)) (y2 : Int32) (s3 : St) : Option (Int32 × St) :=
  if (609 : Int32) ≤ y2 then
  (Option.bind (rd (s3 0) 609 (0 : Int32)) fun v5 =>
  some (v5, s3))
  else
  (Option.bind (rd (s3 1) 609 y2) fun v6 =>
  Option.bind (wr s3 0 609 y2 v6) fun s7 =>
  go4 (y2 + (1 : Int32)) s7)
def fX5_restore (n : Nat) (σ : St) : Option (Int32 × St) :=
  Option.bind (wf σ 6 (0 : Int32)) fun s1 =>
  if (s1 4 0) = 0 then
  (b2 (fX5_raises n s1 (1 : Int32)) fun v8 s9 =>
  some (v8, s9))
  else
  (lz2 (fX5_restore_b20) n (0 : Int32) s1)
def fX4_submit (n : Nat) (σ : St) (x1 : Int32) (x2 : Int32) (x3 : Int32) (x4 : Int32) : Option (XRg Int32) :=
  Option.bind (fX4_isUser n x1) fun v1 =>
  if v1 = 0 then
  (some (.inl (xIA, σ)))
  else
  (Option.bind (fX4_isOrder n x2) fun v2 =>
  if v2 = 0 then
  (some (.inl (xIA, σ)))
  else
  (Option.bind (fX4_isLength n x3) fun v3 =>
  if v3 = 0 then
  (some (.inl (xIA, σ)))
  else
  (if x4 < (1 : Int32) then
  (some (.inl (xIA, σ)))
  else
  (if x4 ≤ x3 then
  (if (σ 16 0) < (24 : Int32) then
  (b2 (fX0_addJob n σ x1 x2 x3 x4) fun v4 s5 =>
  Option.bind (some (mrg σ s5)) fun s6 =>
  some (.inr (v4, s6)))
  else
  (some (.inl (xIS, σ))))
  else
  (some (.inl (xIA, σ)))))))
def fX4_advance_b50 (n : Nat) (x1 : Int32) (go4 : Int32 → Int32 → St → Option (XRg Int32)) (y1 : Int32) (y2 : Int32) (s3 : St) : Option (XRg Int32) :=
  if x1 ≤ y1 then
  (some (.inr (y2, s3)))
  else
  (b2 (fX0_tick n s3) fun v5 s6 =>
  Option.bind (some (mrg s3 s6)) fun s7 =>
  go4 (y1 + (1 : Int32)) (y2 + v5) s7)
def fX4_advance (n : Nat) (σ : St) (x1 : Int32) : Option (XRg Int32) :=
  if x1 < (1 : Int32) then
  (some (.inl (xIA, σ)))
  else
  (if x1 ≤ (50 : Int32) then
  (if ((σ 25 0) + x1) ≤ (1000 : Int32) then
  (lz3 (fX4_advance_b50 n x1) n (0 : Int32) (0 : Int32) σ)
  else
  (some (.inl (xIS, σ))))
  else
  (some (.inl (xIA, σ))))
def fX4_checkJob (n : Nat) (σ : St) (x1 : Int32) : Option (XRg Int32) :=
  if x1 < 0 then
  (some (.inl (xIO, σ)))
  else
  (if x1 < (σ 16 0) then
  (some (.inr (0, σ)))
  else
  (some (.inl (xIO, σ))))
def fX4_checkAllocated (n : Nat) (σ : St) (x1 : Int32) : Option (XRg Int32) :=
  Option.bind (rd (σ 8) 24 x1) fun v1 =>
  if v1 = 0 then
  (some (.inr (0, σ)))
  else
  (if v1 = (1 : Int32) then
  (some (.inr (0, σ)))
  else
  (some (.inl (xIS, σ))))
def fX4_cancel (n : Nat) (σ : St) (x1 : Int32) : Option (XRg Int32) :=
  bx (fX4_checkJob n σ x1) fun v1 s2 =>
  bx (fX4_checkAllocated n s2 x1) fun v3 s4 =>
  Option.bind (rd (s4 8) 24 x1) fun v5 =>
  Option.bind (fX0_dropJob n s4 x1) fun s6 =>
  Option.bind (some (mrg s4 s6)) fun s7 =>
  some (.inr (v5, s7))
def fX4_preempt (n : Nat) (σ : St) (x1 : Int32) (x2 : Int32) : Option (XRg Int32) :=
  bx (fX4_checkJob n σ x1) fun v1 s2 =>
  if x2 < 0 then
  (some (.inl (xIA, s2)))
  else
  (if x2 ≤ (9 : Int32) then
  (Option.bind (rd (s2 8) 24 x1) fun v3 =>
  if v3 = (1 : Int32) then
  (b2 (fX0_interrupt n s2 x1 x2) fun v4 s5 =>
  Option.bind (some (mrg s2 s5)) fun s6 =>
  some (.inr (v4, s6)))
  else
  (some (.inl (xIS, s2))))
  else
  (some (.inl (xIA, s2))))
def fX4_checkInterval (n : Nat) (σ : St) (x1 : Int32) (x2 : Int32) (x3 : Int32) : Option (XRg Int32) :=
  Option.bind (fX4_isOrder n x1) fun v1 =>
  if v1 = 0 then
  (some (.inl (xIA, σ)))
  else
  (if x2 < 0 then
  (some (.inl (xIA, σ)))
  else
  (if (1000 : Int32) < x2 then
  (some (.inl (xIA, σ)))
  else
  (Option.bind (fX4_isLength n x3) fun v2 =>
  if v2 = 0 then
  (some (.inl (xIA, σ)))
  else
  (some (.inr (0, σ))))))
def fX4_reasonToRefuse (n : Nat) (σ : St) (x1 : Int32) (x2 : Int32) (x3 : Int32) : Option Int32 :=
  if (σ 25 0) ≤ x2 then
  (if (σ 26 0) < (6 : Int32) then
  (Option.bind (fX3_lowestFree n σ x1 x2 x3) fun v1 =>
  if v1 = (-1 : Int32) then
  (some (3 : Int32))
  else
  (some (0 : Int32)))
  else
  (some (2 : Int32)))
  else
  (some (1 : Int32))
def fX4_reserve (n : Nat) (σ : St) (x1 : Int32) (x2 : Int32) (x3 : Int32) : Option (XRg Int32) :=
  bx (fX4_checkInterval n σ x1 x2 x3) fun v1 s2 =>
  Option.bind (fX4_reasonToRefuse n s2 x1 x2 x3) fun v3 =>
  Option.bind (wf s2 29 v3) fun s4 =>
  if (s4 29 0) = 0 then
  (b2 (fX0_addReservation n s4 x1 x2 x3) fun v5 s6 =>
  Option.bind (some (mrg s4 s6)) fun s7 =>
  some (.inr (v5, s7)))
  else
  (some (.inl (xIS, s4)))
def fX4_refusal (n : Nat) (σ : St) : Option Int32 :=
  some (σ 29 0)
def fX4_checkReservation (n : Nat) (σ : St) (x1 : Int32) : Option (XRg Int32) :=
  if x1 < 0 then
  (some (.inl (xIO, σ)))
  else
  (if x1 < (σ 26 0) then
  (Option.bind (fX3_isUsed n σ ((24 : Int32) + x1)) fun v1 =>
  if v1 = 0 then
  (some (.inl (xIS, σ)))
  else
  (some (.inr (0, σ))))
  else
  (some (.inl (xIO, σ))))
def fX4_cancelReservation (n : Nat) (σ : St) (x1 : Int32) : Option (XRg Int32) :=
  bx (fX4_checkReservation n σ x1) fun v1 s2 =>
  Option.bind (fX0_dropReservation n s2 x1) fun s3 =>
  Option.bind (some (mrg s2 s3)) fun s4 =>
  some (.inr (0, s4))
def fX4_reservedProcessor (n : Nat) (σ : St) (x1 : Int32) : Option (XRg Int32) :=
  bx (fX4_checkReservation n σ x1) fun v1 s2 =>
  Option.bind (rd (s2 1) 30 ((24 : Int32) + x1)) fun v3 =>
  some (.inr (v3, s2))
def fX4_setFair (n : Nat) (σ : St) (x1 : Int32) : Option (Int32 × St) :=
  Option.bind (wz σ 27 x1) fun s1 =>
  Option.bind (gz (σ 27 0)) fun v2 =>
  some (v2, s1)
def fX4_clock (n : Nat) (σ : St) : Option Int32 :=
  some (σ 25 0)
def fX4_jobCount (n : Nat) (σ : St) : Option Int32 :=
  some (σ 16 0)
def fX4_state (n : Nat) (σ : St) (x1 : Int32) : Option (XRg Int32) :=
  bx (fX4_checkJob n σ x1) fun v1 s2 =>
  Option.bind (rd (s2 8) 24 x1) fun v3 =>
  some (.inr (v3, s2))
def fX4_startTime (n : Nat) (σ : St) (x1 : Int32) : Option (XRg Int32) :=
  bx (fX4_checkJob n σ x1) fun v1 s2 =>
  bx (fX4_checkAllocated n s2 x1) fun v3 s4 =>
  Option.bind (rd (s4 2) 30 x1) fun v5 =>
  some (.inr (v5, s4))
def fX4_firstProcessor (n : Nat) (σ : St) (x1 : Int32) : Option (XRg Int32) :=
  bx (fX4_checkJob n σ x1) fun v1 s2 =>
  bx (fX4_checkAllocated n s2 x1) fun v3 s4 =>
  Option.bind (rd (s4 1) 30 x1) fun v5 =>
  some (.inr (v5, s4))
def fX4_promise (n : Nat) (σ : St) (x1 : Int32) : Option (XRg Int32) :=
  bx (fX4_checkJob n σ x1) fun v1 s2 =>
  Option.bind (rd (s2 11) 24 x1) fun v3 =>
  some (.inr (v3, s2))
def fX4_checkFinished (n : Nat) (σ : St) (x1 : Int32) : Option (XRg Int32) :=
  Option.bind (rd (σ 8) 24 x1) fun v1 =>
  if v1 = (2 : Int32) then
  (some (.inr (0, σ)))
  else
  (some (.inl (xIS, σ)))
def fX4_finishTime (n : Nat) (σ : St) (x1 : Int32) : Option (XRg Int32) :=
  bx (fX4_checkJob n σ x1) fun v1 s2 =>
  bx (fX4_checkFinished n s2 x1) fun v3 s4 =>
  Option.bind (rd (s4 13) 24 x1) fun v5 =>
  some (.inr (v5, s4))
def fX4_preemptions (n : Nat) (σ : St) (x1 : Int32) : Option (XRg Int32) :=
  bx (fX4_checkJob n σ x1) fun v1 s2 =>
  Option.bind (rd (s2 14) 24 x1) fun v3 =>
  some (.inr (v3, s2))
def fX4_waitTime (n : Nat) (σ : St) (x1 : Int32) : Option (XRg Int32) :=
  bx (fX4_checkJob n σ x1) fun v1 s2 =>
  Option.bind (fX2_wasStarted n s2 x1) fun v3 =>
  if v3 = 0 then
  (some (.inl (xIS, s2)))
  else
  (Option.bind (fX2_waited n s2 x1) fun v4 =>
  some (.inr (v4, s2)))
def fX4_averageWait_b6 (n : Nat) (σ : St) (go4 : Int32 → Int32 → Int32 → Option (XRg UInt64)) (y1 : Int32) (y2 : Int32) (y3 : Int32) : Option (XRg UInt64) :=
  if (σ 16 0) ≤ y1 then
  (if y2 = 0 then
  (some (.inl (xAE, σ)))
  else
  (Option.bind (od (FP.ddiv (FP.i2d y3) (FP.i2d y2))) fun v5 =>
  some (.inr (v5, σ))))
  else
  (Option.bind (fX2_wasStarted n σ y1) fun v6 =>
  if v6 = 0 then
  (go4 (y1 + (1 : Int32)) y2 y3)
  else
  (Option.bind (fX2_waited n σ y1) fun v7 =>
  go4 (y1 + (1 : Int32)) (y2 + (1 : Int32)) (y3 + v7)))
def fX4_averageWait (n : Nat) (σ : St) : Option (XRg UInt64) :=
  lz3 (fX4_averageWait_b6 n σ) n (0 : Int32) (0 : Int32) (0 : Int32)
def fX4_slowdown (n : Nat) (σ : St) (x1 : Int32) : Option (XRg UInt32) :=
  bx (fX4_checkJob n σ x1) fun v1 s2 =>
  bx (fX4_checkFinished n s2 x1) fun v3 s4 =>
  Option.bind (rd (s4 13) 24 x1) fun v5 =>
  Option.bind (rd (s4 10) 24 x1) fun v6 =>
  Option.bind (rd (s4 9) 24 x1) fun v7 =>
  Option.bind (og (FP.fdiv (FP.i2f (v5 - v6)) (FP.i2f v7))) fun v8 =>
  some (.inr (v8, s4))
def fX4_usage (n : Nat) (σ : St) (x1 : Int32) : Option (XRg Int32) :=
  Option.bind (fX4_isUser n x1) fun v1 =>
  if v1 = 0 then
  (some (.inl (xIO, σ)))
  else
  (Option.bind (fX0_usageOfUser n σ x1) fun v2 =>
  some (.inr (v2, σ)))
def fX4_utilization_b24 (n : Nat) (σ : St) (go3 : Int32 → Int32 → Option (XRg UInt64)) (y1 : Int32) (y2 : Int32) : Option (XRg UInt64) :=
  if (4 : Int32) ≤ y1 then
  (Option.bind (od (FP.ddiv (FP.i2d y2) (FP.i2d ((32 : Int32) * (σ 25 0))))) fun v4 =>
  some (.inr (v4, σ)))
  else
  (Option.bind (fX0_usageOfUser n σ y1) fun v5 =>
  go3 (y1 + (1 : Int32)) (y2 + v5))
def fX4_utilization (n : Nat) (σ : St) : Option (XRg UInt64) :=
  if (σ 25 0) = 0 then
  (some (.inl (xAE, σ)))
  else
  (lz2 (fX4_utilization_b24 n σ) n (0 : Int32) (0 : Int32))
def fX4_makespan (n : Nat) (σ : St) : Option Int32 :=
  Option.bind (fX3_endOfJobs n σ) fun v1 =>
  some (imax (σ 25 0) v1)
def fX4_ownerAt (n : Nat) (σ : St) (x1 : Int32) (x2 : Int32) : Option (XRg Int32) :=
  if x1 < 0 then
  (some (.inl (xIO, σ)))
  else
  (if (32 : Int32) ≤ x1 then
  (some (.inl (xIO, σ)))
  else
  (if 0 ≤ x2 then
  (Option.bind (fX3_slotAt n σ x1 x2) fun v1 =>
  if v1 = (-1 : Int32) then
  (some (.inr ((-1 : Int32), σ)))
  else
  (if (24 : Int32) ≤ v1 then
  (some (.inr ((((100 : Int32) + v1) - (24 : Int32)), σ)))
  else
  (some (.inr (v1, σ)))))
  else
  (some (.inl (xIO, σ)))))
def fX4_freeProcessors (n : Nat) (σ : St) (x1 : Int32) : Option (XRg Int32) :=
  if 0 ≤ x1 then
  (Option.bind (fX3_takenIn n σ x1 x1) fun v1 =>
  Option.bind (fJ6_bitCount_0f7a4 n v1) fun v2 =>
  some (.inr (((32 : Int32) - v2), σ)))
  else
  (some (.inl (xIO, σ)))
def fX4_takenNow (n : Nat) (σ : St) : Option Int32 :=
  Option.bind (fX3_takenIn n σ (σ 25 0) (σ 25 0)) fun v1 =>
  some v1
def fX4_freeBlocks_b27 (n : Nat) (σ : St) (x1 : Int32) (v2 : Int32) (go5 : Int32 → Int32 → Option (XRg Int32)) (y3 : Int32) (y4 : Int32) : Option (XRg Int32) :=
  if ((32 : Int32) >>> (x1 &&& 31)) ≤ y3 then
  (some (.inr (y4, σ)))
  else
  (if (5 : Int32) ≤ x1 then
  (Option.bind (fX4_isClear n v2 x1 y3) fun v6 =>
  if v6 = 0 then
  (go5 (y3 + (1 : Int32)) y4)
  else
  (if (0 : Int32) = 0 then
  (go5 (y3 + (1 : Int32)) (y4 + (1 : Int32)))
  else
  (go5 (y3 + (1 : Int32)) y4)))
  else
  (Option.bind (fX4_isClear n v2 (x1 + (1 : Int32)) (y3 >>> ((1 : Int32) &&& 31))) fun v7 =>
  if v7 = 0 then
  (Option.bind (fX4_isClear n v2 x1 y3) fun v8 =>
  if v8 = 0 then
  (go5 (y3 + (1 : Int32)) y4)
  else
  (if (0 : Int32) = 0 then
  (go5 (y3 + (1 : Int32)) (y4 + (1 : Int32)))
  else
  (go5 (y3 + (1 : Int32)) y4)))
  else
  (Option.bind (fX4_isClear n v2 x1 y3) fun v9 =>
  if v9 = 0 then
  (go5 (y3 + (1 : Int32)) y4)
  else
  (if (1 : Int32) = 0 then
  (go5 (y3 + (1 : Int32)) (y4 + (1 : Int32)))
  else
  (go5 (y3 + (1 : Int32)) y4)))))
def fX4_freeBlocks (n : Nat) (σ : St) (x1 : Int32) : Option (XRg Int32) :=
  Option.bind (fX4_isOrder n x1) fun v1 =>
  if v1 = 0 then
  (some (.inl (xIO, σ)))
  else
  (Option.bind (fX4_takenNow n σ) fun v2 =>
  lz2 (fX4_freeBlocks_b27 n σ x1 v2) n (0 : Int32) (0 : Int32))
def fX4_largestFree (n : Nat) (σ : St) : Option (XRg Int32) :=
  Option.bind (fX4_takenNow n σ) fun v1 =>
  Option.bind (fX4_largestClearOrder n v1) fun v2 =>
  if v2 = (-1 : Int32) then
  (some (.inl (xNS, σ)))
  else
  (some (.inr (v2, σ)))
def fX4_fragmentation (n : Nat) (σ : St) : Option (XRg UInt64) :=
  Option.bind (fX4_takenNow n σ) fun v1 =>
  Option.bind (fX4_largestClearOrder n v1) fun v2 =>
  Option.bind (fJ6_bitCount_0f7a4 n v1) fun v3 =>
  if v2 = (-1 : Int32) then
  (some (.inl (xNS, σ)))
  else
  (if ((32 : Int32) - v3) = 0 then
  (some (.inl (xNS, σ)))
  else
  (Option.bind (od (FP.ddiv (FP.i2d ((1 : Int32) <<< (v2 &&& 31))) (FP.i2d ((32 : Int32) - v3)))) fun v4 =>
  Option.bind (od (FP.dsub FP.dconst1 v4)) fun v5 =>
  some (.inr (v5, σ))))
def fX4_earliestStart (n : Nat) (σ : St) (x1 : Int32) (x2 : Int32) : Option (XRg Int32) :=
  Option.bind (fX4_isOrder n x1) fun v1 =>
  if v1 = 0 then
  (some (.inl (xIA, σ)))
  else
  (Option.bind (fX4_isLength n x2) fun v2 =>
  if v2 = 0 then
  (some (.inl (xIA, σ)))
  else
  (Option.bind (fX3_earliest n σ x1 (σ 25 0) x2) fun v3 =>
  some (.inr (v3, σ))))
def fX4_lowestBlock (n : Nat) (σ : St) (x1 : Int32) (x2 : Int32) (x3 : Int32) : Option (XRg Int32) :=
  bx (fX4_checkInterval n σ x1 x2 x3) fun v1 s2 =>
  Option.bind (fX3_lowestFree n s2 x1 x2 x3) fun v3 =>
  if v3 = (-1 : Int32) then
  (some (.inl (xNS, s2)))
  else
  (some (.inr (v3, s2)))
def fX4_blockStarts (n : Nat) (σ : St) (x1 : Int32) (x2 : Int32) : Option (XRg Int32) :=
  Option.bind (fX4_isBlock n x1 x2) fun v1 =>
  if v1 = 0 then
  (some (.inl (xIA, σ)))
  else
  (Option.bind (fX4_blockIndex n x1 x2) fun v2 =>
  Option.bind (rd (σ 22) 64 v2) fun v3 =>
  some (.inr (v3, σ)))
def fX4_busiestBlock_k14_68 (y1 : Int32) (go4 : Int32 → Int32 → Int32 → Option (XRg Int32)) (y5 : Int32) (y6 : Int32) (y7 : Int32) : Option (XRg Int32) :=
  go4 (y1 + (1 : Int32)) y6 y7
def fX4_busiestBlock_b14 (n : Nat) (σ : St) (y1 : Int32) (go4 : Int32 → Int32 → Int32 → Option (XRg Int32)) (go11 : Int32 → Int32 → Int32 → Option (XRg Int32)) (y8 : Int32) (y9 : Int32) (y10 : Int32) : Option (XRg Int32) :=
  if ((32 : Int32) >>> (y1 &&& 31)) ≤ y8 then
  (fX4_busiestBlock_k14_68 y1 go4 y8 y9 y10)
  else
  (Option.bind (fX4_blockIndex n y1 (y8 <<< (y1 &&& 31))) fun v12 =>
  Option.bind (rd (σ 22) 64 v12) fun v13 =>
  if v13 ≤ y10 then
  (go11 (y8 + (1 : Int32)) y9 y10)
  else
  (go11 (y8 + (1 : Int32)) (((100 : Int32) * y1) + (y8 <<< (y1 &&& 31))) v13))
def fX4_busiestBlock_b6 (n : Nat) (σ : St) (go4 : Int32 → Int32 → Int32 → Option (XRg Int32)) (y1 : Int32) (y2 : Int32) (y3 : Int32) : Option (XRg Int32) :=
  if (5 : Int32) < y1 then
  (if y2 = (-1 : Int32) then
  (some (.inl (xNS, σ)))
  else
  (some (.inr (y2, σ))))
  else
  (lz3 (fX4_busiestBlock_b14 n σ y1 go4) n (0 : Int32) y2 y3)
def fX4_busiestBlock (n : Nat) (σ : St) : Option (XRg Int32) :=
  lz3 (fX4_busiestBlock_b6 n σ) n (0 : Int32) (-1 : Int32) (0 : Int32)
def fX4_eventCount (n : Nat) (σ : St) : Option Int32 :=
  some (σ 20 0)
def fX4_event (n : Nat) (σ : St) (x1 : Int32) (x2 : Int32) : Option (XRg Int32) :=
  if x1 < 0 then
  (some (.inl (xIO, σ)))
  else
  (if (σ 20 0) ≤ x1 then
  (some (.inl (xIO, σ)))
  else
  (if x2 < 0 then
  (some (.inl (xIO, σ)))
  else
  (if x2 ≤ (2 : Int32) then
  (Option.bind (fX1_entry n σ x1 x2) fun v1 =>
  some (.inr (v1, σ)))
  else
  (some (.inl (xIO, σ))))))
def fX4_restore (n : Nat) (σ2 : St) (σ : St) : Option (XRg Int32) :=
  if (σ 28 0) = 0 then
  (some (.inl (xIS, σ)))
  else
  (Option.bind (fX0_copyFrom n σ2 σ) fun s1 =>
  Option.bind (some (mrg σ s1)) fun s2 =>
  some (.inr ((s2 25 0), s2)))
def fX4_save (n : Nat) (σ2 : St) (σ : St) : Option (St × St) :=
  Option.bind (fX0_copyFrom n σ σ2) fun s1 =>
  Option.bind (wz σ 28 (1 : Int32)) fun s2 =>
  some (s1, s2)
end
section
/-- WHAT THE MATHEMATICS OWES: from the invariant, each of the 36 calls is answered alike, and the invariant holds behind it -/
def LawOK (n : Nat) (INV : Nat → St → St → St → Prop) : Prop := ∀ (j : Nat) (σ2 σ τ : St), j < 512 → INV j σ2 σ τ → ∀ a1 a2 a3 a4 : Int32, INV (j + 1) σ2 σ τ ∧
  (AgI [xIA, xIS] (fX4_submit n σ a1 a2 a3 a4) (fX5_submit n τ a1 a2 a3 a4) (fun σ' τ' => INV (j + 1) σ2 σ' τ')) ∧
  (AgI [xIA, xIS] (fX4_advance n σ a1) (fX5_advance n τ a1) (fun σ' τ' => INV (j + 1) σ2 σ' τ')) ∧
  (AgI [xIO, xIS] (fX4_cancel n σ a1) (fX5_cancel n τ a1) (fun σ' τ' => INV (j + 1) σ2 σ' τ')) ∧
  (AgI [xIO, xIA, xIS] (fX4_preempt n σ a1 a2) (fX5_preempt n τ a1 a2) (fun σ' τ' => INV (j + 1) σ2 σ' τ')) ∧
  (AgI [xIA, xIS] (fX4_reserve n σ a1 a2 a3) (fX5_reserve n τ a1 a2 a3) (fun σ' τ' => INV (j + 1) σ2 σ' τ')) ∧
  (∃ v τ', fX4_refusal n σ = some v ∧ fX5_refusal n τ = some (v, τ') ∧ INV (j + 1) σ2 σ τ') ∧
  (AgV [xIO, xIS] (fX4_cancelReservation n σ a1) (fX5_cancelReservation n τ a1) (fun σ' τ' => INV (j + 1) σ2 σ' τ')) ∧
  (AgI [xIO, xIS] (fX4_reservedProcessor n σ a1) (fX5_reservedProcessor n τ a1) (fun σ' τ' => INV (j + 1) σ2 σ' τ')) ∧
  (∀ z : Int32, z = 0 ∨ z = 1 → ∃ v σ' τ', fX4_setFair n σ z = some (v, σ') ∧ fX5_setFair n τ z = some (v, τ') ∧ INV (j + 1) σ2 σ' τ') ∧
  (∃ v τ', fX4_clock n σ = some v ∧ fX5_clock n τ = some (v, τ') ∧ INV (j + 1) σ2 σ τ') ∧
  (∃ v τ', fX4_jobCount n σ = some v ∧ fX5_jobCount n τ = some (v, τ') ∧ INV (j + 1) σ2 σ τ') ∧
  (AgI [xIO] (fX4_state n σ a1) (fX5_state n τ a1) (fun σ' τ' => INV (j + 1) σ2 σ' τ')) ∧
  (AgI [xIO, xIS] (fX4_startTime n σ a1) (fX5_startTime n τ a1) (fun σ' τ' => INV (j + 1) σ2 σ' τ')) ∧
  (AgI [xIO, xIS] (fX4_firstProcessor n σ a1) (fX5_firstProcessor n τ a1) (fun σ' τ' => INV (j + 1) σ2 σ' τ')) ∧
  (AgI [xIO] (fX4_promise n σ a1) (fX5_promise n τ a1) (fun σ' τ' => INV (j + 1) σ2 σ' τ')) ∧
  (AgI [xIO, xIS] (fX4_finishTime n σ a1) (fX5_finishTime n τ a1) (fun σ' τ' => INV (j + 1) σ2 σ' τ')) ∧
  (AgI [xIO] (fX4_preemptions n σ a1) (fX5_preemptions n τ a1) (fun σ' τ' => INV (j + 1) σ2 σ' τ')) ∧
  (AgI [xIO, xIS] (fX4_waitTime n σ a1) (fX5_waitTime n τ a1) (fun σ' τ' => INV (j + 1) σ2 σ' τ')) ∧
  (AgD [xAE] (fX4_averageWait n σ) (fX5_averageWait n τ) (fun σ' τ' => INV (j + 1) σ2 σ' τ')) ∧
  (AgF [xIO, xIS] (fX4_slowdown n σ a1) (fX5_slowdown n τ a1) (fun σ' τ' => INV (j + 1) σ2 σ' τ')) ∧
  (AgI [xIO] (fX4_usage n σ a1) (fX5_usage n τ a1) (fun σ' τ' => INV (j + 1) σ2 σ' τ')) ∧
  (AgD [xAE] (fX4_utilization n σ) (fX5_utilization n τ) (fun σ' τ' => INV (j + 1) σ2 σ' τ')) ∧
  (∃ v τ', fX4_makespan n σ = some v ∧ fX5_makespan n τ = some (v, τ') ∧ INV (j + 1) σ2 σ τ') ∧
  (AgI [xIO] (fX4_ownerAt n σ a1 a2) (fX5_ownerAt n τ a1 a2) (fun σ' τ' => INV (j + 1) σ2 σ' τ')) ∧
  (AgI [xIO] (fX4_freeProcessors n σ a1) (fX5_freeProcessors n τ a1) (fun σ' τ' => INV (j + 1) σ2 σ' τ')) ∧
  (AgI [xIO] (fX4_freeBlocks n σ a1) (fX5_freeBlocks n τ a1) (fun σ' τ' => INV (j + 1) σ2 σ' τ')) ∧
  (AgI [xNS] (fX4_largestFree n σ) (fX5_largestFree n τ) (fun σ' τ' => INV (j + 1) σ2 σ' τ')) ∧
  (AgD [xNS] (fX4_fragmentation n σ) (fX5_fragmentation n τ) (fun σ' τ' => INV (j + 1) σ2 σ' τ')) ∧
  (AgI [xIA] (fX4_earliestStart n σ a1 a2) (fX5_earliestStart n τ a1 a2) (fun σ' τ' => INV (j + 1) σ2 σ' τ')) ∧
  (AgI [xIA, xNS] (fX4_lowestBlock n σ a1 a2 a3) (fX5_lowestBlock n τ a1 a2 a3) (fun σ' τ' => INV (j + 1) σ2 σ' τ')) ∧
  (AgI [xIA] (fX4_blockStarts n σ a1 a2) (fX5_blockStarts n τ a1 a2) (fun σ' τ' => INV (j + 1) σ2 σ' τ')) ∧
  (AgI [xNS] (fX4_busiestBlock n σ) (fX5_busiestBlock n τ) (fun σ' τ' => INV (j + 1) σ2 σ' τ')) ∧
  (∃ v τ', fX4_eventCount n σ = some v ∧ fX5_eventCount n τ = some (v, τ') ∧ INV (j + 1) σ2 σ τ') ∧
  (AgI [xIO] (fX4_event n σ a1 a2) (fX5_event n τ a1 a2) (fun σ' τ' => INV (j + 1) σ2 σ' τ')) ∧
  (∃ σ2' σ' τ', fX4_save n σ2 σ = some (σ2', σ') ∧ fX5_save n τ = some τ' ∧ INV (j + 1) σ2' σ' τ') ∧
  (AgI [xIS] (fX4_restore n σ2 σ) (fX5_restore n τ) (fun σ' τ' => INV (j + 1) σ2 σ' τ'))
end
section
/-! MATHEMATICS 1: reads and writes at plain places, loops that count -/
theorem sb {α β : Type} (x : α) (f : α → Option β) : Option.bind (some x) f = f x := rfl
theorem b2s {α β γ : Type} (x : α) (y : β) (f : α → β → Option γ) : b2 (some (x, y)) f = f x y := rfl
theorem bnd_nI {j N : Nat} (h : j < N) (hN : N < 2 ^ 31) : bnd (nI j) N = true := decide_eq_true (nI_in h hN)
theorem rd_nI (f : Nat → Int32) {j N : Nat} (h : j < N) (hN : N < 2 ^ 31) : rd f N (nI j) = some (f j) := by
  unfold rd
  rw [if_pos (bnd_nI h hN), nI_clamp (by omega)]
theorem wr_nI (σ : St) (k : Nat) (x : Int32) {j N : Nat} (h : j < N) (hN : N < 2 ^ 31) : wr σ k N (nI j) x = some (va_up σ k (upd (σ k) j x)) := by
  unfold wr
  rw [if_pos (bnd_nI h hN), nI_clamp (by omega)]
def itF {β : Type} (F : Nat → β → β) : Nat → Nat → β → β
  | _, 0, a => a
  | i, d + 1, a => itF F (i + 1) d (F i a)
theorem itF_last {β : Type} (F : Nat → β → β) : ∀ (d i : Nat) (a : β), itF F i (d + 1) a = F (i + d) (itF F i d a)
  | 0, _, _ => rfl
  | d + 1, i, a => by
    show itF F (i + 1) (d + 1) (F i a) = _
    rw [itF_last F d (i + 1) (F i a)]
    rw [show i + 1 + d = i + (d + 1) by omega]
    rfl
/-- a loop that counts to N and only gathers -/
theorem lz2_for {β ρ : Type} {b : (Int32 → β → Option ρ) → Int32 → β → Option ρ} {N : Nat} {F : Nat → β → β} {k : β → Option ρ} (hend : ∀ go a, b go (nI N) a = k a) (hstep : ∀ go i a, i < N → b go (nI i) a = go (nI (i + 1)) (F i a)) : ∀ (d i : Nat) (a : β) (fu : Nat), i + d = N → d < fu → lz2 b fu (nI i) a = k (itF F i d a) := by
  intro d
  induction d with
  | zero =>
    intro i a fu h hf
    obtain ⟨fu, rfl⟩ : ∃ z, fu = z + 1 := ⟨fu - 1, by omega⟩
    have : i = N := by omega
    subst this
    exact hend _ a
  | succ d ih =>
    intro i a fu h hf
    obtain ⟨fu, rfl⟩ : ∃ z, fu = z + 1 := ⟨fu - 1, by omega⟩
    show b (lz2 b fu) (nI i) a = _
    rw [hstep _ i a (by omega)]
    exact ih (i + 1) (F i a) fu (by omega) (by omega)
/-! takenIn: the processors of all allocations that meet the interval -/
def tkF (σ : St) (a b : Int32) (k : Nat) (acc : Int32) : Int32 := if b < σ 2 k then acc else if σ 3 k ≤ a then acc else acc ||| σ 0 k
def tk (σ : St) (a b : Int32) : Int32 := itF (tkF σ a b) 0 30 0
theorem takenIn_eq {n : Nat} (hn : 31 ≤ n) (σ : St) (a b : Int32) : fX3_takenIn n σ a b = some (tk σ a b) := by
  unfold fX3_takenIn
  refine lz2_for (N := 30) (F := tkF σ a b) (k := some) (fun go acc => ?_) (fun go i acc hi => ?_) 30 0 0 n rfl (by omega)
  · unfold fX3_takenIn_b5
    exact if_pos (by decide)
  · have h1 : ¬ (30 : Int32) ≤ nI i := nI_ge hi (by decide)
    simp only [fX3_takenIn_b5, if_neg h1, rd_nI _ hi (by decide : 30 < 2 ^ 31), sb, tkF, nI_1]
    split
    · rfl
    · split <;> rfl
theorem and_or0 (x y z : Int32) : (x ||| y) &&& z = 0 ↔ x &&& z = 0 ∧ y &&& z = 0 := by
  simp only [← Int32.toBitVec_inj, Int32.toBitVec_and, Int32.toBitVec_or]
  constructor
  · intro h
    constructor
    · apply BitVec.eq_of_getLsbD_eq
      intro i hi
      have := congrArg (fun v => BitVec.getLsbD v i) h
      simp at this ⊢
      intro h1
      cases hz : (Int32.toBitVec z).getLsbD i <;> simp_all
    · apply BitVec.eq_of_getLsbD_eq
      intro i hi
      have := congrArg (fun v => BitVec.getLsbD v i) h
      simp at this ⊢
      intro h1
      cases hz : (Int32.toBitVec z).getLsbD i <;> simp_all
  · rintro ⟨h1, h2⟩
    apply BitVec.eq_of_getLsbD_eq
    intro i hi
    have e1 := congrArg (fun v => BitVec.getLsbD v i) h1
    have e2 := congrArg (fun v => BitVec.getLsbD v i) h2
    simp at e1 e2 ⊢
    intro h
    rcases h with h | h
    · exact e1 h
    · exact e2 h
end
section
/-! MATHEMATICS 2: blocks and masks; the lowest clear block -/
/-- the mask of the block of order o at processor f -/
def mk (o f : Nat) : Int32 := (ush (-1 : Int32) ((32 : Int32) - ((1 : Int32) <<< (nI o &&& 31)))) <<< (nI f &&& 31)
theorem mk_eq (n o f : Nat) : fX4_blockMask n (nI o) (nI f) = some (mk o f) := rfl
theorem mk_shift : ∀ o, o < 6 → ∀ i, i < 32 / 2 ^ o → ((ush (-1 : Int32) ((32 : Int32) - ((1 : Int32) <<< (nI o &&& 31)))) <<< ((0 : Int32) &&& 31)) <<< ((nI i <<< (nI o &&& 31)) &&& 31) = mk o (i * 2 ^ o) := by decide +kernel
theorem sh_32 : ∀ o, o < 6 → (32 : Int32) >>> (nI o &&& 31) = nI (32 / 2 ^ o) := by decide +kernel
theorem sh_l : ∀ o, o < 6 → ∀ i, i < 64 → nI i <<< (nI o &&& 31) = nI (i * 2 ^ o) := by decide +kernel
theorem sh_1 : ∀ o, o < 6 → (1 : Int32) <<< (nI o &&& 31) = nI (2 ^ o) := by decide +kernel
theorem mk_ne : ∀ o, o < 6 → ∀ i, i < 32 / 2 ^ o → mk o (i * 2 ^ o) ≠ 0 := by decide +kernel
theorem mk_ov : ∀ o1, o1 < 6 → ∀ o2, o2 < 6 → ∀ i1, i1 < 32 / 2 ^ o1 → ∀ i2, i2 < 32 / 2 ^ o2 → (mk o1 (i1 * 2 ^ o1) &&& mk o2 (i2 * 2 ^ o2) = 0 ↔ ¬ (i1 * 2 ^ o1 < i2 * 2 ^ o2 + 2 ^ o2 ∧ i2 * 2 ^ o2 < i1 * 2 ^ o1 + 2 ^ o1)) := by decide +kernel
/-- the first place from i on, of d places, where P holds -/
def ffd (P : Nat → Bool) : Nat → Nat → Option Nat
  | _, 0 => none
  | i, d + 1 => if P i = true then some i else ffd P (i + 1) d
theorem ffd_congr {P Q : Nat → Bool} : ∀ (d i : Nat), (∀ k, i ≤ k → k < i + d → P k = Q k) → ffd P i d = ffd Q i d
  | 0, _, _ => rfl
  | d + 1, i, h => by
    have h1 : P i = Q i := h i (Nat.le_refl i) (by omega)
    have h2 := ffd_congr d (i + 1) (fun k a b => h k (by omega) (by omega))
    show (if P i = true then some i else ffd P (i + 1) d) = (if Q i = true then some i else ffd Q (i + 1) d)
    rw [h1, h2]
theorem ffd_some {P : Nat → Bool} : ∀ (d i k : Nat), ffd P i d = some k → i ≤ k ∧ k < i + d ∧ P k = true
  | 0, _, _, h => by cases h
  | d + 1, i, k, h => by
    by_cases c : P i = true
    · have h : some i = some k := by
        rw [← h]
        show some i = if P i = true then some i else ffd P (i + 1) d
        rw [if_pos c]
      cases h
      exact ⟨Nat.le_refl _, by omega, c⟩
    · have h : ffd P (i + 1) d = some k := by
        rw [← h]
        show _ = if P i = true then some i else ffd P (i + 1) d
        rw [if_neg c]
      obtain ⟨a, b, e⟩ := ffd_some d (i + 1) k h
      exact ⟨by omega, by omega, e⟩
theorem ffd_none {P : Nat → Bool} : ∀ (d i : Nat), ffd P i d = none ↔ ∀ k, i ≤ k → k < i + d → P k = false
  | 0, i => ⟨fun _ k a b => absurd b (by omega), fun _ => rfl⟩
  | d + 1, i => by
    show (if P i = true then some i else ffd P (i + 1) d) = none ↔ _
    by_cases c : P i = true
    · rw [if_pos c]
      constructor
      · intro h; cases h
      · intro h
        have := h i (Nat.le_refl _) (by omega)
        rw [c] at this
        cases this
    · rw [if_neg c, ffd_none d (i + 1)]
      have c' : P i = false := by cases hP : P i <;> simp_all
      constructor
      · intro h k a b
        rcases Nat.lt_or_ge i k with q | q
        · exact h k (by omega) (by omega)
        · have : k = i := by omega
          rw [this]; exact c'
      · intro h k a b
        exact h k (by omega) (by omega)
def resB (o : Nat) (x : Option Nat) : Int32 := match x with | none => -1 | some i => nI (i * 2 ^ o)
theorem lowestClear_eq {n : Nat} (hn : 33 ≤ n) (t : Int32) {o : Nat} (ho : o < 6) : fX4_lowestClear n t (nI o) = some (resB o (ffd (fun i => decide (t &&& mk o (i * 2 ^ o) = 0)) 0 (32 / 2 ^ o))) := by
  have hB : 32 / 2 ^ o ≤ 32 := Nat.div_le_self _ _
  have key : ∀ (d i fu : Nat), i + d = 32 / 2 ^ o → d < fu → lz1 (fX4_lowestClear_b8 t (nI o) ((ush (-1 : Int32) ((32 : Int32) - ((1 : Int32) <<< (nI o &&& 31)))) <<< ((0 : Int32) &&& 31))) fu (nI i) = some (resB o (ffd (fun i => decide (t &&& mk o (i * 2 ^ o) = 0)) i d)) := by
    intro d
    induction d with
    | zero =>
      intro i fu h hf
      obtain ⟨fu, rfl⟩ : ∃ z, fu = z + 1 := ⟨fu - 1, by omega⟩
      have hi : i = 32 / 2 ^ o := by omega
      rw [lz1_s, fX4_lowestClear_b8]
      rw [sh_32 o ho, if_pos (by rw [hi]; exact nI_le (Nat.le_refl _) (by omega))]
      rfl
    | succ d ih =>
      intro i fu h hf
      obtain ⟨fu, rfl⟩ : ∃ z, fu = z + 1 := ⟨fu - 1, by omega⟩
      rw [lz1_s, fX4_lowestClear_b8]
      rw [sh_32 o ho, if_neg (nI_ge (by omega) (by omega)), mk_shift o ho i (by omega), sh_l o ho i (by omega), nI_1]
      show _ = some (resB o (if (decide (t &&& mk o (i * 2 ^ o) = 0)) = true then some i else ffd _ (i + 1) d))
      by_cases c : t &&& mk o (i * 2 ^ o) = 0
      · rw [if_pos c, if_pos (decide_eq_true c)]
        rfl
      · rw [if_neg c, if_neg (fun q => c (of_decide_eq_true q))]
        exact ih (i + 1) fu (by omega) (by omega)
  exact key (32 / 2 ^ o) 0 n (by omega) (by omega)
theorem tk_clear (σ : St) (a b M : Int32) : tk σ a b &&& M = 0 ↔ ∀ k, k < 30 → ¬ b < σ 2 k → ¬ σ 3 k ≤ a → σ 0 k &&& M = 0 := by
  have key : ∀ d : Nat, itF (tkF σ a b) 0 d 0 &&& M = 0 ↔ ∀ k, k < d → ¬ b < σ 2 k → ¬ σ 3 k ≤ a → σ 0 k &&& M = 0 := by
    intro d
    induction d with
    | zero => exact ⟨fun _ k hk => absurd hk (Nat.not_lt_zero k), fun _ => by show (0 : Int32) &&& M = 0; simp⟩
    | succ d ih =>
      rw [itF_last, Nat.zero_add, tkF]
      by_cases c1 : b < σ 2 d
      · rw [if_pos c1, ih]
        constructor
        · intro h k hk h1 h2
          rcases Nat.lt_or_ge k d with q | q
          · exact h k q h1 h2
          · have : k = d := by omega
            subst this
            exact absurd c1 h1
        · intro h k hk
          exact h k (by omega)
      · rw [if_neg c1]
        by_cases c2 : σ 3 d ≤ a
        · rw [if_pos c2, ih]
          constructor
          · intro h k hk h1 h2
            rcases Nat.lt_or_ge k d with q | q
            · exact h k q h1 h2
            · have : k = d := by omega
              subst this
              exact absurd c2 h2
          · intro h k hk
            exact h k (by omega)
        · rw [if_neg c2, and_or0, ih]
          constructor
          · intro h k hk h1 h2
            rcases Nat.lt_or_ge k d with q | q
            · exact h.1 k q h1 h2
            · have : k = d := by omega
              subst this
              exact h.2
          · intro h
            exact ⟨fun k hk => h k (by omega), h d (by omega) c1 c2⟩
  exact key 30
end
section
/-! MATHEMATICS 3: the next end of an allocation -/
def neF (σ : St) (u : Int32) (k : Nat) (acc : Int32) : Int32 := if σ 0 k = 0 then acc else if σ 3 k ≤ u then acc else if acc = u then σ 3 k else if acc ≤ σ 3 k then acc else σ 3 k
def ne (σ : St) (u : Int32) : Int32 := itF (neF σ u) 0 30 u
theorem nextEnd_eq {n : Nat} (hn : 31 ≤ n) (σ : St) (u : Int32) : fX3_nextEnd n σ u = some (ne σ u) := by
  unfold fX3_nextEnd
  refine lz2_for (N := 30) (F := neF σ u) (k := some) (fun go acc => ?_) (fun go i acc hi => ?_) 30 0 u n rfl (by omega)
  · rw [fX3_nextEnd_b4]
    exact if_pos (by decide)
  · have h1 : ¬ (30 : Int32) ≤ nI i := nI_ge hi (by decide)
    simp only [fX3_nextEnd_b4, if_neg h1, rd_nI _ hi (by decide : 30 < 2 ^ 31), sb, neF, nI_1]
    split
    · rfl
    · split
      · rfl
      · split
        · rfl
        · split <;> rfl
/-- what the next end is: nothing behind u, or the least end behind it -/
def neP (σ : St) (u : Int32) (d : Nat) (x : Int32) : Prop :=
  (x = u ∧ ∀ k, k < d → σ 0 k ≠ 0 → σ 3 k ≤ u) ∨ (u < x ∧ (∃ k, k < d ∧ σ 0 k ≠ 0 ∧ σ 3 k = x) ∧ ∀ k, k < d → σ 0 k ≠ 0 → u < σ 3 k → x ≤ σ 3 k)
theorem ne_spec (σ : St) (u : Int32) : neP σ u 30 (ne σ u) := by
  have key : ∀ d : Nat, neP σ u d (itF (neF σ u) 0 d u) := by
    intro d
    induction d with
    | zero => exact Or.inl ⟨rfl, fun k hk => absurd hk (Nat.not_lt_zero k)⟩
    | succ d ih =>
      rw [itF_last, Nat.zero_add, neF]
      generalize itF (neF σ u) 0 d u = x at ih
      have up : ∀ {Q : Nat → Prop}, (∀ k, k < d → Q k) → Q d → ∀ k, k < d + 1 → Q k := fun h1 h2 k hk => by
        rcases Nat.lt_or_ge k d with q | q
        · exact h1 k q
        · have : k = d := by omega
          rw [this]; exact h2
      by_cases c0 : σ 0 d = 0
      · rw [if_pos c0]
        rcases ih with ⟨h1, h2⟩ | ⟨h1, ⟨k, hk, h3⟩, h2⟩
        · exact Or.inl ⟨h1, up h2 (fun h => absurd c0 h)⟩
        · exact Or.inr ⟨h1, ⟨k, by omega, h3⟩, up h2 (fun h => absurd c0 h)⟩
      · rw [if_neg c0]
        by_cases c1 : σ 3 d ≤ u
        · rw [if_pos c1]
          rcases ih with ⟨h1, h2⟩ | ⟨h1, ⟨k, hk, h3⟩, h2⟩
          · exact Or.inl ⟨h1, up h2 (fun _ => c1)⟩
          · exact Or.inr ⟨h1, ⟨k, by omega, h3⟩, up h2 (fun _ h => absurd c1 (Int32.not_le.mpr h))⟩
        · rw [if_neg c1]
          have c1' : u < σ 3 d := Int32.not_le.mp c1
          by_cases c2 : x = u
          · rw [if_pos c2]
            rcases ih with ⟨h1, h2⟩ | ⟨h1, -, -⟩
            · exact Or.inr ⟨c1', ⟨d, by omega, c0, rfl⟩, up (fun k hk h3 h4 => absurd (h2 k hk h3) (Int32.not_le.mpr h4)) (fun _ _ => Int32.le_refl _)⟩
            · rw [c2] at h1
              exact absurd h1 Int32.lt_irrefl
          · rw [if_neg c2]
            rcases ih with ⟨h1, -⟩ | ⟨h1, ⟨k, hk, h3⟩, h2⟩
            · exact absurd h1 c2
            · by_cases c3 : x ≤ σ 3 d
              · rw [if_pos c3]
                exact Or.inr ⟨h1, ⟨k, by omega, h3⟩, up h2 (fun _ _ => c3)⟩
              · rw [if_neg c3]
                exact Or.inr ⟨c1', ⟨d, by omega, c0, rfl⟩, up (fun k hk h4 h5 => Int32.le_trans (Int32.le_of_lt (Int32.not_le.mp c3)) (h2 k hk h4 h5)) (fun _ _ => Int32.le_refl _)⟩
  exact key 30
end
section
/-! MATHEMATICS 4: the class' search for the earliest start -/
/-- some block of order o is clear of t -/
def okT (t : Int32) (o : Nat) : Bool := (ffd (fun i => decide (t &&& mk o (i * 2 ^ o) = 0)) 0 (32 / 2 ^ o)).isSome
def okC (σ : St) (o : Nat) (len s : Int32) : Bool := okT (tk σ s (s + len - 1)) o
def erN (σ : St) (o : Nat) (len : Int32) : Nat → Int32 → Int32
  | 0, s => s
  | d + 1, s => if okC σ o len s = true then s else erN σ o len d (ne σ s)
theorem resB_ne {o : Nat} (ho : o < 6) {x : Option Nat} (hx : ∀ i, x = some i → i < 32 / 2 ^ o) : resB o x = -1 ↔ x = none := by
  cases x with
  | none => exact ⟨fun _ => rfl, fun _ => rfl⟩
  | some i =>
    refine ⟨fun h => ?_, fun h => (by cases h)⟩
    exfalso
    have h1 : i < 32 / 2 ^ o := hx i rfl
    have h2 : i * 2 ^ o < 32 := Nat.lt_of_lt_of_le (Nat.mul_lt_mul_of_pos_right h1 (Nat.two_pow_pos o)) (Nat.div_mul_le_self 32 (2 ^ o))
    have h : nI (i * 2 ^ o) = -1 := h
    have h3 := nI_pos (n := i * 2 ^ o) (by omega)
    rw [h] at h3
    exact h3 (by decide)
theorem ffd_lt {P : Nat → Bool} {d k : Nat} (h : ffd P 0 d = some k) : k < d := by
  have := ffd_some d 0 k h
  omega
theorem earliest_eq {n : Nat} (hn : 33 ≤ n) (σ : St) {o : Nat} (ho : o < 6) (len : Int32) (s0 : Int32) : fX3_earliest n σ (nI o) s0 len = some (erN σ o len 30 s0) := by
  have key : ∀ (d i fu : Nat) (s : Int32), i + d = 30 → d < fu → lz2 (fX3_earliest_b6 n σ (nI o) len) fu (nI i) s = some (erN σ o len d s) := by
    intro d
    induction d with
    | zero =>
      intro i fu s h hf
      obtain ⟨fu, rfl⟩ : ∃ z, fu = z + 1 := ⟨fu - 1, by omega⟩
      have hi : i = 30 := by omega
      rw [lz2_s, fX3_earliest_b6, if_pos (by rw [hi]; decide)]
      rfl
    | succ d ih =>
      intro i fu s h hf
      obtain ⟨fu, rfl⟩ : ∃ z, fu = z + 1 := ⟨fu - 1, by omega⟩
      rw [lz2_s, fX3_earliest_b6, if_neg (show ¬ (30 : Int32) ≤ nI i from nI_ge (a := i) (b := 30) (by omega) (by decide)), takenIn_eq (by omega), sb, lowestClear_eq (by omega) _ ho, sb]
      show _ = some (if okC σ o len s = true then s else erN σ o len d (ne σ s))
      unfold okC okT
      generalize hx : ffd (fun i => decide (tk σ s (s + len - 1) &&& mk o (i * 2 ^ o) = 0)) 0 (32 / 2 ^ o) = x
      have hr := resB_ne (o := o) ho (x := x) (fun k hk => ffd_lt (by rw [hx]; exact hk))
      cases x with
      | none =>
        rw [if_pos (hr.mpr rfl), if_neg (by simp), nextEnd_eq (by omega), sb, nI_1]
        exact ih (i + 1) fu (ne σ s) (by omega) (by omega)
      | some k =>
        rw [if_neg (fun q => by cases hr.mp q)]
        rfl
  unfold fX3_earliest
  exact key 30 0 n s0 rfl (by omega)
end
