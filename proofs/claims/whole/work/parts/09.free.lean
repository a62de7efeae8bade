/-! MATHEMATICS 7: free blocks and earliest starts, class and reference -/
theorem ad_int {x y : Int32} (h1 : -2147483648 ≤ x.toInt + y.toInt) (h2 : x.toInt + y.toInt < 2147483648) : (x + y).toInt = x.toInt + y.toInt := by
  rw [Int32.toInt_add]
  exact Int.bmod_eq_of_le (by omega) (by omega)
theorem su_int {x y : Int32} (h1 : -2147483648 ≤ x.toInt - y.toInt) (h2 : x.toInt - y.toInt < 2147483648) : (x - y).toInt = x.toInt - y.toInt := by
  rw [Int32.toInt_sub]
  exact Int.bmod_eq_of_le (by omega) (by omega)
theorem lt_int {x y : Int32} : x < y ↔ x.toInt < y.toInt := Int32.lt_iff_toInt_lt
theorem le_int {x y : Int32} : x ≤ y ↔ x.toInt ≤ y.toInt := Int32.le_iff_toInt_le
theorem int_hi (x : Int32) : x.toInt < 2147483648 := by have := Int32.toInt_lt x; omega
theorem int_lo (x : Int32) : -2147483648 ≤ x.toInt := by have := Int32.le_toInt x; omega
theorem one_int : (1 : Int32).toInt = 1 := rfl
theorem pred_lt {b x : Int32} (h : -2147483648 < b.toInt) : b - 1 < x ↔ b ≤ x := by
  have h1 := int_hi b
  rw [lt_int, le_int, su_int (by rw [one_int]; omega) (by rw [one_int]; omega), one_int]
  omega
theorem blk_le {o i : Nat} (hi : i < 32 / 2 ^ o) : i * 2 ^ o + 2 ^ o ≤ 32 := by
  have h2 : (i + 1) * 2 ^ o ≤ 32 / 2 ^ o * 2 ^ o := Nat.mul_le_mul_right _ hi
  have h3 := Nat.div_mul_le_self 32 (2 ^ o)
  rw [Nat.add_mul, Nat.one_mul] at h2
  omega
theorem meets_eq (n : Nat) {o i o2 i2 : Nat} (ho : o < 6) (hi : i < 32 / 2 ^ o) (ho2 : o2 < 6) (hi2 : i2 < 32 / 2 ^ o2) (a b a2 b2 : Int32) : fX5_meets n (nI o) (nI (i * 2 ^ o)) a b (nI o2) (nI (i2 * 2 ^ o2)) a2 b2 = some (if ¬ b ≤ a2 ∧ ¬ b2 ≤ a ∧ ¬ mk o2 (i2 * 2 ^ o2) &&& mk o (i * 2 ^ o) = 0 then 1 else 0) := by
  have q1 := blk_le hi
  have q2 := blk_le hi2
  have p1 := Nat.two_pow_pos o
  have p2 := Nat.two_pow_pos o2
  have hm := mk_ov o2 ho2 o ho i2 hi2 i hi
  unfold fX5_meets
  rw [sh_1 o ho, sh_1 o2 ho2, nI_add, nI_add]
  by_cases c1 : i2 * 2 ^ o2 + 2 ^ o2 ≤ i * 2 ^ o
  · rw [if_pos (nI_le c1 (by omega)), if_neg (fun h => h.2.2 (hm.mpr (by omega)))]
  · rw [if_neg (nI_ge (by omega) (by omega))]
    by_cases c2 : i * 2 ^ o + 2 ^ o ≤ i2 * 2 ^ o2
    · rw [if_pos (nI_le c2 (by omega)), if_neg (fun h => h.2.2 (hm.mpr (by omega)))]
    · rw [if_neg (nI_ge (by omega) (by omega))]
      by_cases c3 : b2 ≤ a
      · rw [if_pos c3, if_neg (fun h => h.2.1 c3)]
      · rw [if_neg c3]
        by_cases c4 : b ≤ a2
        · rw [if_pos c4, if_neg (fun h => h.1 c4)]
        · rw [if_neg c4, if_pos ⟨c4, c3, fun h => hm.mp h (by omega)⟩]
/-- slot k is in the way of the block M from a to its last unit b -/
def cfB (σ : St) (a b M : Int32) (k : Nat) : Bool := decide (¬ b < σ 2 k ∧ ¬ σ 3 k ≤ a ∧ ¬ σ 0 k &&& M = 0)
theorem z_and (M : Int32) : (0 : Int32) &&& M = 0 := by simp
theorem cf_0 {σ : St} {k : Nat} (h : σ 0 k = 0) (a b M : Int32) : cfB σ a b M k = false := by
  unfold cfB
  rw [h, z_and]
  simp
theorem HS_cf {n E : Nat} {σ : St} {k : Nat} {O F S L : Int32} (hs : HS E σ k O F S L) {o i : Nat} (ho : o < 6) (hi : i < 32 / 2 ^ o) (a : Int32) {b : Int32} (hb : -2147483648 < b.toInt) : fX5_meets n (nI o) (nI (i * 2 ^ o)) a b O F S (S + L) = some (if cfB σ a (b - 1) (mk o (i * 2 ^ o)) k = true then 1 else 0) := by
  obtain ⟨o2, i2, h1, h2, h3, h4, h5, h6, h7, h8, h9⟩ := hs
  rw [h3, h4, meets_eq n ho hi h1 h2]
  unfold cfB
  rw [h5, h7, h8]
  congr 1
  have e := pred_lt (x := S) hb
  by_cases q : ¬ b ≤ S ∧ ¬ S + L ≤ a ∧ ¬ mk o2 (i2 * 2 ^ o2) &&& mk o (i * 2 ^ o) = 0
  · rw [if_pos q, if_pos (decide_eq_true ⟨fun h => q.1 (e.mp h), q.2⟩)]
  · rw [if_neg q, if_neg (fun h => q ⟨fun h' => (of_decide_eq_true h).1 (e.mpr h'), (of_decide_eq_true h).2⟩)]
theorem isAlloc_eq (n : Nat) (τ : St) {j : Nat} (hj : j < 24) : fX5_isAllocated n τ (nI j) = some (if (2 : Int32) ≤ τ 0 (5 + 14 * j + 4) then 0 else 1) := by
  unfold fX5_isAllocated
  rw [of4 n τ hj, sb]
  split <;> rfl
theorem i10 : ¬ (1 : Int32) = 0 := by decide
theorem isFree_j {n : Nat} {c r : Nat} {D : Nat → Nat → Prop} {m E : Nat} {σ τ : St} (h : R0 c r D m E σ (τ 0)) {o i : Nat} (ho : o < 6) (hi : i < 32 / 2 ^ o) (a : Int32) {b : Int32} (hb : -2147483648 < b.toInt) (go : Int32 → Option Int32) {j : Nat} (hj : j < c) : fX5_isFree_b3 n τ (nI o) (nI (i * 2 ^ o)) a b go (nI j) = if cfB σ a (b - 1) (mk o (i * 2 ^ o)) j = true then some 0 else go (nI (j + 1)) := by
  have hc : c ≤ 24 := h.1.1
  have hj4 : j < 24 := by omega
  obtain ⟨-, -, hA, hN⟩ := h.2.1 j hj4
  unfold fX5_isFree_b3
  rw [g1, sb, h.1.2.2.2.1, if_neg (nI_ge hj (by omega)), isAlloc_eq n τ hj4, sb, nI_1]
  by_cases q : (2 : Int32) ≤ τ 0 (5 + 14 * j + 4)
  · rw [if_pos q, if_pos rfl, cf_0 (hN (fun h => h.2 q)), if_neg (by decide)]
  · rw [if_neg q, if_neg i10, of1 n τ hj4, sb, of5 n τ hj4, sb, of6 n τ hj4, sb, sb, of2 n τ hj4, sb, HS_cf (hA hj q) ho hi a hb, sb]
    by_cases p : cfB σ a (b - 1) (mk o (i * 2 ^ o)) j = true
    · rw [if_pos p, if_neg i10, if_pos p]
    · rw [if_neg p, if_pos rfl, if_neg p]
theorem isFree_r {n : Nat} {c r : Nat} {D : Nat → Nat → Prop} {m E : Nat} {σ τ : St} (h : R0 c r D m E σ (τ 0)) {o i : Nat} (ho : o < 6) (hi : i < 32 / 2 ^ o) (a : Int32) {b : Int32} (hb : -2147483648 < b.toInt) (go : Int32 → Option Int32) {q : Nat} (hq : q < r) : fX5_isFree_b83 n τ (nI o) (nI (i * 2 ^ o)) a b go (nI q) = if cfB σ a (b - 1) (mk o (i * 2 ^ o)) (24 + q) = true then some 0 else go (nI (q + 1)) := by
  have hr : r ≤ 6 := h.1.2.1
  have hq6 : q < 6 := by omega
  obtain ⟨⟨l, hl, el, -⟩, hA, hN⟩ := h.2.2.1 q hq6
  unfold fX5_isFree_b83
  rw [g2, sb, h.1.2.2.2.2.2.1, if_neg (nI_ge hq (by omega)), rs3 n τ hq6, sb, nI_1]
  have e0 : τ 0 (341 + 4 * q + 3) ≤ 0 ↔ τ 0 (341 + 4 * q + 3) = 0 := by
    rw [el]
    constructor
    · intro h
      have := (nI_leI (a := l) (b := 0) (by omega) (by omega)).mp h
      have : l = 0 := by omega
      rw [this]; rfl
    · intro h; rw [h]; decide
  by_cases p : τ 0 (341 + 4 * q + 3) = 0
  · rw [if_pos (e0.mpr p), cf_0 (hN (fun h => h.2 p)), if_neg (by decide)]
  · rw [if_neg (fun h => p (e0.mp h)), rs0 n τ hq6, sb, rs1 n τ hq6, sb, rs2 n τ hq6, sb, sb, sb, HS_cf (hA hq p) ho hi a hb, sb]
    by_cases p : cfB σ a (b - 1) (mk o (i * 2 ^ o)) (24 + q) = true
    · rw [if_pos p, if_neg i10, if_pos p]
    · rw [if_neg p, if_pos rfl, if_neg p]
theorem tk_cf (σ : St) (a b M : Int32) : tk σ a b &&& M = 0 ↔ ∀ k, k < 30 → cfB σ a b M k = false := by
  rw [tk_clear]
  constructor
  · intro h k hk
    cases hc : cfB σ a b M k with
    | false => rfl
    | true =>
      have := of_decide_eq_true hc
      exact absurd (h k hk this.1 this.2.1) this.2.2
  · intro h k hk h1 h2
    have := h k hk
    by_cases q : σ 0 k &&& M = 0
    · exact q
    · have p : cfB σ a b M k = true := decide_eq_true ⟨h1, h2, q⟩
      rw [this] at p
      cases p
theorem slot_hi {c r : Nat} {D : Nat → Nat → Prop} {m E : Nat} {σ : St} {a : Nat → Int32} (h : R0 c r D m E σ a) {k : Nat} (hk : k < 30) (h1 : ¬ k < c) (h2 : ¬ (24 ≤ k ∧ k < 24 + r)) : σ 0 k = 0 := by
  rcases Nat.lt_or_ge k 24 with q | q
  · exact (h.2.1 k q).2.2.2 (fun p => h1 p.1)
  · have := (h.2.2.1 (k - 24) (by omega)).2.2 (fun p => h2 ⟨q, by omega⟩)
    rw [show 24 + (k - 24) = k by omega] at this
    exact this
theorem isFree_eq {n : Nat} (hn : 26 ≤ n) {c r : Nat} {D : Nat → Nat → Prop} {m E : Nat} {σ τ : St} (h : R0 c r D m E σ (τ 0)) {o i : Nat} (ho : o < 6) (hi : i < 32 / 2 ^ o) (a : Int32) {b : Int32} (hb : -2147483648 < b.toInt) : fX5_isFree n τ (nI o) (nI (i * 2 ^ o)) a b = some (if tk σ a (b - 1) &&& mk o (i * 2 ^ o) = 0 then 1 else 0) := by
  have hc : c ≤ 24 := h.1.1
  have hr : r ≤ 6 := h.1.2.1
  have e2 : ∀ y, fX5_isFree_k3_80 n τ (nI o) (nI (i * 2 ^ o)) a b y = match ffd (fun q => cfB σ a (b - 1) (mk o (i * 2 ^ o)) (24 + q)) 0 r with | some _ => some 0 | none => some 1 := fun y =>
    lz1_fe (e := nI) (N := r) (P := fun q => cfB σ a (b - 1) (mk o (i * 2 ^ o)) (24 + q)) (X := fun _ => some 0) (Z := some 1) (fun go => by
      unfold fX5_isFree_b83
      rw [g2, sb, h.1.2.2.2.2.2.1, if_pos (nI_le (Nat.le_refl _) (by omega))]) (fun go q hq => isFree_r h ho hi a hb go hq) r 0 n (by omega) (by omega)
  have e1 := lz1_fe (b := fX5_isFree_b3 n τ (nI o) (nI (i * 2 ^ o)) a b) (e := nI) (N := c) (P := cfB σ a (b - 1) (mk o (i * 2 ^ o))) (X := fun _ => some 0) (Z := match ffd (fun q => cfB σ a (b - 1) (mk o (i * 2 ^ o)) (24 + q)) 0 r with | some _ => some 0 | none => some 1) (fun go => by
      unfold fX5_isFree_b3
      rw [g1, sb, h.1.2.2.2.1, if_pos (nI_le (Nat.le_refl _) (by omega))]
      exact e2 _) (fun go q hq => isFree_j h ho hi a hb go hq) c 0 n (by omega) (by omega)
  unfold fX5_isFree
  refine e1.trans ?_
  have ht := tk_cf σ a (b - 1) (mk o (i * 2 ^ o))
  cases f1 : ffd (cfB σ a (b - 1) (mk o (i * 2 ^ o))) 0 c with
  | some k =>
    obtain ⟨-, p2, p3⟩ := ffd_some _ _ _ f1
    show some 0 = _
    rw [if_neg (fun q => by have := ht.mp q k (by omega); rw [p3] at this; cases this)]
  | none =>
    have g1 := (ffd_none _ _).mp f1
    cases f2 : ffd (fun q => cfB σ a (b - 1) (mk o (i * 2 ^ o)) (24 + q)) 0 r with
    | some k =>
      obtain ⟨-, p2, p3⟩ := ffd_some _ _ _ f2
      show some 0 = _
      rw [if_neg (fun q => by have := ht.mp q (24 + k) (by omega); rw [p3] at this; cases this)]
    | none =>
      have g2 := (ffd_none _ _).mp f2
      show some 1 = _
      rw [if_pos (ht.mpr (fun k hk => ?_))]
      by_cases q1 : k < c
      · exact g1 k (by omega) (by omega)
      · by_cases q2 : 24 ≤ k ∧ k < 24 + r
        · have := g2 (k - 24) (by omega) (by omega)
          rw [show 24 + (k - 24) = k by omega] at this
          exact this
        · exact cf_0 (slot_hi h hk q1 q2) _ _ _
/-- the place of the lowest clear block -/
def lw (σ : St) (o : Nat) (s len : Int32) : Option Nat := ffd (fun i => decide (tk σ s (s + len - 1) &&& mk o (i * 2 ^ o) = 0)) 0 (32 / 2 ^ o)
theorem lowestFree_eq {n : Nat} (hn : 33 ≤ n) (σ : St) {o : Nat} (ho : o < 6) (s len : Int32) : fX3_lowestFree n σ (nI o) s len = some (resB o (lw σ o s len)) := by
  unfold fX3_lowestFree
  rw [takenIn_eq (by omega), sb, lowestClear_eq (by omega) _ ho, sb]
  rfl
theorem div_mul6 : ∀ o, o < 6 → 32 / 2 ^ o * 2 ^ o = 32 := by decide
theorem lowest_eq {n : Nat} (hn : 33 ≤ n) {c r : Nat} {D : Nat → Nat → Prop} {m E : Nat} {σ τ : St} (h : R0 c r D m E σ (τ 0)) {o : Nat} (ho : o < 6) {s len : Int32} (hb : -2147483648 < (s + len).toInt) : fX5_lowest n τ (nI o) s len = some (resB o (lw σ o s len)) := by
  have hB : 32 / 2 ^ o ≤ 32 := Nat.div_le_self _ _
  have := lz1_fe (b := fX5_lowest_b3 n τ (nI o) s len) (e := fun i => nI (i * 2 ^ o)) (N := 32 / 2 ^ o) (P := fun i => decide (tk σ s (s + len - 1) &&& mk o (i * 2 ^ o) = 0)) (X := fun i => some (nI (i * 2 ^ o))) (Z := some (-1)) (fun go => by
    unfold fX5_lowest_b3
    rw [div_mul6 o ho, if_pos (by decide)]) (fun go i hi => by
    have q := blk_le hi
    have q' := Nat.two_pow_pos o
    unfold fX5_lowest_b3
    rw [if_neg (show ¬ (32 : Int32) ≤ nI (i * 2 ^ o) from nI_ge (b := 32) (by omega) (by decide)), isFree_eq (by omega) h ho hi s hb, sb, sh_1 o ho, nI_add, show i * 2 ^ o + 2 ^ o = (i + 1) * 2 ^ o by rw [Nat.add_mul, Nat.one_mul]]
    by_cases c : tk σ s (s + len - 1) &&& mk o (i * 2 ^ o) = 0
    · rw [if_pos c, if_neg i10, if_pos (decide_eq_true c)]
    · rw [if_neg c, if_pos rfl, if_neg (fun q => c (of_decide_eq_true q))]) (32 / 2 ^ o) 0 n (by omega) (by omega)
  rw [Nat.zero_mul] at this
  refine (show fX5_lowest n τ (nI o) s len = _ from this).trans ?_
  unfold lw
  cases ffd (fun i => decide (tk σ s (s + len - 1) &&& mk o (i * 2 ^ o) = 0)) 0 (32 / 2 ^ o) <;> rfl
theorem lw_lt {σ : St} {o : Nat} {s len : Int32} {i : Nat} (h : lw σ o s len = some i) : i < 32 / 2 ^ o := ffd_lt h
theorem resB_neg {σ : St} {o : Nat} (ho : o < 6) {s len : Int32} : resB o (lw σ o s len) < 0 ↔ lw σ o s len = none := by
  cases h : lw σ o s len with
  | none => exact ⟨fun _ => rfl, fun _ => (show (-1 : Int32) < 0 by decide)⟩
  | some i =>
    have := blk_le (lw_lt h)
    have p1 := Nat.two_pow_pos o
    exact ⟨fun q => absurd q (nI_pos (by omega)), fun q => by cases q⟩
theorem okC_lw (σ : St) (o : Nat) (len s : Int32) : okC σ o len s = (lw σ o s len).isSome := rfl
/-! the earliest start: the least unit, the clock or an end from it on, at which a block is clear -/
def cand (σ : St) (t : Int32) : Prop := t = σ 25 0 ∨ ∃ k, k < 30 ∧ ¬ σ 0 k = 0 ∧ σ 3 k = t ∧ σ 25 0 ≤ t
def least (σ : St) (o : Nat) (len t : Int32) : Prop := cand σ t ∧ okC σ o len t = true ∧ ∀ u, cand σ u → okC σ o len u = true → t ≤ u
def cnt (P : Nat → Bool) : Nat → Nat
  | 0 => 0
  | d + 1 => cnt P d + (if P d = true then 1 else 0)
theorem cnt_le (P : Nat → Bool) : ∀ d, cnt P d ≤ d
  | 0 => Nat.le_refl 0
  | d + 1 => by
    have := cnt_le P d
    unfold cnt
    split <;> omega
theorem cnt_mono {P Q : Nat → Bool} : ∀ d, (∀ k, k < d → Q k = true → P k = true) → cnt Q d ≤ cnt P d
  | 0, _ => Nat.le_refl 0
  | d + 1, h => by
    have h1 := cnt_mono d (fun k hk => h k (by omega))
    have h2 := h d (by omega)
    unfold cnt
    by_cases q : Q d = true
    · rw [if_pos q, if_pos (h2 q)]; omega
    · rw [if_neg q]; omega
theorem cnt_lt {P Q : Nat → Bool} : ∀ d, (∀ k, k < d → Q k = true → P k = true) → (∃ k, k < d ∧ P k = true ∧ Q k = false) → cnt Q d < cnt P d
  | 0, _, ⟨k, hk, _⟩ => absurd hk (Nat.not_lt_zero k)
  | d + 1, h, ⟨k, hk, e1, e2⟩ => by
    have h2 := h d (by omega)
    unfold cnt
    by_cases q : k = d
    · subst q
      have h1 := cnt_mono k (fun i hi => h i (by omega))
      rw [if_pos e1, if_neg (by rw [e2]; decide)]
      omega
    · have h1 := cnt_lt d (fun i hi => h i (by omega)) ⟨k, by omega, e1, e2⟩
      by_cases q : Q d = true
      · rw [if_pos q, if_pos (h2 q)]; omega
      · rw [if_neg q]; omega
theorem cnt_0 {P : Nat → Bool} : ∀ d, cnt P d = 0 → ∀ k, k < d → P k = false
  | 0, _, k, hk => absurd hk (Nat.not_lt_zero k)
  | d + 1, h, k, hk => by
    unfold cnt at h
    by_cases q : P d = true
    · rw [if_pos q] at h; omega
    · by_cases e : k = d
      · rw [e]; cases hp : P d with
        | false => rfl
        | true => exact absurd hp q
      · exact cnt_0 d (by omega) k (by omega)
def beh (σ : St) (s : Int32) (k : Nat) : Bool := decide (¬ σ 0 k = 0 ∧ s < σ 3 k)
theorem all_ok {σ : St} {o : Nat} (ho : o < 6) {len s : Int32} (h : ∀ k, k < 30 → beh σ s k = false) : okC σ o len s = true := by
  have h1 : ∀ M, tk σ s (s + len - 1) &&& M = 0 := fun M => (tk_clear _ _ _ _).mpr (fun k hk _ h2 => by
    by_cases q : σ 0 k = 0
    · rw [q, z_and]
    · have := h k hk
      rw [show beh σ s k = true from decide_eq_true ⟨q, Int32.not_le.mp h2⟩] at this
      cases this)
  rw [okC_lw]
  unfold lw
  cases hf : ffd (fun i => decide (tk σ s (s + len - 1) &&& mk o (i * 2 ^ o) = 0)) 0 (32 / 2 ^ o) with
  | some _ => rfl
  | none =>
    have := (ffd_none _ _).mp hf 0 (Nat.le_refl _) (by have : ∀ o, o < 6 → 0 < 0 + 32 / 2 ^ o := by decide
                                                       exact this o ho)
    rw [decide_eq_true (h1 _)] at this
    cases this
theorem erN_least {σ : St} {o : Nat} (ho : o < 6) {len : Int32} : ∀ (d : Nat) (s : Int32), cnt (beh σ s) 30 ≤ d → cand σ s → σ 25 0 ≤ s → (∀ u, cand σ u → okC σ o len u = true → s ≤ u) → least σ o len (erN σ o len d s) := by
  intro d
  induction d with
  | zero =>
    intro s hc h1 h2 h3
    show least σ o len s
    exact ⟨h1, all_ok ho (cnt_0 30 (by omega)), h3⟩
  | succ d ih =>
    intro s hc h1 h2 h3
    show least σ o len (if okC σ o len s = true then s else erN σ o len d (ne σ s))
    by_cases q : okC σ o len s = true
    · rw [if_pos q]
      exact ⟨h1, q, h3⟩
    · rw [if_neg q]
      rcases ne_spec σ s with ⟨-, h4⟩ | ⟨h4, ⟨k, hk, h5, h6⟩, h7⟩
      · refine absurd (all_ok ho (fun k hk => ?_)) q
        by_cases p : σ 0 k = 0
        · exact decide_eq_false (fun h => h.1 p)
        · exact decide_eq_false (fun h => absurd (h4 k hk p) (Int32.not_le.mpr h.2))
      · have hle : σ 25 0 ≤ ne σ s := Int32.le_trans h2 (Int32.le_of_lt h4)
        refine ih _ ?_ (Or.inr ⟨k, hk, h5, h6, hle⟩) hle (fun u hu hok => ?_)
        · have : cnt (beh σ (ne σ s)) 30 < cnt (beh σ s) 30 := cnt_lt 30 (fun i hi e => by
            have e := of_decide_eq_true e
            exact decide_eq_true ⟨e.1, Int32.lt_of_lt_of_le h4 (Int32.le_of_lt e.2)⟩) ⟨k, hk, decide_eq_true ⟨h5, by rw [h6]; exact h4⟩, decide_eq_false (fun e => by rw [h6] at e; exact Int32.lt_irrefl e.2)⟩
          omega
        · have h8 := h3 u hu hok
          have h9 : s ≠ u := fun e => by rw [← e] at hok; exact q hok
          have h10 : s < u := by rw [lt_int]; rw [le_int] at h8; have : s.toInt ≠ u.toInt := fun e => h9 (Int32.toInt_inj.mp e); omega
          rcases hu with hu | ⟨i, hi, e1, e2, e3⟩
          · rw [hu] at h10
            exact absurd h2 (Int32.not_le.mpr h10)
          · rw [← e2] at h10 ⊢
            exact h7 i hi e1 h10
theorem er_least {σ : St} {o : Nat} (ho : o < 6) (len : Int32) : least σ o len (erN σ o len 30 (σ 25 0)) :=
  erN_least ho 30 _ (cnt_le _ _) (Or.inl rfl) (Int32.le_refl _) (fun u hu _ => by
    rcases hu with hu | ⟨i, hi, e1, e2, e3⟩
    · rw [hu]; exact Int32.le_refl _
    · exact e3)
theorem least_uniq {σ : St} {o : Nat} {len t u : Int32} (h1 : least σ o len t) (h2 : least σ o len u) : t = u :=
  Int32.le_antisymm (h1.2.2 u h2.1 h2.2.1) (h2.2.2 t h1.1 h1.2.1)
