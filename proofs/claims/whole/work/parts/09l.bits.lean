/-! MATHEMATICS 19: bits, and how many there are -/
def tn (x : Int32) : Nat := x.toBitVec.toNat
theorem tn_lt (x : Int32) : tn x < 4294967296 := x.toBitVec.isLt
theorem tn_inj {x y : Int32} (h : tn x = tn y) : x = y := Int32.toBitVec_inj.mp (BitVec.eq_of_toNat_eq h)
theorem tn_and (x y : Int32) : tn (x &&& y) = tn x &&& tn y := by unfold tn; rw [Int32.toBitVec_and, BitVec.toNat_and]
theorem tn_add (x y : Int32) : tn (x + y) = (tn x + tn y) % 4294967296 := by unfold tn; rw [Int32.toBitVec_add, BitVec.toNat_add]
theorem tn_sub (x y : Int32) : tn (x - y) = (4294967296 - tn y + tn x) % 4294967296 := by unfold tn; rw [Int32.toBitVec_sub, BitVec.toNat_sub]
theorem tn_ush (x y : Int32) : tn (ush x y) = tn x >>> ((y.toUInt32 &&& Int32.toUInt32 31).toNat % 32) := by
  unfold tn ush
  show (x.toUInt32 >>> (y.toUInt32 &&& Int32.toUInt32 31)).toNat = _
  rw [UInt32.toNat_shiftRight]
  rfl
theorem sh_n : ∀ p, p < 32 → ((nI p).toUInt32 &&& Int32.toUInt32 31).toNat % 32 = p := by decide
theorem tn_nI {k : Nat} (h : k < 4294967296) : tn (nI k) = k := by
  unfold tn nI
  show (BitVec.ofNat 32 k).toNat = k
  rw [BitVec.toNat_ofNat]
  exact Nat.mod_eq_of_lt h
theorem tn_0 {x : Int32} : x = 0 ↔ tn x = 0 := ⟨fun h => by rw [h]; rfl, fun h => tn_inj h⟩
def j4 (a b c d : Nat) : Nat := a + 256 * (b + 256 * (c + 256 * d))
theorem land8 {a m B M : Nat} (ha : a < 256) (hm : m < 256) : (a + 256 * B) &&& (m + 256 * M) = (a &&& m) + 256 * (B &&& M) := by
  have h1 : ((a + 256 * B) &&& (m + 256 * M)) % 2 ^ 8 = (a + 256 * B) % 2 ^ 8 &&& (m + 256 * M) % 2 ^ 8 := Nat.and_mod_two_pow
  have h2 : ((a + 256 * B) &&& (m + 256 * M)) / 2 ^ 8 = (a + 256 * B) / 2 ^ 8 &&& (m + 256 * M) / 2 ^ 8 := Nat.and_div_two_pow
  rw [show (a + 256 * B) % 2 ^ 8 = a by omega, show (m + 256 * M) % 2 ^ 8 = m by omega] at h1
  rw [show (a + 256 * B) / 2 ^ 8 = B by omega, show (m + 256 * M) / 2 ^ 8 = M by omega] at h2
  rw [← h1, ← h2]
  omega
theorem land4 {a b c d m1 m2 m3 m4 : Nat} (ha : a < 256) (hb : b < 256) (hc : c < 256) (h1 : m1 < 256) (h2 : m2 < 256) (h3 : m3 < 256) : j4 a b c d &&& j4 m1 m2 m3 m4 = j4 (a &&& m1) (b &&& m2) (c &&& m3) (d &&& m4) := by
  unfold j4
  rw [land8 ha h1, land8 hb h2, land8 hc h3]
def f1 (a : Nat) : Nat := a - (a / 2 &&& 85)
def f2 (a : Nat) : Nat := (a &&& 51) + (a / 4 &&& 51)
def f3 (a : Nat) : Nat := (a + a / 16) % 16
theorem k1 : ∀ a, a < 256 → ∀ t, t < 2 → a / 2 + 128 * t &&& 85 = a / 2 &&& 85 := by decide +kernel
theorem k1' : ∀ a, a < 256 → (a / 2 &&& 85) ≤ a ∧ f1 a < 256 := by decide +kernel
theorem k2 : ∀ a, a < 256 → ∀ t, t < 4 → a / 4 + 64 * t &&& 51 = a / 4 &&& 51 := by decide +kernel
theorem k2' : ∀ a, a < 256 → f2 (f1 a) ≤ 68 ∧ f2 (f1 a) % 16 ≤ 4 ∧ f3 (f2 (f1 a)) ≤ 8 := by decide +kernel
theorem k3 : ∀ a, a < 256 → cnt (fun i => a.testBit i) 8 = f3 (f2 (f1 a)) := by decide +kernel
def q1 (x : Int32) : Int32 := x - (ush x 1 &&& 1431655765)
def q2 (x : Int32) : Int32 := (x &&& 858993459) + (ush x 2 &&& 858993459)
def q3 (x : Int32) : Int32 := (x + ush x 4) &&& 252645135
def q4 (x : Int32) : Int32 := x + ush x 8
def q5 (x : Int32) : Int32 := (x + ush x 16) &&& 63
theorem bc_q (n : Nat) (x : Int32) : fJ6_bitCount_0f7a4 n x = some (q5 (q4 (q3 (q2 (q1 x))))) := rfl
theorem sh_lit : ∀ p, p < 32 → ∀ (x : Int32), tn (ush x (nI p)) = tn x / 2 ^ p := fun p hp x => by
  rw [tn_ush, sh_n p hp, Nat.shiftRight_eq_div_pow]
theorem q1_j {x : Int32} {a b c d : Nat} (ha : a < 256) (hb : b < 256) (hc : c < 256) (hd : d < 256) (h : tn x = j4 a b c d) : tn (q1 x) = j4 (f1 a) (f1 b) (f1 c) (f1 d) := by
  have e : tn (ush x 1) = j4 a b c d / 2 := by rw [← h]; exact sh_lit 1 (by decide) x
  unfold q1
  rw [tn_sub, tn_and, e, h, show tn 1431655765 = j4 85 85 85 85 from rfl]
  rw [show j4 a b c d / 2 = j4 (a / 2 + 128 * (b % 2)) (b / 2 + 128 * (c % 2)) (c / 2 + 128 * (d % 2)) (d / 2) by unfold j4; omega]
  rw [land4 (by omega) (by omega) (by omega) (by decide) (by decide) (by decide), k1 a ha _ (by omega), k1 b hb _ (by omega), k1 c hc _ (by omega)]
  have := (k1' a ha).1
  have := (k1' b hb).1
  have := (k1' c hc).1
  have := (k1' d hd).1
  unfold f1 j4
  omega
theorem q2_j {x : Int32} {a b c d : Nat} (ha : a < 256) (hb : b < 256) (hc : c < 256) (hd : d < 256) (h : tn x = j4 a b c d) (h' : f2 a ≤ 68 ∧ f2 b ≤ 68 ∧ f2 c ≤ 68 ∧ f2 d ≤ 68) : tn (q2 x) = j4 (f2 a) (f2 b) (f2 c) (f2 d) := by
  have e : tn (ush x 2) = j4 a b c d / 4 := by rw [← h]; exact sh_lit 2 (by decide) x
  unfold q2
  rw [tn_add, tn_and, tn_and, e, h, show tn 858993459 = j4 51 51 51 51 from rfl]
  rw [show j4 a b c d / 4 = j4 (a / 4 + 64 * (b % 4)) (b / 4 + 64 * (c % 4)) (c / 4 + 64 * (d % 4)) (d / 4) by unfold j4; omega]
  rw [land4 (by omega) (by omega) (by omega) (by decide) (by decide) (by decide), land4 (by omega) (by omega) (by omega) (by decide) (by decide) (by decide), k2 a ha _ (by omega), k2 b hb _ (by omega), k2 c hc _ (by omega)]
  unfold f2 at h' ⊢
  unfold j4
  omega
theorem q3_j {x : Int32} {a b c d : Nat} (ha : a ≤ 68 ∧ a % 16 ≤ 4) (hb : b ≤ 68 ∧ b % 16 ≤ 4) (hc : c ≤ 68 ∧ c % 16 ≤ 4) (hd : d ≤ 68 ∧ d % 16 ≤ 4) (h : tn x = j4 a b c d) : tn (q3 x) = j4 (f3 a) (f3 b) (f3 c) (f3 d) := by
  have e : tn (ush x 4) = j4 a b c d / 16 := by rw [← h]; exact sh_lit 4 (by decide) x
  have m : ∀ z, z &&& 15 = z % 16 := fun z => Nat.and_two_pow_sub_one_eq_mod z 4
  unfold q3
  rw [tn_and, tn_add, e, h, show tn 252645135 = j4 15 15 15 15 from rfl]
  rw [show (j4 a b c d + j4 a b c d / 16) % 4294967296 = j4 (a + a / 16 + 16 * (b % 16)) (b + b / 16 + 16 * (c % 16)) (c + c / 16 + 16 * (d % 16)) (d + d / 16) by unfold j4; omega]
  rw [land4 (by omega) (by omega) (by omega) (by decide) (by decide) (by decide), m, m, m, m]
  unfold f3 j4
  omega
theorem q45_j {x : Int32} {a b c d : Nat} (ha : a ≤ 8) (hb : b ≤ 8) (hc : c ≤ 8) (hd : d ≤ 8) (h : tn x = j4 a b c d) : tn (q5 (q4 x)) = a + b + c + d := by
  have e : tn (ush x 8) = j4 a b c d / 256 := by rw [← h]; exact sh_lit 8 (by decide) x
  have e4 : tn (q4 x) = j4 (a + b) (b + c) (c + d) d := by
    unfold q4
    rw [tn_add, e, h]
    unfold j4
    omega
  have e5 : tn (ush (q4 x) 16) = j4 (a + b) (b + c) (c + d) d / 65536 := by rw [← e4]; exact sh_lit 16 (by decide) _
  have m : ∀ z, z &&& 63 = z % 64 := fun z => Nat.and_two_pow_sub_one_eq_mod z 6
  unfold q5
  have e6 : j4 (a + b) (b + c) (c + d) d / 65536 = c + d + 256 * d := by unfold j4; omega
  rw [tn_and, tn_add, e5, e4, show tn 63 = 63 from rfl, m, e6]
  have e7 : (j4 (a + b) (b + c) (c + d) d + (c + d + 256 * d)) % 4294967296 = (a + b + c + d) + 64 * (4 * (b + c + 256 * (c + d + 256 * d)) + 4 * d) := by unfold j4; omega
  rw [e7, Nat.add_mul_mod_self_left]
  omega
theorem cnt_app (P : Nat → Bool) (d1 : Nat) : ∀ d2, cnt P (d1 + d2) = cnt P d1 + cnt (fun i => P (d1 + i)) d2
  | 0 => rfl
  | d2 + 1 => by
    show cnt P (d1 + d2) + (if P (d1 + d2) = true then 1 else 0) = cnt P d1 + (cnt (fun i => P (d1 + i)) d2 + (if P (d1 + d2) = true then 1 else 0))
    rw [cnt_app P d1 d2]
    omega
theorem cnt_congr {P Q : Nat → Bool} : ∀ d, (∀ k, k < d → P k = Q k) → cnt P d = cnt Q d
  | 0, _ => rfl
  | d + 1, h => by
    unfold cnt
    rw [cnt_congr d (fun k hk => h k (by omega)), h d (by omega)]
theorem tb8 (N s : Nat) {i : Nat} (hi : i < 8) : N.testBit (s + i) = (N / 2 ^ s % 2 ^ 8).testBit i := by
  rw [Nat.testBit_mod_two_pow, Nat.testBit_div_two_pow, decide_eq_true hi, Bool.true_and]
  congr 1
  omega
theorem bc_cnt (n : Nat) (x : Int32) : fJ6_bitCount_0f7a4 n x = some (nI (cnt (fun p => (tn x).testBit p) 32)) := by
  have hx := tn_lt x
  have h : tn x = j4 (tn x / 2 ^ 0 % 2 ^ 8) (tn x / 2 ^ 8 % 2 ^ 8) (tn x / 2 ^ 16 % 2 ^ 8) (tn x / 2 ^ 24 % 2 ^ 8) := by unfold j4; omega
  have hc : cnt (fun p => (tn x).testBit p) 32 = cnt (fun i => (tn x / 2 ^ 0 % 2 ^ 8).testBit i) 8 + cnt (fun i => (tn x / 2 ^ 8 % 2 ^ 8).testBit i) 8 + cnt (fun i => (tn x / 2 ^ 16 % 2 ^ 8).testBit i) 8 + cnt (fun i => (tn x / 2 ^ 24 % 2 ^ 8).testBit i) 8 := by
    rw [show 32 = 24 + 8 from rfl, cnt_app, show 24 = 16 + 8 from rfl, cnt_app, show 16 = 8 + 8 from rfl, cnt_app]
    rw [cnt_congr (P := fun p => (tn x).testBit p) (Q := fun i => (tn x / 2 ^ 0 % 2 ^ 8).testBit i) 8 (fun k hk => by rw [← tb8 (tn x) 0 hk, Nat.zero_add])]
    rw [cnt_congr (P := fun i => (tn x).testBit (8 + i)) (Q := fun i => (tn x / 2 ^ 8 % 2 ^ 8).testBit i) 8 (fun k hk => tb8 (tn x) 8 hk)]
    rw [cnt_congr (P := fun i => (tn x).testBit (8 + 8 + i)) (Q := fun i => (tn x / 2 ^ (8 + 8) % 2 ^ 8).testBit i) 8 (fun k hk => tb8 (tn x) (8 + 8) hk)]
    rw [cnt_congr (P := fun i => (tn x).testBit (8 + 8 + 8 + i)) (Q := fun i => (tn x / 2 ^ (8 + 8 + 8) % 2 ^ 8).testBit i) 8 (fun k hk => tb8 (tn x) (8 + 8 + 8) hk)]
  have ha : tn x / 2 ^ 0 % 2 ^ 8 < 256 := Nat.mod_lt _ (by decide)
  have hb : tn x / 2 ^ 8 % 2 ^ 8 < 256 := Nat.mod_lt _ (by decide)
  have hd : tn x / 2 ^ 16 % 2 ^ 8 < 256 := Nat.mod_lt _ (by decide)
  have he : tn x / 2 ^ 24 % 2 ^ 8 < 256 := Nat.mod_lt _ (by decide)
  rw [bc_q, hc, k3 _ ha, k3 _ hb, k3 _ hd, k3 _ he]
  generalize tn x / 2 ^ 0 % 2 ^ 8 = a at h ha
  generalize tn x / 2 ^ 8 % 2 ^ 8 = b at h hb
  generalize tn x / 2 ^ 16 % 2 ^ 8 = c at h hd
  generalize tn x / 2 ^ 24 % 2 ^ 8 = d at h he
  have a2 := k2' a ha
  have b2 := k2' b hb
  have c2 := k2' c hd
  have d2 := k2' d he
  congr 1
  apply tn_inj
  rw [tn_nI (by omega)]
  exact q45_j a2.2.2 b2.2.2 c2.2.2 d2.2.2 (q3_j ⟨a2.1, a2.2.1⟩ ⟨b2.1, b2.2.1⟩ ⟨c2.1, c2.2.1⟩ ⟨d2.1, d2.2.1⟩ (q2_j (k1' a ha).2 (k1' b hb).2 (k1' c hd).2 (k1' d he).2 (q1_j ha hb hd he h) ⟨a2.1, b2.1, c2.1, d2.1⟩))
theorem cnt_not (P : Nat → Bool) : ∀ d, cnt (fun p => !P p) d + cnt P d = d
  | 0 => rfl
  | d + 1 => by
    have := cnt_not P d
    unfold cnt
    cases h : P d
    · simp; omega
    · simp; omega
theorem and_bit {x : Int32} {p : Nat} (hp : p < 32) : x &&& mk 0 p = 0 ↔ (tn x).testBit p = false := by
  have e : ∀ p, p < 32 → tn (mk 0 p) = 2 ^ p := by decide +kernel
  rw [tn_0, tn_and, e p hp]
  constructor
  · intro h
    have h1 := congrArg (fun z => z.testBit p) h
    simp only [Nat.testBit_and, Nat.zero_testBit, Nat.testBit_two_pow_self, Bool.and_true] at h1
    exact h1
  · intro h
    apply Nat.eq_of_testBit_eq
    intro q
    rw [Nat.testBit_and, Nat.zero_testBit]
    by_cases z : p = q
    · rw [← z, h, Bool.false_and]
    · rw [Nat.testBit_two_pow_of_ne z, Bool.and_false]
theorem ush_bit {x : Int32} {p : Nat} (hp : p < 32) : (ush x (nI p) &&& 1) = 0 ↔ x &&& mk 0 p = 0 := by
  rw [and_bit hp, tn_0, tn_and, sh_lit p hp, show tn 1 = 1 from rfl, Nat.and_one_is_mod, Nat.testBit_eq_decide_div_mod_eq]
  constructor
  · intro h; exact decide_eq_false (by omega)
  · intro h
    have := of_decide_eq_false h
    omega
theorem blk_bits : ∀ o, o < 6 → ∀ i, i < 32 / 2 ^ o → ∀ p, p < 32 → (tn (mk o (i * 2 ^ o))).testBit p = decide (i * 2 ^ o ≤ p ∧ p < i * 2 ^ o + 2 ^ o) := by decide +kernel
theorem blk_and {x : Int32} {o i : Nat} (ho : o < 6) (hi : i < 32 / 2 ^ o) : x &&& mk o (i * 2 ^ o) = 0 ↔ ∀ t, t < 2 ^ o → x &&& mk 0 (i * 2 ^ o + t) = 0 := by
  have hb := blk_le hi
  constructor
  · intro h t ht
    rw [tn_0, tn_and] at h
    rw [and_bit (by omega)]
    have h1 := congrArg (fun z => z.testBit (i * 2 ^ o + t)) h
    simp only [Nat.testBit_and, Nat.zero_testBit, blk_bits o ho i hi (i * 2 ^ o + t) (by omega)] at h1
    rw [decide_eq_true ⟨by omega, by omega⟩, Bool.and_true] at h1
    exact h1
  · intro h
    rw [tn_0, tn_and]
    apply Nat.eq_of_testBit_eq
    intro p
    rw [Nat.testBit_and, Nat.zero_testBit]
    by_cases q : p < 32
    · rw [blk_bits o ho i hi p q]
      by_cases s : i * 2 ^ o ≤ p ∧ p < i * 2 ^ o + 2 ^ o
      · have := h (p - i * 2 ^ o) (by omega)
        rw [show i * 2 ^ o + (p - i * 2 ^ o) = p by omega, and_bit q] at this
        rw [this, Bool.false_and]
      · rw [decide_eq_false s, Bool.and_false]
    · rw [Nat.testBit_lt_two_pow (x := tn x) (Nat.lt_of_lt_of_le (tn_lt x) (show 2 ^ 32 ≤ 2 ^ p from Nat.pow_le_pow_right (by decide) (by omega))), Bool.false_and]
theorem own_free (σ : St) {p : Nat} (hp : p < 32) (u : Int32) : ffd (owB σ p u) 0 30 = none ↔ tk σ u u &&& mk 0 p = 0 := by
  rw [ffd_none, tk_clear]
  constructor
  · intro h k hk h1 h2
    have h3 := of_decide_eq_false (h k (by omega) (by omega))
    rw [← ush_bit hp]
    by_cases q : (ush (σ 0 k) (nI p) &&& 1) = 0
    · exact q
    · exact absurd ⟨h1, h2, q⟩ h3
  · intro h k _ hk
    refine decide_eq_false (fun z => z.2.2 ((ush_bit hp).mpr (h k (by omega) z.1 z.2.1)))
