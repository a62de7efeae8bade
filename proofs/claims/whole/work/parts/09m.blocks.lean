/-! MATHEMATICS 20: free processors and blocks, the busiest block -/
theorem owner_sg {n : Nat} (hn : 31 ≤ n) {c r m E : Nat} {σ τ : St} (h : R0 c r DN m E σ (τ 0)) (hm : m ≤ 520) (hE : E + 40 + 9 * m < 2147483647) {p : Nat} (hp : p < 32) {u : Int32} (hu : ¬ u < 0) : ∃ v, fX5_owner n τ (nI p) u = some v ∧ (tk σ u u &&& mk 0 p = 0 → v < 0 ∧ ¬ 0 ≤ v) ∧ (¬ tk σ u u &&& mk 0 p = 0 → 0 ≤ v ∧ ¬ v < 0) := by
  have ho := owner_eq hn h hm hE (fun _ => id) hp hu
  have hf := own_free σ hp u
  cases hw : ffd (owB σ p u) 0 30 with
  | none =>
    rw [hw] at ho
    exact ⟨-1, ho, fun _ => by decide, fun z => absurd (hf.mp hw) z⟩
  | some k =>
    rw [hw] at ho
    have hk := ffd_lt hw
    refine ⟨_, ho, fun z => (by rw [hf.mpr z] at hw; cases hw), fun _ => ?_⟩
    by_cases q : k < 24
    · rw [if_pos q]; exact ⟨nI_pos' (by omega), nI_pos (by omega)⟩
    · rw [if_neg q]; exact ⟨nI_pos' (by omega), nI_pos (by omega)⟩
/-- how many processors are free in t -/
def nf (T : Int32) : Nat := cnt (fun p => decide (T &&& mk 0 p = 0)) 32
theorem nf_le (T : Int32) : nf T ≤ 32 := cnt_le _ _
def nfF (T : Int32) (p : Nat) (acc : Int32) : Int32 := if T &&& mk 0 p = 0 then acc + 1 else acc
theorem nf_it (T : Int32) : ∀ d, itF (nfF T) 0 d 0 = nI (cnt (fun p => decide (T &&& mk 0 p = 0)) d) := by
  intro d
  induction d with
  | zero => rfl
  | succ d ih =>
    rw [itF_last, Nat.zero_add, ih, nfF]
    show _ = nI (cnt (fun p => decide (T &&& mk 0 p = 0)) d + (if (decide (T &&& mk 0 d = 0)) = true then 1 else 0))
    by_cases q : T &&& mk 0 d = 0
    · rw [if_pos q, if_pos (decide_eq_true q), nI_1]
    · rw [if_neg q, if_neg (fun z => q (of_decide_eq_true z)), Nat.add_zero]
theorem frees_eq {n : Nat} (hn : 33 ≤ n) {c r m E : Nat} {σ τ : St} (h : R0 c r DN m E σ (τ 0)) (hm : m ≤ 520) (hE : E + 40 + 9 * m < 2147483647) {u : Int32} (hu : ¬ u < 0) : fX5_frees n τ u = some (nI (nf (tk σ u u))) := by
  unfold fX5_frees
  refine (lz2_for (N := 32) (F := nfF (tk σ u u)) (k := some) (fun go a => ?_) (fun go p a hp => ?_) 32 0 0 n rfl (by omega)).trans ?_
  · unfold fX5_frees_b4
    rw [if_pos (by decide)]
  · obtain ⟨v, o1, o2, o3⟩ := owner_sg (n := n) (by omega) h hm hE hp hu
    unfold fX5_frees_b4 nfF
    rw [if_neg (show ¬ (32 : Int32) ≤ nI p from nI_ge (b := 32) hp (by decide)), o1, sb, nI_1]
    by_cases q : tk σ u u &&& mk 0 p = 0
    · rw [if_neg (o2 q).2, if_pos q]
    · rw [if_pos (o3 q).1, if_neg q]
  · show some (itF (nfF (tk σ u u)) 0 32 0) = _
    rw [nf_it]; rfl
theorem sub32 : ∀ k, k ≤ 32 → (32 : Int32) - nI k = nI (32 - k) := by decide
theorem bc_nf (n : Nat) (T : Int32) : ∃ k, fJ6_bitCount_0f7a4 n T = some (nI k) ∧ (32 : Int32) - nI k = nI (nf T) := by
  refine ⟨_, bc_cnt n T, ?_⟩
  rw [sub32 _ (cnt_le _ _)]
  congr 1
  have h1 := cnt_not (fun p => (tn T).testBit p) 32
  have h2 : nf T = cnt (fun p => !(tn T).testBit p) 32 := cnt_congr 32 (fun p hp => by
    have := and_bit (x := T) hp
    cases hb : (tn T).testBit p
    · rw [hb] at this; exact decide_eq_true (this.mpr rfl)
    · rw [hb] at this; exact decide_eq_false (fun z => by cases this.mp z))
  omega
theorem L_freeProcessors {n : Nat} (hn : 700 ≤ n) {j : Nat} {σ2 σ τ : St} (hj : j < 512) (h : INV j σ2 σ τ) (a1 : Int32) : AgI [xIO] (fX4_freeProcessors n σ a1) (fX5_freeProcessors n τ a1) (fun σ' τ' => INV (j + 1) σ2 σ' τ') := by
  have hb := EE_b hj
  have hs := EE_s j
  obtain ⟨c, r, hX⟩ := INV_o h
  have h0 := hX.2.2
  by_cases q : 0 ≤ a1
  · obtain ⟨k, k1, k2⟩ := bc_nf n (tk σ a1 a1)
    refine AgI_v (v := nI (nf (tk σ a1 a1))) (σ' := σ) (τ' := sf τ 6 0) ?_ ?_ (sf6 _ _) (INV_6 h 0)
    · unfold fX4_freeProcessors
      rw [if_pos q, takenIn_eq (by omega), sb, k1, sb, k2]
    · unfold fX5_freeProcessors
      rw [wf_sf, sb, if_pos q, frees_eq (by omega) h0 (by omega) (by omega) (Int32.not_lt.mpr q), sb]
  · refine AgI_t (X := xIO) (b := 0) (σ' := σ) (τ' := sf (sf τ 6 0) 6 1) ?_ ?_ (by simp) (by rw [sf6, cd1]) (INV_66 h 0 1)
    · unfold fX4_freeProcessors
      rw [if_neg q]
    · unfold fX5_freeProcessors
      rw [wf_sf, sb, if_neg q]
      rfl
theorem clk_nn {c r : Nat} {σ : St} {a : Nat → Int32} (h : RG c r σ a) : ¬ σ 25 0 < 0 := by
  rw [lt_int]
  have := (clk_lo h).1
  have e : (0 : Int32).toInt = 0 := rfl
  omega
theorem isFreeNow_eq {n : Nat} (hn : 33 ≤ n) {c r m E : Nat} {σ τ : St} (h : R0 c r DN m E σ (τ 0)) (hm : m ≤ 520) (hE : E + 40 + 9 * m < 2147483647) {o i : Nat} (ho : o < 6) (hi : i < 32 / 2 ^ o) : fX5_isFreeNow n τ (nI o) (nI (i * 2 ^ o)) = some (if tk σ (σ 25 0) (σ 25 0) &&& mk o (i * 2 ^ o) = 0 then 1 else 0) := by
  have hb := blk_le hi
  have hp := Nat.two_pow_pos o
  have hcl : τ 0 0 = σ 25 0 := h.1.2.2.2.2.2.2.1.symm
  have hu := clk_nn h.1
  have := lz1_fe (b := fX5_isFreeNow_b2 n τ (nI o) (nI (i * 2 ^ o))) (e := fun t => nI (i * 2 ^ o + t)) (N := 2 ^ o) (P := fun t => decide (¬ tk σ (σ 25 0) (σ 25 0) &&& mk 0 (i * 2 ^ o + t) = 0)) (X := fun _ => some 0) (Z := some 1) (fun go => by
    unfold fX5_isFreeNow_b2
    rw [sh_1 o ho, nI_add, if_pos (nI_le (Nat.le_refl _) (by omega))]) (fun go t ht => by
    obtain ⟨v, o1, o2, o3⟩ := owner_sg (n := n) (by omega) h hm hE (p := i * 2 ^ o + t) (by omega) hu
    unfold fX5_isFreeNow_b2
    rw [sh_1 o ho, nI_add, if_neg (nI_ge (by omega) (by omega)), g0, sb, hcl, o1, sb, nI_1]
    by_cases q : tk σ (σ 25 0) (σ 25 0) &&& mk 0 (i * 2 ^ o + t) = 0
    · rw [if_pos (o2 q).1, if_neg (fun (z : decide (¬ tk σ (σ 25 0) (σ 25 0) &&& mk 0 (i * 2 ^ o + t) = 0) = true) => of_decide_eq_true z q)]
      rfl
    · rw [if_neg (o3 q).2, if_pos (decide_eq_true q)]) (2 ^ o) 0 n (by omega) (by omega)
  unfold fX5_isFreeNow
  refine (show lz1 (fX5_isFreeNow_b2 n τ (nI o) (nI (i * 2 ^ o))) n (nI (i * 2 ^ o)) = _ from this).trans ?_
  have hk := blk_and (x := tk σ (σ 25 0) (σ 25 0)) ho hi
  cases hf : ffd (fun t => decide (¬ tk σ (σ 25 0) (σ 25 0) &&& mk 0 (i * 2 ^ o + t) = 0)) 0 (2 ^ o) with
  | none =>
    have := (ffd_none _ _).mp hf
    show some 1 = _
    rw [if_pos (hk.mpr (fun t ht => ?_))]
    have := of_decide_eq_false (this t (by omega) (by omega))
    exact Decidable.not_not.mp this
  | some t =>
    obtain ⟨-, t2, t3⟩ := ffd_some _ _ _ hf
    show some 0 = _
    rw [if_neg (fun z => of_decide_eq_true t3 (hk.mp z t (by omega)))]
theorem isClear_eq (n : Nat) (T : Int32) {o i : Nat} (ho : o < 6) (hi : i < 64) : fX4_isClear n T (nI o) (nI i) = some (if T &&& mk o (i * 2 ^ o) = 0 then 1 else 0) := by
  unfold fX4_isClear
  rw [sh_l o ho i hi, mk_eq, sb]
  split <;> rfl
def fbF (T : Int32) (o : Nat) (i : Nat) (acc : Int32) : Int32 := if T &&& mk o (i * 2 ^ o) = 0 then (if o < 5 ∧ T &&& mk (o + 1) (i / 2 * 2 ^ (o + 1)) = 0 then acc else acc + 1) else acc
theorem half_c : ∀ i, i < 32 → nI i >>> ((1 : Int32) &&& 31) = nI (i / 2) := by decide
theorem half_r : ∀ o, o < 5 → ∀ i, i < 32 / 2 ^ o → (nI (i * 2 ^ o) >>> ((nI o + 1) &&& 31)) <<< ((nI o + 1) &&& 31) = nI (i / 2 * 2 ^ (o + 1)) ∧ i / 2 < 32 / 2 ^ (o + 1) := by decide +kernel
theorem div_le32 : ∀ o, o < 6 → 32 / 2 ^ o ≤ 32 := by decide
theorem L_freeBlocks {n : Nat} (hn : 700 ≤ n) {j : Nat} {σ2 σ τ : St} (hj : j < 512) (h : INV j σ2 σ τ) (a1 : Int32) : AgI [xIO] (fX4_freeBlocks n σ a1) (fX5_freeBlocks n τ a1) (fun σ' τ' => INV (j + 1) σ2 σ' τ') := by
  have hb := EE_b hj
  have hs := EE_s j
  obtain ⟨c, r, hX⟩ := INV_o h
  have h0 := hX.2.2
  rcases order_cs n a1 with ⟨o, ho, rfl, e3, e4⟩ | ⟨e3, e4⟩
  · have hB := div_le32 o ho
    refine AgI_v (v := itF (fbF (tk σ (σ 25 0) (σ 25 0)) o) 0 (32 / 2 ^ o) 0) (σ' := σ) (τ' := sf τ 6 0) ?_ ?_ (sf6 _ _) (INV_6 h 0)
    · unfold fX4_freeBlocks fX4_takenNow
      rw [e3, sb, if_neg i10, takenIn_eq (by omega), sb, sb]
      generalize tk σ (σ 25 0) (σ 25 0) = T
      refine lz2_for (b := fX4_freeBlocks_b27 n σ (nI o) T) (N := 32 / 2 ^ o) (F := fbF T o) (k := fun a => some (.inr (a, σ))) (fun go a => ?_) (fun go i a hi => ?_) (32 / 2 ^ o) 0 0 n (by omega) (by omega)
      · unfold fX4_freeBlocks_b27
        rw [sh_32 o ho, if_pos (nI_le (Nat.le_refl _) (by omega))]
      · unfold fX4_freeBlocks_b27 fbF
        rw [sh_32 o ho, if_neg (nI_ge hi (by omega)), isClear_eq n T ho (by omega), nI_1]
        by_cases p : o < 5
        · rw [if_neg (show ¬ (5 : Int32) ≤ nI o from nI_ge (b := 5) p (by decide)), half_c i (by omega), nI_1, isClear_eq n T (by omega) (by omega), sb, sb, if_pos rfl, if_neg i10]
          by_cases q : T &&& mk o (i * 2 ^ o) = 0
          · rw [if_pos q, if_neg i10, if_pos q]
            by_cases s : T &&& mk (o + 1) (i / 2 * 2 ^ (o + 1)) = 0
            · rw [if_pos s, if_neg i10, if_pos ⟨p, s⟩]
              rfl
            · rw [if_neg s, if_pos rfl, if_neg (fun z => s z.2)]
          · rw [if_neg q, if_pos rfl, if_neg q]
            split <;> rfl
        · rw [if_pos (show (5 : Int32) ≤ nI o from nI_le (a := 5) (by omega) (by omega)), sb, if_pos (show (0 : Int32) = 0 from rfl)]
          by_cases q : T &&& mk o (i * 2 ^ o) = 0
          · rw [if_pos q, if_neg i10, if_pos q, if_neg (fun z => p z.1)]
          · rw [if_neg q, if_pos rfl, if_neg q]
    · unfold fX5_freeBlocks
      rw [wf_sf, sb, e4, sb, if_neg i10]
      have := lz2_fe (b := fX5_freeBlocks_b24 n (nI o) (sf τ 6 0)) (e := fun i => nI (i * 2 ^ o)) (N := 32 / 2 ^ o) (F := fbF (tk σ (σ 25 0) (σ 25 0)) o) (k := fun a => some (a, sf τ 6 0)) (fun go a => by
        unfold fX5_freeBlocks_b24
        rw [div_mul6 o ho, if_pos (by decide)]) (fun go i a hi => by
        have hbl := blk_le hi
        have hpw := Nat.two_pow_pos o
        unfold fX5_freeBlocks_b24 fbF
        rw [if_neg (show ¬ (32 : Int32) ≤ nI (i * 2 ^ o) from nI_ge (b := 32) (by omega) (by decide)), isFreeNow_eq (by omega) h0 (by omega) (by omega) ho hi, sb, sh_1 o ho, nI_add, show i * 2 ^ o + 2 ^ o = (i + 1) * 2 ^ o by rw [Nat.add_mul, Nat.one_mul]]
        by_cases q : tk σ (σ 25 0) (σ 25 0) &&& mk o (i * 2 ^ o) = 0
        · rw [if_pos q, if_neg i10, if_pos q]
          by_cases p : o < 5
          · obtain ⟨z1, z2⟩ := half_r o p i hi
            rw [if_neg (fun z => by have := (nI_eq (a := o) (b := 5) (by omega) (by decide)).mp z; omega), z1, nI_1, isFreeNow_eq (by omega) h0 (by omega) (by omega) (by omega) z2, sb]
            by_cases s : tk σ (σ 25 0) (σ 25 0) &&& mk (o + 1) (i / 2 * 2 ^ (o + 1)) = 0
            · rw [if_pos s, if_neg i10, if_pos ⟨p, s⟩]
            · rw [if_neg s, if_pos rfl, if_neg (fun z => s z.2)]
          · rw [if_pos (show nI o = 5 by rw [show o = 5 by omega]; rfl), if_neg (fun z => p z.1)]
        · rw [if_neg q, if_pos rfl, if_neg q]) (32 / 2 ^ o) 0 0 n (by omega) (by omega)
      rw [Nat.zero_mul] at this
      exact this
  · refine AgI_t (X := xIO) (b := 0) (σ' := σ) (τ' := sf (sf τ 6 0) 6 1) ?_ ?_ (by simp) (by rw [sf6, cd1]) (INV_66 h 0 1)
    · unfold fX4_freeBlocks
      rw [e3, sb, if_pos rfl]
    · unfold fX5_freeBlocks
      rw [wf_sf, sb, e4, sb, if_pos rfl]
      rfl
/-- orders downwards -/
def eD (t : Nat) : Int32 := if t < 6 then nI (5 - t) else -1
theorem eD_s : ∀ t, t < 6 → eD t + (-1) = eD (t + 1) := by decide
theorem eD_n : ∀ t, t < 6 → ¬ eD t < 0 := by decide
def lgO (T : Int32) : Option Nat := ffd (fun t => okT T (5 - t)) 0 6
def lgV (x : Option Nat) : Int32 := match x with | some t => nI (5 - t) | none => -1
theorem largestC_eq {n : Nat} (hn : 33 ≤ n) (T : Int32) : fX4_largestClearOrder n T = some (lgV (lgO T)) := by
  unfold fX4_largestClearOrder
  refine (lz1_fe (b := fX4_largestClearOrder_b2 n T) (e := eD) (N := 6) (P := fun t => okT T (5 - t)) (X := fun t => some (nI (5 - t))) (Z := some (-1)) (fun go => ?_) (fun go t ht => ?_) 6 0 n rfl (by omega)).trans ?_
  · unfold fX4_largestClearOrder_b2
    rw [if_pos (by decide)]
  · unfold fX4_largestClearOrder_b2
    rw [if_neg (eD_n t ht), eD_s t ht]
    have e : eD t = nI (5 - t) := if_pos ht
    rw [e, lowestClear_eq (by omega) T (show 5 - t < 6 by omega), sb]
    unfold okT
    generalize hx : ffd (fun i => decide (T &&& mk (5 - t) (i * 2 ^ (5 - t)) = 0)) 0 (32 / 2 ^ (5 - t)) = x
    have hr := resB_ne (o := 5 - t) (by omega) (x := x) (fun k hk => ffd_lt (by rw [hx]; exact hk))
    cases x with
    | none => rw [if_pos (hr.mpr rfl), if_neg (by simp)]
    | some k => rw [if_neg (fun q => by cases hr.mp q), if_pos (show (some k).isSome = true from rfl)]
  · unfold lgO
    cases ffd (fun t => okT T (5 - t)) 0 6 <;> rfl
theorem largestR_eq {n : Nat} (hn : 33 ≤ n) {c r m E : Nat} {σ τ : St} (h : R0 c r DN m E σ (τ 0)) (hm : m ≤ 520) (hE : E + 40 + 9 * m < 2147483647) : fX5_largest n τ = some (lgV (lgO (tk σ (σ 25 0) (σ 25 0)))) := by
  unfold fX5_largest
  refine (lz1_fe (b := fX5_largest_b2 n τ) (e := eD) (N := 6) (P := fun t => okT (tk σ (σ 25 0) (σ 25 0)) (5 - t)) (X := fun t => some (nI (5 - t))) (Z := some (-1)) (fun go => ?_) (fun go t ht => ?_) 6 0 n rfl (by omega)).trans ?_
  · unfold fX5_largest_b2
    rw [if_pos (by decide)]
  · unfold fX5_largest_b2
    rw [if_neg (eD_n t ht)]
    have e : eD t = nI (5 - t) := if_pos ht
    have ho : 5 - t < 6 := by omega
    have hB := div_le32 (5 - t) ho
    have := lz1_fe (b := fX5_largest_b8 n τ (eD t) go) (e := fun i => nI (i * 2 ^ (5 - t))) (N := 32 / 2 ^ (5 - t)) (P := fun i => decide (tk σ (σ 25 0) (σ 25 0) &&& mk (5 - t) (i * 2 ^ (5 - t)) = 0)) (X := fun _ => some (nI (5 - t))) (Z := go (eD (t + 1))) (fun go' => by
      unfold fX5_largest_b8 fX5_largest_k8_34
      rw [div_mul6 _ ho, if_pos (by decide), eD_s t ht]) (fun go' i hi => by
      have hbl := blk_le hi
      have hpw := Nat.two_pow_pos (5 - t)
      unfold fX5_largest_b8
      rw [e, if_neg (show ¬ (32 : Int32) ≤ nI (i * 2 ^ (5 - t)) from nI_ge (b := 32) (by omega) (by decide)), isFreeNow_eq (by omega) h hm hE ho hi, sb, sh_1 _ ho, nI_add, show i * 2 ^ (5 - t) + 2 ^ (5 - t) = (i + 1) * 2 ^ (5 - t) by rw [Nat.add_mul, Nat.one_mul]]
      by_cases q : tk σ (σ 25 0) (σ 25 0) &&& mk (5 - t) (i * 2 ^ (5 - t)) = 0
      · rw [if_pos q, if_neg i10, if_pos (decide_eq_true q)]
      · rw [if_neg q, if_pos rfl, if_neg (fun z => q (of_decide_eq_true z))]) (32 / 2 ^ (5 - t)) 0 n (by omega) (by omega)
    rw [Nat.zero_mul] at this
    refine (show lz1 (fX5_largest_b8 n τ (eD t) go) n 0 = _ from this).trans ?_
    unfold okT
    cases ffd (fun i => decide (tk σ (σ 25 0) (σ 25 0) &&& mk (5 - t) (i * 2 ^ (5 - t)) = 0)) 0 (32 / 2 ^ (5 - t)) with
    | none => rw [if_neg (by simp)]
    | some k => rw [if_pos (show (some k).isSome = true from rfl)]
  · unfold lgO
    cases ffd (fun t => okT (tk σ (σ 25 0) (σ 25 0)) (5 - t)) 0 6 <;> rfl
theorem lg_cs (T : Int32) : (lgV (lgO T) = -1 ∧ ¬ 0 ≤ lgV (lgO T)) ∨ (∃ o i, o < 6 ∧ i < 32 / 2 ^ o ∧ lgV (lgO T) = nI o ∧ ¬ lgV (lgO T) = -1 ∧ 0 ≤ lgV (lgO T) ∧ T &&& mk o (i * 2 ^ o) = 0) := by
  cases hl : lgO T with
  | none => exact Or.inl ⟨rfl, by show ¬ (0 : Int32) ≤ -1; decide⟩
  | some t =>
    obtain ⟨-, t2, t3⟩ := ffd_some _ _ _ hl
    obtain ⟨i, hi⟩ := Option.isSome_iff_exists.mp (show (ffd (fun i => decide (T &&& mk (5 - t) (i * 2 ^ (5 - t)) = 0)) 0 (32 / 2 ^ (5 - t))).isSome = true from t3)
    obtain ⟨-, -, hi3⟩ := ffd_some _ _ _ hi
    refine Or.inr ⟨5 - t, i, by omega, ffd_lt hi, rfl, fun z => ?_, nI_pos' (by omega), of_decide_eq_true hi3⟩
    exact nI_pos (n := 5 - t) (by omega) (by rw [show nI (5 - t) = -1 from z]; decide)
theorem L_largestFree {n : Nat} (hn : 700 ≤ n) {j : Nat} {σ2 σ τ : St} (hj : j < 512) (h : INV j σ2 σ τ) : AgI [xNS] (fX4_largestFree n σ) (fX5_largestFree n τ) (fun σ' τ' => INV (j + 1) σ2 σ' τ') := by
  have hb := EE_b hj
  have hs := EE_s j
  obtain ⟨c, r, hX⟩ := INV_o h
  have h0 := hX.2.2
  rcases lg_cs (tk σ (σ 25 0) (σ 25 0)) with ⟨z1, z2⟩ | ⟨o, i, -, -, -, z1, z2, -⟩
  · refine AgI_t (X := xNS) (b := 0) (σ' := σ) (τ' := sf (sf τ 6 0) 6 1) ?_ ?_ (by simp) (by rw [sf6, cd1]) (INV_66 h 0 1)
    · unfold fX4_largestFree fX4_takenNow
      rw [takenIn_eq (by omega), sb, sb, largestC_eq (by omega), sb, if_pos z1]
    · unfold fX5_largestFree
      rw [wf_sf, sb, largestR_eq (by omega) h0 (by omega) (by omega), sb, if_neg z2]
      rfl
  · refine AgI_v (v := lgV (lgO (tk σ (σ 25 0) (σ 25 0)))) (σ' := σ) (τ' := sf τ 6 0) ?_ ?_ (sf6 _ _) (INV_6 h 0)
    · unfold fX4_largestFree fX4_takenNow
      rw [takenIn_eq (by omega), sb, sb, largestC_eq (by omega), sb, if_neg z1]
    · unfold fX5_largestFree
      rw [wf_sf, sb, largestR_eq (by omega) h0 (by omega) (by omega), sb, if_pos z2]
theorem lz3_fe {γ β ρ : Type} {b : (Int32 → γ → β → Option ρ) → Int32 → γ → β → Option ρ} {e : Nat → Int32} {N : Nat} {F : Nat → γ × β → γ × β} {k : γ → β → Option ρ} (hend : ∀ go u x, b go (e N) u x = k u x) (hstep : ∀ go i u x, i < N → b go (e i) u x = go (e (i + 1)) (F i (u, x)).1 (F i (u, x)).2) : ∀ (d i : Nat) (z : γ × β) (fu : Nat), i + d = N → d < fu → lz3 b fu (e i) z.1 z.2 = k (itF F i d z).1 (itF F i d z).2 := by
  intro d
  induction d with
  | zero =>
    intro i z fu h hf
    obtain ⟨fu, rfl⟩ : ∃ z, fu = z + 1 := ⟨fu - 1, by omega⟩
    have : i = N := by omega
    subst this
    exact hend _ _ _
  | succ d ih =>
    intro i z fu h hf
    obtain ⟨fu, rfl⟩ : ∃ z, fu = z + 1 := ⟨fu - 1, by omega⟩
    rw [lz3_s, hstep _ i _ _ (by omega)]
    exact ih (i + 1) (F i z) fu (by omega) (by omega)
/-- one block of the search for the busiest -/
def byF (σ : St) (o i : Nat) (z : Int32 × Int32) : Int32 × Int32 := if σ 22 (32 / 2 ^ o + i) ≤ z.2 then z else (nI (100 * o + i * 2 ^ o), σ 22 (32 / 2 ^ o + i))
def byG (σ : St) (o : Nat) (z : Int32 × Int32) : Int32 × Int32 := itF (byF σ o) 0 (32 / 2 ^ o) z
theorem nm100 (o f : Nat) : (100 : Int32) * nI o + nI f = nI (100 * o + f) := by
  rw [show (100 : Int32) = nI 100 from rfl, nI_mul, nI_add]
theorem busyC {n : Nat} (hn : 700 ≤ n) (σ : St) : fX4_busiestBlock n σ = if (itF (byG σ) 0 6 (-1, 0)).1 = -1 then some (.inl (xNS, σ)) else some (.inr ((itF (byG σ) 0 6 (-1, 0)).1, σ)) := by
  unfold fX4_busiestBlock
  refine lz3_fe (b := fX4_busiestBlock_b6 n σ) (e := nI) (N := 6) (F := byG σ) (k := fun u _ => if u = -1 then some (.inl (xNS, σ)) else some (.inr (u, σ))) (fun go u x => ?_) (fun go o u x ho => ?_) 6 0 (-1, 0) n rfl (by omega)
  · unfold fX4_busiestBlock_b6
    rw [if_pos (by decide)]
  · have hB := div_le32 o ho
    unfold fX4_busiestBlock_b6
    rw [if_neg (show ¬ (5 : Int32) < nI o from nI_nlt (a := 5) (by omega) (by omega))]
    refine lz3_fe (b := fX4_busiestBlock_b14 n σ (nI o) go) (e := nI) (N := 32 / 2 ^ o) (F := byF σ o) (k := fun u x => go (nI (o + 1)) u x) (fun go' u x => ?_) (fun go' i u x hi => ?_) (32 / 2 ^ o) 0 (u, x) n (by omega) (by omega)
    · unfold fX4_busiestBlock_b14 fX4_busiestBlock_k14_68
      rw [sh_32 o ho, if_pos (nI_le (Nat.le_refl _) (by omega)), nI_1]
    · unfold fX4_busiestBlock_b14 fX4_blockIndex byF
      rw [sh_32 o ho, if_neg (nI_ge hi (by omega)), sh_l o ho i (by omega), sb, bi_c o ho i hi, rd_nI _ (bi_lt o ho i hi) (by decide), sb, nI_1, nm100]
      show _ = go' (nI (i + 1)) (if σ 22 (32 / 2 ^ o + i) ≤ x then (u, x) else (nI (100 * o + i * 2 ^ o), σ 22 (32 / 2 ^ o + i))).1 (if σ 22 (32 / 2 ^ o + i) ≤ x then (u, x) else (nI (100 * o + i * 2 ^ o), σ 22 (32 / 2 ^ o + i))).2
      by_cases q : σ 22 (32 / 2 ^ o + i) ≤ x
      · rw [if_pos q, if_pos q]
      · rw [if_neg q, if_neg q]
theorem busyR {n : Nat} (hn : 700 ≤ n) {σ τ : St} (hB : RB σ (τ 0)) : lz3 (fX5_busiestBlock_b11 n τ) n 0 0 0 = if (itF (byG σ) 0 6 (0, 0)).2 = 0 then some (0, sf τ 6 1) else some ((itF (byG σ) 0 6 (0, 0)).1, τ) := by
  refine lz3_fe (b := fX5_busiestBlock_b11 n τ) (e := nI) (N := 6) (F := byG σ) (k := fun u x => if x = 0 then some (0, sf τ 6 1) else some (u, τ)) (fun go u x => ?_) (fun go o u x ho => ?_) 6 0 (0, 0) n rfl (by omega)
  · unfold fX5_busiestBlock_b11
    rw [if_pos (by decide)]
    rfl
  · have hd := div_le32 o ho
    unfold fX5_busiestBlock_b11
    rw [if_neg (show ¬ (6 : Int32) ≤ nI o from nI_ge (b := 6) ho (by decide))]
    have := lz3_fe (b := fX5_busiestBlock_b20 n τ (nI o) go) (e := fun i => nI (i * 2 ^ o)) (N := 32 / 2 ^ o) (F := byF σ o) (k := fun u x => go (nI (o + 1)) u x) (fun go' u x => by
      unfold fX5_busiestBlock_b20 fX5_busiestBlock_k20_84
      rw [div_mul6 o ho, if_pos (by decide), nI_1]) (fun go' i u x hi => by
      have hbl := blk_le hi
      have hpw := Nat.two_pow_pos o
      have hlt := bi_lt o ho i hi
      unfold fX5_busiestBlock_b20 fX5_block byF
      rw [if_neg (show ¬ (32 : Int32) ≤ nI (i * 2 ^ o) from nI_ge (b := 32) (by omega) (by decide)), sb, bi_r o ho i hi, show (545 : Int32) + nI (32 / 2 ^ o + i) = nI (545 + (32 / 2 ^ o + i)) from nI_add 545 _, rd_nI _ (by omega) (by decide), sb, sb, show (545 : Int32) + nI (32 / 2 ^ o + i) = nI (545 + (32 / 2 ^ o + i)) from nI_add 545 _, rd_nI _ (by omega) (by decide), sb, sh_1 o ho, nI_add, show i * 2 ^ o + 2 ^ o = (i + 1) * 2 ^ o by rw [Nat.add_mul, Nat.one_mul], nm100, ← hB _ hlt]
      show _ = go' (nI ((i + 1) * 2 ^ o)) (if σ 22 (32 / 2 ^ o + i) ≤ x then (u, x) else (nI (100 * o + i * 2 ^ o), σ 22 (32 / 2 ^ o + i))).1 (if σ 22 (32 / 2 ^ o + i) ≤ x then (u, x) else (nI (100 * o + i * 2 ^ o), σ 22 (32 / 2 ^ o + i))).2
      by_cases q : σ 22 (32 / 2 ^ o + i) ≤ x
      · rw [if_pos q, if_neg (Int32.not_lt.mpr q)]
      · rw [if_neg q, if_pos (Int32.not_le.mp q)]) (32 / 2 ^ o) 0 (u, x) n (by omega) (by omega)
    rw [Nat.zero_mul] at this
    exact this
def byR (z w : Int32 × Int32) : Prop := z.2 = w.2 ∧ ¬ z.2 < 0 ∧ ((z.2 = 0 ∧ z.1 = -1) ∨ (¬ z.2 = 0 ∧ z.1 = w.1 ∧ ¬ z.1 = -1))
theorem byF_r (σ : St) {o i : Nat} (ho : o < 6) (hi : i < 32 / 2 ^ o) {z w : Int32 × Int32} (h : byR z w) : byR (byF σ o i z) (byF σ o i w) := by
  obtain ⟨h1, h2, h3⟩ := h
  have hbl := blk_le hi
  have hpw := Nat.two_pow_pos o
  unfold byF
  rw [← h1]
  by_cases q : σ 22 (32 / 2 ^ o + i) ≤ z.2
  · rw [if_pos q, if_pos q]; exact ⟨h1, h2, h3⟩
  · rw [if_neg q, if_neg q]
    have q' := Int32.not_le.mp q
    rw [lt_int] at q'
    rw [lt_int, show (0 : Int32).toInt = 0 from rfl] at h2
    refine ⟨rfl, ?_, Or.inr ⟨fun e => ?_, rfl, fun e => nI_pos (n := 100 * o + i * 2 ^ o) (by omega) (by rw [show nI (100 * o + i * 2 ^ o) = -1 from e]; decide)⟩⟩
    · show ¬ σ 22 (32 / 2 ^ o + i) < 0
      rw [lt_int, show (0 : Int32).toInt = 0 from rfl]
      omega
    · have e : σ 22 (32 / 2 ^ o + i) = 0 := e
      rw [e, show (0 : Int32).toInt = 0 from rfl] at q'
      omega
theorem it_rel {α : Type} {R : α → α → Prop} {F : Nat → α → α} : ∀ (d i : Nat) (z w : α), (∀ k, i ≤ k → k < i + d → ∀ z w, R z w → R (F k z) (F k w)) → R z w → R (itF F i d z) (itF F i d w)
  | 0, _, _, _, _, h => h
  | d + 1, i, z, w, hF, h => it_rel d (i + 1) (F i z) (F i w) (fun k a b => hF k (by omega) (by omega)) (hF i (Nat.le_refl _) (by omega) z w h)
theorem L_busiestBlock {n : Nat} (hn : 700 ≤ n) {j : Nat} {σ2 σ τ : St} (h : INV j σ2 σ τ) : AgI [xNS] (fX4_busiestBlock n σ) (fX5_busiestBlock n τ) (fun σ' τ' => INV (j + 1) σ2 σ' τ') := by
  obtain ⟨c, r, hX⟩ := INV_o h
  have hR : byR (itF (byG σ) 0 6 (-1, 0)) (itF (byG σ) 0 6 (0, 0)) := it_rel 6 0 _ _ (fun o _ ho z w hz => it_rel (32 / 2 ^ o) 0 z w (fun i _ hi z w hz => byF_r σ (by omega) (by omega) hz) hz) ⟨rfl, by decide, Or.inl ⟨rfl, rfl⟩⟩
  have hr := busyR (n := n) hn (σ := σ) (τ := sf τ 6 0) hX.2.2.2.2.2.2
  obtain ⟨h1, h2, ⟨h3, h4⟩ | ⟨h3, h4, h5⟩⟩ := hR
  · refine AgI_t (X := xNS) (b := 0) (σ' := σ) (τ' := sf (sf τ 6 0) 6 1) ?_ ?_ (by simp) (by rw [sf6, cd1]) (INV_66 h 0 1)
    · rw [busyC hn, if_pos h4]
    · unfold fX5_busiestBlock
      rw [wf_sf, sb, hr, if_pos (by rw [← h1]; exact h3)]
  · refine AgI_v (v := (itF (byG σ) 0 6 (-1, 0)).1) (σ' := σ) (τ' := sf τ 6 0) ?_ ?_ (sf6 _ _) (INV_6 h 0)
    · rw [busyC hn, if_neg h5]
    · unfold fX5_busiestBlock
      rw [wf_sf, sb, hr, if_neg (by rw [← h1]; exact h3), h4]
