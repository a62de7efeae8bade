/-! MATHEMATICS 18: makespan, owners, blocks that were started -/
def ejF (σ : St) (k : Nat) (acc : Int32) : Int32 := if σ 0 k = 0 then acc else imax acc (σ 3 k)
theorem imax_int (x y : Int32) : (imax x y).toInt = max x.toInt y.toInt := by
  unfold imax
  by_cases h : x < y
  · rw [if_pos h]; rw [lt_int] at h; omega
  · rw [if_neg h]; rw [lt_int] at h; omega
theorem imax_as (x y z : Int32) : imax (imax x y) z = imax x (imax y z) := by
  apply Int32.toInt_inj.mp
  rw [imax_int, imax_int, imax_int, imax_int]
  omega
theorem ej_pull (σ : St) (x : Int32) (hx : ¬ x < 0) : ∀ d, itF (ejF σ) 0 d x = imax x (itF (ejF σ) 0 d 0) := by
  intro d
  induction d with
  | zero =>
    show x = imax x 0
    unfold imax; rw [if_neg hx]
  | succ d ih =>
    rw [itF_last, itF_last, ih, Nat.zero_add]
    unfold ejF
    by_cases q : σ 0 d = 0
    · rw [if_pos q, if_pos q]
    · rw [if_neg q, if_neg q, imax_as]
theorem ej_cut (σ : St) (x : Int32) {c : Nat} (h : ∀ k, c ≤ k → k < 24 → σ 0 k = 0) : ∀ d, c + d ≤ 24 → itF (ejF σ) 0 (c + d) x = itF (ejF σ) 0 c x := by
  intro d
  induction d with
  | zero => exact fun _ => rfl
  | succ d ih =>
    intro hd
    rw [← Nat.add_assoc, itF_last, Nat.zero_add, ih (by omega)]
    unfold ejF
    rw [if_pos (h (c + d) (by omega) (by omega))]
theorem L_makespan {n : Nat} (hn : 700 ≤ n) {j : Nat} {σ2 σ τ : St} (h : INV j σ2 σ τ) : ∃ v τ', fX4_makespan n σ = some v ∧ fX5_makespan n τ = some (v, τ') ∧ INV (j + 1) σ2 σ τ' := by
  obtain ⟨c, r, hX⟩ := INV_o h
  have h0 := hX.2.2
  have hc : c ≤ 24 := h0.1.1
  have hcl : sf τ 6 0 0 0 = σ 25 0 := h0.1.2.2.2.2.2.2.1.symm
  have hx0 : ¬ σ 25 0 < 0 := by rw [lt_int]; have := (clk_lo h0.1).1; have e : (0 : Int32).toInt = 0 := rfl; omega
  refine ⟨itF (ejF σ) 0 c (σ 25 0), sf τ 6 0, ?_, ?_, INV_6 h 0⟩
  · unfold fX4_makespan
    rw [show fX3_endOfJobs n σ = some (itF (ejF σ) 0 24 0) from lz2_for (N := 24) (F := ejF σ) (k := some) (fun go a => by
      unfold fX3_endOfJobs_b4
      rw [if_pos (by decide)]) (fun go k a hk => by
      unfold fX3_endOfJobs_b4 ejF
      rw [if_neg (show ¬ (24 : Int32) ≤ nI k from nI_ge (b := 24) hk (by decide)), rd_nI _ (by omega) (by decide), sb, rd_nI _ (by omega) (by decide), sb, nI_1]
      split <;> rfl) 24 0 0 n rfl (by omega), sb, ej_pull σ _ hx0 c]
    have := ej_cut σ 0 (c := c) (fun k k1 k2 => slot_hi h0 (by omega) (by omega) (by omega)) (24 - c) (by omega)
    rw [show c + (24 - c) = 24 by omega] at this
    rw [this]
  · unfold fX5_makespan
    rw [wf_sf, sb, g0, sb, hcl]
    refine lz2_for (N := c) (F := ejF σ) (k := fun a => some (a, sf τ 6 0)) (fun go a => ?_) (fun go k a hk => ?_) c 0 _ n (by omega) (by omega)
    · unfold fX5_makespan_b14
      rw [g1, sb, h0.1.2.2.2.1, if_pos (nI_le (Nat.le_refl _) (by omega))]
    · have hk4 : k < 24 := by omega
      obtain ⟨-, -, hA, hN⟩ := h0.2.1 k hk4
      unfold fX5_makespan_b14 ejF
      rw [g1, sb, h0.1.2.2.2.1, if_neg (nI_ge hk (by omega)), isAlloc_eq n _ hk4, sb, nI_1]
      by_cases q : (2 : Int32) ≤ sf τ 6 0 0 (5 + 14 * k + 4)
      · rw [if_pos q, if_pos rfl, if_pos (hN (fun z => z.2 q))]
      · obtain ⟨o2, i2, h1, h2, h3, h4, h5, h6, h7, h8, h9⟩ := hA hk q
        rw [if_neg q, if_neg i10, of6 n _ hk4, sb, of2 n _ hk4, sb, if_neg (by rw [h5]; exact mk_ne o2 h1 i2 h2), h8]
/-- slot k holds processor p in unit u -/
def owB (σ : St) (p : Nat) (u : Int32) (k : Nat) : Bool := decide (¬ u < σ 2 k ∧ ¬ σ 3 k ≤ u ∧ ¬ (ush (σ 0 k) (nI p) &&& 1) = 0)
theorem slotAt_eq {n : Nat} (hn : 31 ≤ n) (σ : St) (p : Nat) (u : Int32) : fX3_slotAt n σ (nI p) u = match ffd (owB σ p u) 0 30 with | some k => some (nI k) | none => some (-1) := by
  refine lz1_fe (b := fX3_slotAt_b2 σ (nI p) u) (e := nI) (N := 30) (P := owB σ p u) (X := fun k => some (nI k)) (Z := some (-1)) (fun go => ?_) (fun go k hk => ?_) 30 0 n rfl (by omega)
  · unfold fX3_slotAt_b2
    rw [if_pos (by decide)]
  · unfold fX3_slotAt_b2 owB
    rw [if_neg (show ¬ (30 : Int32) ≤ nI k from nI_ge (b := 30) hk (by decide)), rd_nI _ hk (by decide), sb, rd_nI _ hk (by decide), sb, rd_nI _ hk (by decide), sb, nI_1]
    by_cases q : u < σ 2 k
    · rw [if_pos q, if_pos rfl, if_neg (fun z => (of_decide_eq_true z).1 q)]
    · rw [if_neg q]
      by_cases s : σ 3 k ≤ u
      · rw [if_pos s, if_pos rfl, if_neg (fun z => (of_decide_eq_true z).2.1 s)]
      · rw [if_neg s, if_neg i10]
        by_cases t : (ush (σ 0 k) (nI p) &&& 1) = 0
        · rw [if_pos t, if_neg (fun z => (of_decide_eq_true z).2.2 t)]
        · rw [if_neg t, if_pos (decide_eq_true ⟨q, s, t⟩)]
theorem mk_bit : ∀ o, o < 6 → ∀ i, i < 32 / 2 ^ o → ∀ p, p < 32 → ((ush (mk o (i * 2 ^ o)) (nI p) &&& 1) = 0 ↔ ¬ (nI p >>> (nI o &&& 31)) = (nI (i * 2 ^ o) >>> (nI o &&& 31))) := by decide +kernel
theorem ow_0 {σ : St} {k : Nat} (h : σ 0 k = 0) {p : Nat} (hp : p < 32) (u : Int32) : owB σ p u k = false := by
  have e : ∀ p, p < 32 → (ush 0 (nI p) &&& 1) = 0 := by decide +kernel
  unfold owB
  rw [h, e p hp]
  simp
/-- the reference's test of an allocation, in the class' words -/
theorem ow_eq {E : Nat} {σ : St} {k : Nat} {O F S L : Int32} (hs : HS E σ k O F S L) {m : Nat} (hL : okL m E L) {p : Nat} (hp : p < 32) {u : Int32} (hu : ¬ u < 0) {ρ : Type} (A B : ρ) : (if u < S then B else if L ≤ u - S then B else if (nI p >>> (O &&& 31)) = (F >>> (O &&& 31)) then A else B) = if owB σ p u k = true then A else B := by
  obtain ⟨o2, i2, h1, h2, h3, h4, h5, h6, h7, h8, h9, h10, h11⟩ := hs
  obtain ⟨l1, l2, l3, l4⟩ := hL
  have hb := mk_bit o2 h1 i2 h2 p hp
  unfold owB
  rw [h7, h8, h5, h3, h4]
  have hL' := int_hi L
  have hS' := int_hi S
  have hu' := int_hi u
  rw [lt_int, show (0 : Int32).toInt = 0 from rfl] at hu
  by_cases q : u < S
  · rw [if_pos q, if_neg (fun z => (of_decide_eq_true z).1 q)]
  · rw [if_neg q]
    rw [lt_int] at q
    have e1 : (u - S).toInt = u.toInt - S.toInt := su_int (by omega) (by omega)
    have e : L ≤ u - S ↔ S + L ≤ u := by
      rw [le_int, le_int, e1, ad_int (by omega) (by omega)]
      omega
    by_cases s : S + L ≤ u
    · rw [if_pos (e.mpr s), if_neg (fun z => (of_decide_eq_true z).2.1 s)]
    · rw [if_neg (fun z => s (e.mp z))]
      by_cases t : (nI p >>> (nI o2 &&& 31)) = (nI (i2 * 2 ^ o2) >>> (nI o2 &&& 31))
      · rw [if_pos t, if_pos (decide_eq_true ⟨by rw [lt_int]; exact q, s, fun z => hb.mp z t⟩)]
      · rw [if_neg t, if_neg (fun z => (of_decide_eq_true z).2.2 (hb.mpr t))]
theorem ffd_app (P : Nat → Bool) : ∀ (d1 i d2 : Nat), ffd P i (d1 + d2) = match ffd P i d1 with | some k => some k | none => ffd P (i + d1) d2
  | 0, i, d2 => by rw [Nat.zero_add]; rfl
  | d1 + 1, i, d2 => by
    rw [show d1 + 1 + d2 = (d1 + d2) + 1 by omega]
    show (if P i = true then some i else ffd P (i + 1) (d1 + d2)) = match (if P i = true then some i else ffd P (i + 1) d1) with | some k => some k | none => ffd P (i + (d1 + 1)) d2
    by_cases c : P i = true
    · rw [if_pos c, if_pos c]
    · rw [if_neg c, if_neg c, ffd_app P d1 (i + 1) d2, show i + 1 + d1 = i + (d1 + 1) by omega]
theorem ffd_sh (P : Nat → Bool) : ∀ (d i : Nat), ffd P (24 + i) d = match ffd (fun q => P (24 + q)) i d with | some k => some (24 + k) | none => none
  | 0, i => rfl
  | d + 1, i => by
    show (if P (24 + i) = true then some (24 + i) else ffd P (24 + i + 1) d) = match (if P (24 + i) = true then some i else ffd (fun q => P (24 + q)) (i + 1) d) with | some k => some (24 + k) | none => none
    by_cases c : P (24 + i) = true
    · rw [if_pos c, if_pos c]
    · rw [if_neg c, if_neg c, show 24 + i + 1 = 24 + (i + 1) by omega, ffd_sh P d (i + 1)]
theorem ffd_cut {P : Nat → Bool} {c r : Nat} (hc : c ≤ 24) (hr : r ≤ 6) (h1 : ∀ k, c ≤ k → k < 24 → P k = false) (h2 : ∀ k, 24 + r ≤ k → k < 30 → P k = false) : ffd P 0 30 = match ffd P 0 c with | some k => some k | none => match ffd (fun q => P (24 + q)) 0 r with | some k => some (24 + k) | none => none := by
  rw [show 30 = c + ((24 - c) + (r + (6 - r))) by omega, ffd_app]
  cases ffd P 0 c with
  | some k => rfl
  | none =>
    show ffd P (0 + c) ((24 - c) + (r + (6 - r))) = match ffd (fun q => P (24 + q)) 0 r with | some k => some (24 + k) | none => none
    rw [ffd_app, (ffd_none (P := P) (24 - c) (0 + c)).mpr (fun k a b => h1 k (by omega) (by omega))]
    show ffd P (0 + c + (24 - c)) (r + (6 - r)) = _
    rw [show 0 + c + (24 - c) = 24 + 0 by omega, ffd_app, ffd_sh]
    cases ffd (fun q => P (24 + q)) 0 r with
    | some k => rfl
    | none => exact (ffd_none (P := P) (6 - r) (24 + 0 + r)).mpr (fun k a b => h2 k (by omega) (by omega))
theorem owner_eq {n : Nat} (hn : 31 ≤ n) {c r : Nat} {D : Nat → Nat → Prop} {m E : Nat} {σ τ : St} (h : R0 c r D m E σ (τ 0)) (hm : m ≤ 520) (hE : E + 40 + 9 * m < 2147483647) (hD : ∀ j, ¬ D j 2) {p : Nat} (hp : p < 32) {u : Int32} (hu : ¬ u < 0) : fX5_owner n τ (nI p) u = match ffd (owB σ p u) 0 30 with | some k => some (if k < 24 then nI k else nI (100 + (k - 24))) | none => some (-1) := by
  have hc : c ≤ 24 := h.1.1
  have hr : r ≤ 6 := h.1.2.1
  have hcut := ffd_cut (P := owB σ p u) hc hr (fun k a b => ow_0 (slot_hi h (by omega) (by omega) (by omega)) hp u) (fun k a b => ow_0 (slot_hi h (by omega) (by omega) (by omega)) hp u)
  have e2 : ∀ y, fX5_owner_k2_81 n τ (nI p) u y = match ffd (fun q => owB σ p u (24 + q)) 0 r with | some k => some (nI (100 + k)) | none => some (-1) := fun y =>
    lz1_fe (e := nI) (N := r) (P := fun q => owB σ p u (24 + q)) (X := fun k => some (nI (100 + k))) (Z := some (-1)) (fun go => by
      unfold fX5_owner_b83
      rw [g2, sb, h.1.2.2.2.2.2.1, if_pos (nI_le (Nat.le_refl _) (by omega))]) (fun go q hq => by
      have hq6 : q < 6 := by omega
      obtain ⟨⟨l, hl, el, hf⟩, hA, hN⟩ := h.2.2.1 q hq6
      unfold fX5_owner_b83
      rw [g2, sb, h.1.2.2.2.2.2.1, if_neg (nI_ge hq (by omega)), rs2 n τ hq6, sb, sb, rs3 n τ hq6, sb, rs0 n τ hq6, sb, rs1 n τ hq6, sb, sb, nI_1, show (100 : Int32) + nI q = nI (100 + q) from nI_add 100 q]
      by_cases z : τ 0 (341 + 4 * q + 3) = 0
      · rw [ow_0 (hN (fun w => w.2 z)) hp u, if_neg (show ¬ false = true by decide), z]
        by_cases w : u < τ 0 (341 + 4 * q + 2)
        · rw [if_pos w]
        · rw [if_neg w, if_pos]
          have hu' := int_hi u
          rw [lt_int, show (0 : Int32).toInt = 0 from rfl] at hf
          rw [lt_int] at w
          rw [le_int, show (0 : Int32).toInt = 0 from rfl, su_int (by omega) (by omega)]
          omega
      · exact ow_eq (hA hq z) (m := m) ⟨by rw [el, nI_toInt (by omega)]; omega, by rw [el, nI_toInt (by omega)]; omega, hm, hE⟩ hp hu (some (nI (100 + q))) (go (nI (q + 1)))) r 0 n (by omega) (by omega)
  have e1 := lz1_fe (b := fX5_owner_b2 n τ (nI p) u) (e := nI) (N := c) (P := owB σ p u) (X := fun k => some (nI k)) (Z := match ffd (fun q => owB σ p u (24 + q)) 0 r with | some k => some (nI (100 + k)) | none => some (-1)) (fun go => by
      unfold fX5_owner_b2
      rw [g1, sb, h.1.2.2.2.1, if_pos (nI_le (Nat.le_refl _) (by omega))]
      exact e2 _) (fun go k hk => by
      have hk4 : k < 24 := by omega
      obtain ⟨hF, hV, hA, hN⟩ := h.2.1 k hk4
      have hF2 : τ 0 (5 + 14 * k + 2) = σ 6 k := hF 2 (by decide) (hD k)
      unfold fX5_owner_b2
      rw [g1, sb, h.1.2.2.2.1, if_neg (nI_ge hk (by omega)), isAlloc_eq n τ hk4, sb, nI_1]
      by_cases q : (2 : Int32) ≤ τ 0 (5 + 14 * k + 4)
      · rw [if_pos q, if_pos rfl, ow_0 (hN (fun z => z.2 q)) hp u, if_neg (show ¬ false = true by decide)]
      · rw [if_neg q, if_neg i10, of6 n τ hk4, sb, sb, of2 n τ hk4, sb, of1 n τ hk4, sb, of5 n τ hk4, sb, sb]
        exact ow_eq (hA hk q) (m := m) ⟨by rw [hF2]; exact (hV hk).2.2.1.1, by rw [hF2]; exact (hV hk).2.2.1.2, hm, hE⟩ hp hu (some (nI k)) (go (nI (k + 1)))) c 0 n (by omega) (by omega)
  unfold fX5_owner
  refine e1.trans ?_
  rw [hcut]
  cases f1 : ffd (owB σ p u) 0 c with
  | some k =>
    have := ffd_lt f1
    show some (nI k) = some (if k < 24 then nI k else nI (100 + (k - 24)))
    rw [if_pos (by omega)]
  | none =>
    cases ffd (fun q => owB σ p u (24 + q)) 0 r with
    | some k =>
      show some (nI (100 + k)) = some (if 24 + k < 24 then nI (24 + k) else nI (100 + (24 + k - 24)))
      rw [if_neg (by omega), show 24 + k - 24 = k by omega]
    | none => rfl
theorem L_ownerAt {n : Nat} (hn : 700 ≤ n) {j : Nat} {σ2 σ τ : St} (hj : j < 512) (h : INV j σ2 σ τ) (a1 a2 : Int32) : AgI [xIO] (fX4_ownerAt n σ a1 a2) (fX5_ownerAt n τ a1 a2) (fun σ' τ' => INV (j + 1) σ2 σ' τ') := by
  have hb := EE_b hj
  have hs := EE_s j
  obtain ⟨c, r, hX⟩ := INV_o h
  have h0 := hX.2.2
  have e : (32 : Int32) ≤ a1 ↔ 31 < a1 := by rw [le_int, lt_int, show (32 : Int32).toInt = 32 from rfl, show (31 : Int32).toInt = 31 from rfl]; omega
  have bad : fX4_ownerAt n σ a1 a2 = some (.inl (xIO, σ)) → fX5_ownerAt n τ a1 a2 = some (0, sf (sf τ 6 0) 6 1) → AgI [xIO] (fX4_ownerAt n σ a1 a2) (fX5_ownerAt n τ a1 a2) (fun σ' τ' => INV (j + 1) σ2 σ' τ') := fun b1 b2 => AgI_t b1 b2 (by simp) (by rw [sf6, cd1]) (INV_66 h 0 1)
  by_cases q : a1 < 0
  · refine bad ?_ ?_
    · unfold fX4_ownerAt
      rw [if_pos q]
    · unfold fX5_ownerAt
      rw [wf_sf, sb, in_eq, if_neg (fun z => z.1 q), sb, if_pos rfl]
      rfl
  · by_cases p : 31 < a1
    · refine bad ?_ ?_
      · unfold fX4_ownerAt
        rw [if_neg q, if_pos (e.mpr p)]
      · unfold fX5_ownerAt
        rw [wf_sf, sb, in_eq, if_neg (fun z => z.2 p), sb, if_pos rfl]
        rfl
    · by_cases s : a2 < 0
      · refine bad ?_ ?_
        · unfold fX4_ownerAt
          rw [if_neg q, if_neg (fun z => p (e.mp z)), if_neg (Int32.not_le.mpr s)]
        · unfold fX5_ownerAt
          rw [wf_sf, sb, in_eq, if_pos ⟨q, p⟩, sb, if_neg i10, if_pos s]
          rfl
      · obtain ⟨x, hx, rfl⟩ := nI_of2 (n := 31) (M := 31) rfl q (Int32.not_lt.mp p)
        have ho := owner_eq (n := n) (by omega) h0 (by omega) (by omega) (fun _ => id) (p := x) (by omega) s
        cases hf : ffd (owB σ x a2) 0 30 with
        | none =>
          rw [hf] at ho
          refine AgI_v (v := -1) (σ' := σ) (τ' := sf τ 6 0) ?_ ?_ (sf6 _ _) (INV_6 h 0)
          · unfold fX4_ownerAt
            rw [if_neg q, if_neg (fun z => p (e.mp z)), if_pos (Int32.not_lt.mp s), slotAt_eq (by omega), hf]
            show Option.bind (some (-1)) _ = _
            rw [sb, if_pos rfl]
          · unfold fX5_ownerAt
            rw [wf_sf, sb, in_eq, if_pos ⟨q, p⟩, sb, if_neg i10, if_neg s, ho]
            rfl
        | some k =>
          rw [hf] at ho
          have hk := ffd_lt hf
          have hk1 : ¬ nI k = -1 := fun z => nI_pos (n := k) (by omega) (by rw [z]; decide)
          refine AgI_v (v := if k < 24 then nI k else nI (100 + (k - 24))) (σ' := σ) (τ' := sf τ 6 0) ?_ ?_ (sf6 _ _) (INV_6 h 0)
          · unfold fX4_ownerAt
            rw [if_neg q, if_neg (fun z => p (e.mp z)), if_pos (Int32.not_lt.mp s), slotAt_eq (by omega), hf]
            show Option.bind (some (nI k)) _ = _
            rw [sb, if_neg hk1]
            by_cases w : k < 24
            · rw [if_neg (show ¬ (24 : Int32) ≤ nI k from nI_ge (b := 24) w (by decide)), if_pos w]
            · rw [if_pos (show (24 : Int32) ≤ nI k from nI_le (a := 24) (by omega) (by omega)), if_neg w]
              have : ∀ k, k < 30 → ¬ k < 24 → (100 : Int32) + nI k - 24 = nI (100 + (k - 24)) := by decide
              rw [this k hk w]
          · unfold fX5_ownerAt
            rw [wf_sf, sb, in_eq, if_pos ⟨q, p⟩, sb, if_neg i10, if_neg s, ho]
            rfl
theorem blk_all : ∀ o, o < 6 → ∀ p, p < 32 → ((nI p &&& (((1 : Int32) <<< (nI o &&& 31)) - 1)) = 0 ∧ orem (nI p) ((1 : Int32) <<< (nI o &&& 31)) = some 0 ∧ ((32 : Int32) + nI p) >>> (nI o &&& 31) = nI (32 / 2 ^ o + p / 2 ^ o) ∧ ((32 : Int32) >>> (nI o &&& 31)) + (nI p >>> (nI o &&& 31)) = nI (32 / 2 ^ o + p / 2 ^ o) ∧ 32 / 2 ^ o + p / 2 ^ o < 64) ∨ (¬ (nI p &&& (((1 : Int32) <<< (nI o &&& 31)) - 1)) = 0 ∧ orem (nI p) ((1 : Int32) <<< (nI o &&& 31)) = some (nI (p % 2 ^ o)) ∧ ¬ nI (p % 2 ^ o) = 0) := by decide +kernel
theorem L_blockStarts {n : Nat} {j : Nat} {σ2 σ τ : St} (h : INV j σ2 σ τ) (a1 a2 : Int32) : AgI [xIA] (fX4_blockStarts n σ a1 a2) (fX5_blockStarts n τ a1 a2) (fun σ' τ' => INV (j + 1) σ2 σ' τ') := by
  obtain ⟨c, r, hX⟩ := INV_o h
  have h0 := hX.2.2
  have e : (32 : Int32) ≤ a2 ↔ 31 < a2 := by rw [le_int, lt_int, show (32 : Int32).toInt = 32 from rfl, show (31 : Int32).toInt = 31 from rfl]; omega
  have bad : fX4_isBlock n a1 a2 = some 0 → fX5_blockStarts n τ a1 a2 = some (0, sf (sf τ 6 0) 6 1) → AgI [xIA] (fX4_blockStarts n σ a1 a2) (fX5_blockStarts n τ a1 a2) (fun σ' τ' => INV (j + 1) σ2 σ' τ') := fun b1 b2 => AgI_t (X := xIA) (σ' := σ) (by unfold fX4_blockStarts; rw [b1, sb, if_pos rfl]) b2 (by simp) (by rw [sf6, cd1]) (INV_66 h 0 1)
  rcases order_cs n a1 with ⟨o, ho, rfl, e3, e4⟩ | ⟨e3, e4⟩
  · by_cases q : a2 < 0
    · refine bad ?_ ?_
      · unfold fX4_isBlock
        rw [e3, sb, if_neg i10, if_pos q]
      · unfold fX5_blockStarts
        rw [wf_sf, sb, e4, sb, if_neg i10, in_eq, if_neg (fun z => z.1 q), sb, if_pos rfl]
        rfl
    · by_cases p : 31 < a2
      · refine bad ?_ ?_
        · unfold fX4_isBlock
          rw [e3, sb, if_neg i10, if_neg q, if_pos (e.mpr p)]
        · unfold fX5_blockStarts
          rw [wf_sf, sb, e4, sb, if_neg i10, in_eq, if_neg (fun z => z.2 p), sb, if_pos rfl]
          rfl
      · obtain ⟨x, hx, rfl⟩ := nI_of2 (n := 31) (M := 31) rfl q (Int32.not_lt.mp p)
        rcases blk_all o ho x (by omega) with ⟨z1, z2, z3, z4, z5⟩ | ⟨z1, z2, z3⟩
        · refine AgI_v (v := σ 22 (32 / 2 ^ o + x / 2 ^ o)) (σ' := σ) (τ' := sf τ 6 0) ?_ ?_ (sf6 _ _) (INV_6 h 0)
          · unfold fX4_blockStarts fX4_isBlock fX4_blockIndex
            rw [e3, sb, if_neg i10, if_neg q, if_neg (fun z => p (e.mp z)), if_pos z1, sb, if_neg i10, sb, z3, rd_nI _ z5 (by decide), sb]
          · unfold fX5_blockStarts fX5_block
            rw [wf_sf, sb, e4, sb, if_neg i10, in_eq, if_pos ⟨q, p⟩, sb, if_neg i10, z2, sb, if_pos rfl, sb, z4, show (545 : Int32) + nI (32 / 2 ^ o + x / 2 ^ o) = nI (545 + (32 / 2 ^ o + x / 2 ^ o)) from nI_add 545 _, rd_nI _ (by omega) (by decide), sb, h0.2.2.2.2 _ z5]
        · refine bad ?_ ?_
          · unfold fX4_isBlock
            rw [e3, sb, if_neg i10, if_neg q, if_neg (fun z => p (e.mp z)), if_neg z1]
          · unfold fX5_blockStarts
            rw [wf_sf, sb, e4, sb, if_neg i10, in_eq, if_pos ⟨q, p⟩, sb, if_neg i10, z2, sb, if_neg z3]
            rfl
  · refine bad ?_ ?_
    · unfold fX4_isBlock
      rw [e3, sb, if_pos rfl]
    · unfold fX5_blockStarts
      rw [wf_sf, sb, e4, sb, if_pos rfl]
      rfl
