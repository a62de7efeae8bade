/-! MATHEMATICS 8: the reference's earliest start -/
def eE : Nat → Int32
  | 0 => -1
  | i + 1 => nI i
theorem eE_1 (i : Nat) : eE i + 1 = eE (i + 1) := by
  cases i with
  | zero => decide
  | succ i => exact nI_1 i
def tE (σ : St) (o : Nat) (len best t : Int32) : Int32 := if t < σ 25 0 then best else if best ≤ t then best else if okC σ o len t = true then t else best
def slE (c k : Nat) : Nat := if k < c then k else 24 + (k - c)
def FE (σ : St) (o : Nat) (len : Int32) (c : Nat) : Nat → Int32 → Int32
  | 0, best => tE σ o len best (σ 25 0)
  | k + 1, best => if σ 0 (slE c k) = 0 then best else tE σ o len best (σ 3 (slE c k))
theorem slot_end {c r : Nat} {D : Nat → Nat → Prop} {m E : Nat} {σ : St} {a : Nat → Int32} (h : R0 c r D m E σ a) {k : Nat} (hk : k < 30) (h0 : ¬ σ 0 k = 0) : (σ 3 k).toInt ≤ (E : Int) := by
  rcases Nat.lt_or_ge k 24 with q | q
  · obtain ⟨-, -, hA, hN⟩ := h.2.1 k q
    by_cases p : k < c ∧ ¬ 2 ≤ a (5 + 14 * k + 4)
    · obtain ⟨o, i, h1, h2, h3, h4, h5, h6, h7, h8, h9⟩ := hA p.1 p.2
      rw [h8]; exact h9.1
    · exact absurd (hN p) h0
  · obtain ⟨-, hA, hN⟩ := h.2.2.1 (k - 24) (by omega)
    rw [show 24 + (k - 24) = k by omega] at hA hN
    by_cases p : k - 24 < r ∧ ¬ a (341 + 4 * (k - 24) + 3) = 0
    · obtain ⟨o, i, h1, h2, h3, h4, h5, h6, h7, h8, h9⟩ := hA p.1 p.2
      rw [h8]; exact h9.1
    · exact absurd (hN p) h0
theorem clk_lo {c r : Nat} {σ : St} {a : Nat → Int32} (h : RG c r σ a) : 0 ≤ (σ 25 0).toInt ∧ (σ 25 0).toInt ≤ 1000 := by
  obtain ⟨t, ht, e⟩ := h.2.2.2.2.2.2.2.1
  rw [h.2.2.2.2.2.2.1, e, nI_toInt (by omega)]
  omega
/-- what a length may be -/
def okL (m E : Nat) (len : Int32) : Prop := -(1000 * (m : Int)) ≤ len.toInt ∧ len.toInt ≤ 40 + 9 * (m : Int) ∧ m ≤ 520 ∧ E + 40 + 9 * m < 2147483647
theorem len_ok {m E : Nat} {len t : Int32} (hl : okL m E len) (h0 : 0 ≤ t.toInt) (h1 : t.toInt ≤ (E : Int) ∨ t.toInt ≤ 1000) : -2147483648 < (t + len).toInt := by
  obtain ⟨h2, h3, h4, h5⟩ := hl
  rw [ad_int (by omega) (by omega)]
  omega
/-- a step of the reference's search, at a unit that it looks at -/
theorem stepE {n : Nat} (hn : 33 ≤ n) {c r : Nat} {D : Nat → Nat → Prop} {m E : Nat} {σ τ : St} (h : R0 c r D m E σ (τ 0)) {o : Nat} (ho : o < 6) {len : Int32} (hl : okL m E len) {t : Int32} (ht : t.toInt ≤ (E : Int) ∨ t.toInt ≤ 1000) (go : Int32 → Option Int32) (best : Int32) : (if t < σ 25 0 then go best else if best ≤ t then go best else Option.bind (fX5_lowest n τ (nI o) t len) fun v9 => if v9 < 0 then go best else go t) = go (tE σ o len best t) := by
  unfold tE
  by_cases q : t < σ 25 0
  · rw [if_pos q, if_pos q]
  · rw [if_neg q, if_neg q]
    by_cases p : best ≤ t
    · rw [if_pos p, if_pos p]
    · rw [if_neg p, if_neg p]
      have hc := clk_lo h.1
      rw [lt_int] at q
      rw [lowest_eq hn h ho (len_ok hl (by omega) ht), sb, okC_lw]
      have e := resB_neg (σ := σ) ho (s := t) (len := len)
      cases hw : lw σ o t len with
      | none => rw [hw] at e; rw [if_pos (e.mpr rfl)]; rfl
      | some i => rw [hw] at e; rw [if_neg (fun z => by cases e.mp z)]; rfl
theorem earl_it {n : Nat} (hn : 33 ≤ n) {c r : Nat} {D : Nat → Nat → Prop} {m E : Nat} {σ τ : St} (h : R0 c r D m E σ (τ 0)) {o : Nat} (ho : o < 6) {len : Int32} (hl : okL m E len) : fX5_earliest n τ (nI o) len = some (itF (FE σ o len c) 0 (c + r + 1) 2147483647) := by
  have hc : c ≤ 24 := h.1.1
  have hr : r ≤ 6 := h.1.2.1
  have a1 : τ 0 1 = nI c := h.1.2.2.2.1
  have a2 : τ 0 2 = nI r := h.1.2.2.2.2.2.1
  have a0 : τ 0 0 = σ 25 0 := h.1.2.2.2.2.2.2.1.symm
  unfold fX5_earliest
  refine lz2_fe (e := eE) (N := c + r + 1) (F := FE σ o len c) (k := some) (fun go b => ?_) (fun go i b hi => ?_) (c + r + 1) 0 2147483647 n (by omega) (by omega)
  · unfold fX5_earliest_b6
    rw [g1, sb, g2, sb, a1, a2, nI_add]
    exact if_pos (nI_le (Nat.le_refl _) (by omega))
  · unfold fX5_earliest_b6
    rw [eE_1, g1, sb, g2, sb, a1, a2, nI_add, g0, sb, sb, a0]
    cases i with
    | zero =>
      rw [if_neg (show ¬ nI (c + r) ≤ eE 0 from fun q => nI_pos (n := c + r) (by omega) (Int32.lt_of_le_of_lt q (by decide)))]
      rw [if_pos (show eE 0 < nI c from Int32.lt_of_lt_of_le (show (-1 : Int32) < 0 by decide) (nI_pos' (by omega))), if_pos (show eE 0 < 0 by decide), sb]
      exact stepE hn h ho hl (Or.inr (clk_lo h.1).2) (go (eE (0 + 1))) b
    | succ k =>
      show (if nI (c + r) ≤ nI k then _ else _) = _
      rw [if_neg (nI_ge (by omega) (by omega))]
      by_cases q : k < c
      · rw [if_pos (show eE (k + 1) < nI c from nI_lt q (by omega)), if_neg (show ¬ eE (k + 1) < 0 from nI_pos (n := k) (by omega))]
        show (Option.bind (fX5_isAllocated n τ (nI k)) _) = _
        have hk : k < 24 := by omega
        obtain ⟨-, -, hA, hN⟩ := h.2.1 k hk
        rw [isAlloc_eq n τ hk, sb]
        show _ = go (eE (k + 1 + 1)) (if σ 0 (slE c k) = 0 then b else tE σ o len b (σ 3 (slE c k)))
        rw [show slE c k = k from if_pos q]
        by_cases p : (2 : Int32) ≤ τ 0 (5 + 14 * k + 4)
        · rw [if_pos p, if_pos rfl, if_pos (hN (fun z => z.2 p))]
        · obtain ⟨o2, i2, h1, h2, h3, h4, h5, h6, h7, h8, h9⟩ := hA q p
          rw [if_neg p, if_neg i10, if_neg (by rw [h5]; exact mk_ne o2 h1 i2 h2), h8]
          show (Option.bind (fX5_of n τ (nI k) 6) _) = _
          rw [of6 n τ hk, sb]
          show (Option.bind (fX5_of n τ (nI k) 2) _) = _
          rw [of2 n τ hk, sb, sb]
          exact stepE hn h ho hl (Or.inl h9.1) (go (eE (k + 1 + 1))) b
      · rw [if_neg (show ¬ eE (k + 1) < nI c from nI_nlt (by omega) (by omega)), sb]
        have hq : k - c < 6 := by omega
        rw [show eE (k + 1) - nI c = nI (k - c) from by
          show nI k - nI c = nI (k - c)
          rw [show nI k = nI (k - c) + nI c by rw [nI_add]; congr 1; omega]
          simp]
        obtain ⟨-, hA, hN⟩ := h.2.2.1 (k - c) hq
        rw [rs3 n τ hq, sb]
        show _ = go (eE (k + 1 + 1)) (if σ 0 (slE c k) = 0 then b else tE σ o len b (σ 3 (slE c k)))
        rw [show slE c k = 24 + (k - c) from if_neg q]
        by_cases p : τ 0 (341 + 4 * (k - c) + 3) = 0
        · rw [if_pos p, if_pos (hN (fun z => z.2 p))]
        · obtain ⟨o2, i2, h1, h2, h3, h4, h5, h6, h7, h8, h9⟩ := hA (by omega) p
          rw [if_neg p, if_neg (by rw [h5]; exact mk_ne o2 h1 i2 h2), h8, rs2 n τ hq, sb, sb, sb]
          exact stepE hn h ho hl (Or.inl h9.1) (go (eE (k + 1 + 1))) b
def EP (σ : St) (o : Nat) (len : Int32) (c d : Nat) (best : Int32) : Prop := (best = 2147483647 ∨ cand σ best ∧ okC σ o len best = true) ∧ (0 < d → okC σ o len (σ 25 0) = true → best ≤ σ 25 0) ∧ ∀ k, k + 1 < d → ¬ σ 0 (slE c k) = 0 → ¬ σ 3 (slE c k) < σ 25 0 → okC σ o len (σ 3 (slE c k)) = true → best ≤ σ 3 (slE c k)
theorem tE_le (σ : St) (o : Nat) (len best t : Int32) : tE σ o len best t ≤ best := by
  unfold tE
  split
  · exact Int32.le_refl _
  · split
    · exact Int32.le_refl _
    · rename_i q
      split
      · exact Int32.le_of_lt (Int32.not_le.mp q)
      · exact Int32.le_refl _
theorem tE_ok (σ : St) (o : Nat) (len best t : Int32) (h : ¬ t < σ 25 0) (hk : okC σ o len t = true) : tE σ o len best t ≤ t := by
  unfold tE
  rw [if_neg h]
  by_cases q : best ≤ t
  · rw [if_pos q]; exact q
  · rw [if_neg q, if_pos hk]; exact Int32.le_refl _
theorem tE_is (σ : St) (o : Nat) (len best t : Int32) : tE σ o len best t = best ∨ (tE σ o len best t = t ∧ ¬ t < σ 25 0 ∧ okC σ o len t = true) := by
  unfold tE
  by_cases q : t < σ 25 0
  · rw [if_pos q]; exact Or.inl rfl
  · rw [if_neg q]
    by_cases p : best ≤ t
    · rw [if_pos p]; exact Or.inl rfl
    · rw [if_neg p]
      by_cases s : okC σ o len t = true
      · rw [if_pos s]; exact Or.inr ⟨rfl, q, s⟩
      · rw [if_neg s]; exact Or.inl rfl
theorem EP_it {σ : St} {o : Nat} {len : Int32} {c r : Nat} (hc : c ≤ 24) (hr : r ≤ 6) : ∀ d, d ≤ c + r + 1 → EP σ o len c d (itF (FE σ o len c) 0 d 2147483647) := by
  intro d
  induction d with
  | zero => exact fun _ => ⟨Or.inl rfl, fun h => absurd h (by omega), fun k h => absurd h (by omega)⟩
  | succ d ih =>
    intro hd
    have ih := ih (by omega)
    rw [itF_last, Nat.zero_add]
    generalize itF (FE σ o len c) 0 d 2147483647 = b at ih
    obtain ⟨i1, i2, i3⟩ := ih
    cases d with
    | zero =>
      show EP σ o len c 1 (tE σ o len b (σ 25 0))
      refine ⟨?_, fun _ hk => tE_ok σ o len b _ Int32.lt_irrefl hk, fun k h => absurd h (by omega)⟩
      rcases tE_is σ o len b (σ 25 0) with e | ⟨e, e1, e2⟩
      · rw [e]; exact i1
      · rw [e]; exact Or.inr ⟨Or.inl rfl, e2⟩
    | succ k =>
      show EP σ o len c (k + 2) (if σ 0 (slE c k) = 0 then b else tE σ o len b (σ 3 (slE c k)))
      have hs : slE c k < 30 := by unfold slE; split <;> omega
      by_cases q : σ 0 (slE c k) = 0
      · rw [if_pos q]
        refine ⟨i1, fun _ => i2 (by omega), fun k' h' h1 => ?_⟩
        by_cases e : k' = k
        · rw [e] at h1; exact absurd q h1
        · exact i3 k' (by omega) h1
      · rw [if_neg q]
        refine ⟨?_, fun _ hk => Int32.le_trans (tE_le _ _ _ _ _) (i2 (by omega) hk), fun k' h' h1 h2 h3 => ?_⟩
        · rcases tE_is σ o len b (σ 3 (slE c k)) with e | ⟨e, e1, e2⟩
          · rw [e]; exact i1
          · rw [e]; exact Or.inr ⟨Or.inr ⟨_, hs, q, rfl, Int32.not_lt.mp e1⟩, e2⟩
        · by_cases e : k' = k
          · rw [e] at h2 h3 ⊢; exact tE_ok σ o len b _ h2 h3
          · exact Int32.le_trans (tE_le _ _ _ _ _) (i3 k' (by omega) h1 h2 h3)
theorem earl_eq {n : Nat} (hn : 33 ≤ n) {c r : Nat} {D : Nat → Nat → Prop} {m E : Nat} {σ τ : St} (h : R0 c r D m E σ (τ 0)) {o : Nat} (ho : o < 6) {len : Int32} (hl : okL m E len) : fX5_earliest n τ (nI o) len = some (erN σ o len 30 (σ 25 0)) := by
  have hc : c ≤ 24 := h.1.1
  have hr : r ≤ 6 := h.1.2.1
  rw [earl_it hn h ho hl]
  congr 1
  have hL := er_least (σ := σ) ho len
  have hP := EP_it (σ := σ) (o := o) (len := len) hc hr (c + r + 1) (Nat.le_refl _)
  generalize itF (FE σ o len c) 0 (c + r + 1) 2147483647 = b at hP
  obtain ⟨p1, p2, p3⟩ := hP
  have hall : ∀ u, cand σ u → okC σ o len u = true → b ≤ u := by
    intro u hu hok
    rcases hu with hu | ⟨k, hk, e1, e2, e3⟩
    · rw [hu] at hok ⊢; exact p2 (by omega) hok
    · by_cases q1 : k < c
      · have e : slE c k = k := if_pos q1
        have := p3 k (by omega)
        rw [e, e2] at this
        exact this e1 (Int32.not_lt.mpr e3) hok
      · by_cases q2 : 24 ≤ k ∧ k < 24 + r
        · have e : slE c (c + (k - 24)) = k := by unfold slE; rw [if_neg (by omega)]; omega
          have := p3 (c + (k - 24)) (by omega)
          rw [e, e2] at this
          exact this e1 (Int32.not_lt.mpr e3) hok
        · exact absurd (slot_hi h hk q1 q2) e1
  rcases p1 with p1 | ⟨p1, p4⟩
  · exfalso
    have := hall _ hL.1 hL.2.1
    rw [p1, le_int, show (2147483647 : Int32).toInt = 2147483647 from rfl] at this
    obtain ⟨-, -, -, hE⟩ := hl
    rcases hL.1 with hu | ⟨k, hk, e1, e2, e3⟩
    · have := (clk_lo h.1).2
      rw [← hu] at this
      omega
    · have := slot_end h hk e1
      rw [e2] at this
      omega
  · exact least_uniq ⟨p1, p4, hall⟩ hL
theorem er_bound {c r : Nat} {D : Nat → Nat → Prop} {m E : Nat} {σ : St} {a : Nat → Int32} (h : R0 c r D m E σ a) {o : Nat} (ho : o < 6) (len : Int32) : (erN σ o len 30 (σ 25 0)).toInt ≤ max (E : Int) 1000 ∧ σ 25 0 ≤ erN σ o len 30 (σ 25 0) ∧ ∃ i, lw σ o (erN σ o len 30 (σ 25 0)) len = some i := by
  have hL := er_least (σ := σ) ho len
  refine ⟨?_, ?_, ?_⟩
  · rcases hL.1 with hu | ⟨k, hk, e1, e2, e3⟩
    · have := (clk_lo h.1).2
      rw [hu]; omega
    · have := slot_end h hk e1
      rw [e2] at this
      omega
  · rcases hL.1 with hu | ⟨k, hk, e1, e2, e3⟩
    · rw [hu]; exact Int32.le_refl _
    · exact e3
  · have := hL.2.1
    rw [okC_lw] at this
    exact Option.isSome_iff_exists.mp this
