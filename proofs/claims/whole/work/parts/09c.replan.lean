/-! MATHEMATICS 10: usage, the queue, replanning -/
theorem lkP2 {β β' ρ ρ' : Type} {b : (Int32 → β → Option ρ) → Int32 → β → Option ρ} {b' : (Int32 → β' → Option ρ') → Int32 → β' → Option ρ'} {N : Nat} {I : Nat → β → β' → Prop} {P : Option ρ → Option ρ' → Prop} (hend : ∀ go go' x y, I N x y → P (b go (nI N) x) (b' go' (nI N) y)) (hstep : ∀ i x y, i < N → I i x y → ∃ x' y', (∀ go, b go (nI i) x = go (nI (i + 1)) x') ∧ (∀ go', b' go' (nI i) y = go' (nI (i + 1)) y') ∧ I (i + 1) x' y') : ∀ (d i : Nat) (x : β) (y : β') (fu fu' : Nat), i + d = N → d < fu → d < fu' → I i x y → P (lz2 b fu (nI i) x) (lz2 b' fu' (nI i) y) := by
  intro d
  induction d with
  | zero =>
    intro i x y fu fu' h hf hf' hI
    obtain ⟨fu, rfl⟩ : ∃ z, fu = z + 1 := ⟨fu - 1, by omega⟩
    obtain ⟨fu', rfl⟩ : ∃ z, fu' = z + 1 := ⟨fu' - 1, by omega⟩
    have : i = N := by omega
    subst this
    exact hend _ _ x y hI
  | succ d ih =>
    intro i x y fu fu' h hf hf' hI
    obtain ⟨fu, rfl⟩ : ∃ z, fu = z + 1 := ⟨fu - 1, by omega⟩
    obtain ⟨fu', rfl⟩ : ∃ z, fu' = z + 1 := ⟨fu' - 1, by omega⟩
    obtain ⟨x', y', h1, h2, h3⟩ := hstep i x y (by omega) hI
    rw [lz2_s, lz2_s, h1, h2]
    exact ih (i + 1) x' y' fu fu' (by omega) (by omega) (by omega) h3
theorem lkP3 {β β' γ γ' ρ ρ' : Type} {b : (Int32 → γ → β → Option ρ) → Int32 → γ → β → Option ρ} {b' : (Int32 → γ' → β' → Option ρ') → Int32 → γ' → β' → Option ρ'} {N : Nat} {I : Nat → γ → β → γ' → β' → Prop} {P : Option ρ → Option ρ' → Prop} (hend : ∀ go go' u x v y, I N u x v y → P (b go (nI N) u x) (b' go' (nI N) v y)) (hstep : ∀ i u x v y, i < N → I i u x v y → ∃ u' x' v' y', (∀ go, b go (nI i) u x = go (nI (i + 1)) u' x') ∧ (∀ go', b' go' (nI i) v y = go' (nI (i + 1)) v' y') ∧ I (i + 1) u' x' v' y') : ∀ (d i : Nat) (u : γ) (x : β) (v : γ') (y : β') (fu fu' : Nat), i + d = N → d < fu → d < fu' → I i u x v y → P (lz3 b fu (nI i) u x) (lz3 b' fu' (nI i) v y) := by
  intro d
  induction d with
  | zero =>
    intro i u x v y fu fu' h hf hf' hI
    obtain ⟨fu, rfl⟩ : ∃ z, fu = z + 1 := ⟨fu - 1, by omega⟩
    obtain ⟨fu', rfl⟩ : ∃ z, fu' = z + 1 := ⟨fu' - 1, by omega⟩
    have : i = N := by omega
    subst this
    exact hend _ _ u x v y hI
  | succ d ih =>
    intro i u x v y fu fu' h hf hf' hI
    obtain ⟨fu, rfl⟩ : ∃ z, fu = z + 1 := ⟨fu - 1, by omega⟩
    obtain ⟨fu', rfl⟩ : ∃ z, fu' = z + 1 := ⟨fu' - 1, by omega⟩
    obtain ⟨u', x', v', y', h1, h2, h3⟩ := hstep i u x v y (by omega) hI
    rw [lz3_s, lz3_s, h1, h2]
    exact ih (i + 1) u' x' v' y' fu fu' (by omega) (by omega) (by omega) h3
/-- the units of a job up to now -/
def un (σ : St) (j : Nat) : Int32 := if σ 8 j = 1 then σ 15 j + (σ 25 0 - σ 2 j) else σ 15 j + 0
theorem units_eq (n : Nat) (σ : St) {j : Nat} (hj : j < 24) : fX0_unitsUpToNow n σ (nI j) = some (un σ j) := by
  unfold fX0_unitsUpToNow un
  rw [rd_nI _ hj (by decide), sb, rd_nI _ (by omega) (by decide), rd_nI _ hj (by decide)]
  split <;> rfl
def usF (σ : St) (x : Int32) (j : Nat) (acc : Int32) : Int32 := if σ 4 j = x then acc + (un σ j <<< (σ 5 j &&& 31)) else acc
def us (σ : St) (c : Nat) (x : Int32) : Int32 := itF (usF σ x) 0 c 0
theorem usage_c {n : Nat} (hn : 25 ≤ n) {σ : St} {c : Nat} (hc : c ≤ 24) (h16 : σ 16 0 = nI c) (x : Int32) : fX0_usageOfUser n σ x = some (us σ c x) := by
  unfold fX0_usageOfUser
  refine lz2_for (N := c) (F := usF σ x) (k := some) (fun go a => ?_) (fun go j a hj => ?_) c 0 0 n (by omega) (by omega)
  · unfold fX0_usageOfUser_b4
    rw [h16, if_pos (nI_le (Nat.le_refl _) (by omega))]
  · have hj4 : j < 24 := by omega
    unfold fX0_usageOfUser_b4 usF
    rw [h16, if_neg (nI_ge hj (by omega)), rd_nI _ hj4 (by decide), sb, units_eq n σ hj4, sb, rd_nI _ hj4 (by decide), sb, nI_1]
    split <;> rfl
theorem usage_r {n : Nat} (hn : 25 ≤ n) {c r m E : Nat} {σ τ : St} (h : R0 c r DN m E σ (τ 0)) (x : Int32) : fX5_used n τ x = some (us σ c x) := by
  have hc : c ≤ 24 := h.1.1
  unfold fX5_used
  refine lz2_for (N := c) (F := usF σ x) (k := some) (fun go a => ?_) (fun go j a hj => ?_) c 0 0 n (by omega) (by omega)
  · unfold fX5_used_b4
    rw [g1, sb, h.1.2.2.2.1, if_pos (nI_le (Nat.le_refl _) (by omega))]
  · have hj4 : j < 24 := by omega
    obtain ⟨hF, -⟩ := h.2.1 j hj4
    have hF0 : τ 0 (5 + 14 * j + 0) = σ 4 j := hF 0 (by decide) id
    have hF4 : τ 0 (5 + 14 * j + 4) = σ 8 j := hF 4 (by decide) id
    have hF6 : τ 0 (5 + 14 * j + 6) = σ 2 j := hF 6 (by decide) id
    have hF1 : τ 0 (5 + 14 * j + 1) = σ 5 j := hF 1 (by decide) id
    have hF13 : τ 0 (5 + 14 * j + 13) = σ 15 j := hF 13 (by decide) id
    have hcl : τ 0 0 = σ 25 0 := h.1.2.2.2.2.2.2.1.symm
    unfold fX5_used_b4 usF fX5_usageOf un
    rw [g1, sb, h.1.2.2.2.1, if_neg (nI_ge hj (by omega)), of0 n τ hj4, sb, of13 n τ hj4, sb, of4 n τ hj4, sb, of6 n τ hj4, of1 n τ hj4, g0, hF0, hF4, hF6, hF1, hF13, hcl, nI_1]
    by_cases q : σ 4 j = x
    · rw [if_pos q, if_pos q]
      by_cases p : σ 8 j = 1
      · rw [if_pos p, if_pos p]; rfl
      · rw [if_neg p, if_neg p]; rfl
    · rw [if_neg q, if_neg q]
theorem un_congr {σ σ' : St} (h : ∀ k, k < 16 → σ' k = σ k) (h25 : σ' 25 0 = σ 25 0) (j : Nat) : un σ' j = un σ j := by
  unfold un
  rw [h 8 (by omega), h 15 (by omega), h 2 (by omega), h25]
/-- the usages that the queue looks at -/
def UQ (d : Nat) (x y : St) : Prop := ∀ u, u < d → (y 0 3 = 1 → x 24 u = y 3 u) ∧ (¬ y 0 3 = 1 → x 24 u = 0)
theorem goes_lk (n : Nat) {c r m E : Nat} {x y : St} (h : R0 c r DN m E x (y 0)) (hU : UQ 4 x y) {j q : Nat} (hq : q < j) (hj : j < c) : ∃ v : Int32, fX0_goesBefore n x (nI j) (nI q) = some v ∧ fX5_goesAhead n y (nI j) (nI q) = some v := by
  have hc : c ≤ 24 := h.1.1
  have hj4 : j < 24 := by omega
  have hq4 : q < 24 := by omega
  obtain ⟨hF, hV, -⟩ := h.2.1 j hj4
  obtain ⟨hF', hV', -⟩ := h.2.1 q hq4
  have e0 : y 0 (5 + 14 * j + 0) = x 4 j := hF 0 (by decide) id
  have e6 : y 0 (5 + 14 * j + 6) = x 2 j := hF 6 (by decide) id
  have e0' : y 0 (5 + 14 * q + 0) = x 4 q := hF' 0 (by decide) id
  have e6' : y 0 (5 + 14 * q + 6) = x 2 q := hF' 6 (by decide) id
  obtain ⟨⟨u, hu, eu⟩, -⟩ := hV hj
  obtain ⟨⟨w, hw, ew⟩, -⟩ := hV' (by omega)
  have hle : nI q ≤ nI j := nI_le (by omega) (by omega)
  have key : (Option.bind (some (x 2 j)) fun v2 => Option.bind (some (x 2 q)) fun v3 => if v2 = v3 then (if nI q ≤ nI j then some (0 : Int32) else some 1) else Option.bind (some (x 2 j)) fun v4 => Option.bind (some (x 2 q)) fun v5 => if v5 ≤ v4 then some 0 else some 1) = if x 2 q ≤ x 2 j then some 0 else some 1 := by
    rw [sb, sb, sb, sb]
    by_cases z : x 2 j = x 2 q
    · rw [if_pos z, if_pos hle, if_pos (by rw [z]; exact Int32.le_refl _)]
    · rw [if_neg z]
  unfold fX0_goesBefore fX5_goesAhead
  rw [rd_nI _ hj4 (by decide), sb, eu, rd_nI _ hu (by decide), sb, rd_nI _ hq4 (by decide), sb, ew, rd_nI _ hw (by decide), sb, rd_nI _ (by omega) (by decide), sb, rd_nI _ (by omega) (by decide), sb, g3, sb, of0 n y hj4, of0 n y hq4, of6 n y hj4, of6 n y hq4, e0, e0', e6, e6', eu, ew]
  rw [key]
  by_cases f : y 0 3 = 1
  · rw [(hU u hu).1 f, (hU w hw).1 f, if_pos f, sb, rd_nI _ hu (by decide), sb, sb, rd_nI _ hw (by decide), sb]
    by_cases z : y 3 u = y 3 w
    · rw [if_pos z, if_pos z]
      split
      · exact ⟨0, rfl, rfl⟩
      · exact ⟨1, rfl, rfl⟩
    · rw [if_neg z, if_neg z]
      rw [sb, rd_nI _ hu (by decide), sb, sb, rd_nI _ hw (by decide), sb]
      by_cases s : y 3 w ≤ y 3 u
      · rw [if_pos s]; exact ⟨0, rfl, rfl⟩
      · rw [if_neg s]; exact ⟨1, rfl, rfl⟩
  · rw [(hU u hu).2 f, (hU w hw).2 f, if_neg f, if_pos rfl]
    split
    · exact ⟨0, rfl, rfl⟩
    · exact ⟨1, rfl, rfl⟩
def vld (j : Nat) (x : St) (i : Nat) : Prop := ∃ q, q < j ∧ x 23 i = nI q ∧ x 8 q = 0
theorem RX_q {β : St} {c r : Nat} {D : Nat → Nat → Prop} {m E : Nat} {x y : St} (h : RX β c r D m E x y) (k : Nat) (v : Int32) : RX β c r D m E (st x 23 k v) (st y 2 k v) := by
  obtain ⟨hK, hQ, h0⟩ := h
  refine ⟨?_, fun i hi => ?_, ?_⟩
  · unfold RK at hK ⊢
    rw [st_row _ (by decide), st_row _ (by decide), st_row _ (by decide), st_row _ (by decide)]
    exact hK
  · rw [st_ap, st_ap, if_pos rfl, if_pos rfl, hQ i hi]
  · rw [st_row _ (by decide)]
    exact R0_cells (fun k _ h1 h2 => st_row _ h1) h0
theorem UQ_q {d : Nat} {x y : St} (h : UQ d x y) (k : Nat) (v : Int32) : UQ d (st x 23 k v) (st y 2 k v) := by
  unfold UQ at h ⊢
  rw [st_row _ (by decide), st_row _ (by decide), st_row _ (by decide)]
  exact h
theorem nI_m1 (k : Nat) : nI (k + 1) + (-1 : Int32) = nI k := by
  rw [← nI_pred k, Int32.sub_eq_add_neg]
theorem ins_lk {n : Nat} {β : St} {c r m E : Nat} {j len : Nat} (hj : j < c) (hl : len ≤ j) : ∀ (k fu fu' : Nat) (x y : St), k ≤ len → k < fu → k < fu' → RX β c r DN m E x y → UQ 4 x y → x 8 j = 0 → (∀ i, i ≤ len → i ≠ k → vld j x i) → ∃ x' y', lz2 (fX0_insertIntoQueue_b2 n (nI j)) fu (nI k) x = some x' ∧ (∀ go, lz2 (fX5_replans_b55 n (nI j) (nI len) go) fu' (nI k) y = go (nI (j + 1)) (nI (len + 1)) y') ∧ RX β c r DN m E x' y' ∧ UQ 4 x' y' ∧ (∀ i, i < len + 1 → vld (j + 1) x' i) ∧ (∀ k, k ≠ 23 → x' k = x k) := by
  intro k
  induction k with
  | zero =>
    intro fu fu' x y hk hf hf' hX hU h8 hv
    have hc : c ≤ 24 := hX.2.2.1.1
    obtain ⟨fu, rfl⟩ : ∃ z, fu = z + 1 := ⟨fu - 1, by omega⟩
    obtain ⟨fu', rfl⟩ : ∃ z, fu' = z + 1 := ⟨fu' - 1, by omega⟩
    refine ⟨st x 23 0 (nI j), st y 2 0 (nI j), ?_, fun go => ?_, RX_q hX _ _, UQ_q hU _ _, fun i hi => ?_, fun k hk => st_row _ hk⟩
    · rw [lz2_s, fX0_insertIntoQueue_b2, if_pos (by decide), fX0_insertIntoQueue_k2_42, wr_st _ _ _ (by omega) (by decide), sb]
    · rw [lz2_s, fX5_replans_b55, if_pos (by decide), fX5_replans_k55_95, wr_st _ _ _ (by omega) (by decide), sb, nI_1, nI_1]
    · by_cases e : i = 0
      · subst e
        exact ⟨j, by omega, st_eq _, by rw [st_row _ (by decide)]; exact h8⟩
      · obtain ⟨q, q1, q2, q3⟩ := hv i (by omega) e
        exact ⟨q, by omega, by rw [st_ne _ e]; exact q2, by rw [st_row _ (by decide)]; exact q3⟩
  | succ k ih =>
    intro fu fu' x y hk hf hf' hX hU h8 hv
    have hc : c ≤ 24 := hX.2.2.1.1
    obtain ⟨fu, rfl⟩ : ∃ z, fu = z + 1 := ⟨fu - 1, by omega⟩
    obtain ⟨fu', rfl⟩ : ∃ z, fu' = z + 1 := ⟨fu' - 1, by omega⟩
    obtain ⟨q, q1, q2, q3⟩ := hv k (by omega) (by omega)
    have q2' : y 2 k = nI q := by rw [← hX.2.1 k (by omega)]; exact q2
    obtain ⟨v, g1, g2⟩ := goes_lk n hX.2.2 hU q1 hj
    have hpos : ¬ nI (k + 1) ≤ 0 := nI_nle (by omega) (by omega)
    by_cases z : v = 0
    · refine ⟨st x 23 (k + 1) (nI j), st y 2 (k + 1) (nI j), ?_, fun go => ?_, RX_q hX _ _, UQ_q hU _ _, fun i hi => ?_, fun k hk => st_row _ hk⟩
      · rw [lz2_s, fX0_insertIntoQueue_b2, if_neg hpos, nI_pred, rd_nI _ (by omega) (by decide), sb, q2, g1, sb, if_pos z, fX0_insertIntoQueue_k2_42, wr_st _ _ _ (by omega) (by decide), sb]
      · rw [lz2_s, fX5_replans_b55, if_neg hpos, nI_pred, rd_nI _ (by omega) (by decide), sb, q2', g2, sb, if_pos z, fX5_replans_k55_95, wr_st _ _ _ (by omega) (by decide), sb, nI_1, nI_1]
      · by_cases e : i = k + 1
        · subst e
          exact ⟨j, by omega, st_eq _, by rw [st_row _ (by decide)]; exact h8⟩
        · obtain ⟨q, q1, q2, q3⟩ := hv i (by omega) e
          exact ⟨q, by omega, by rw [st_ne _ e]; exact q2, by rw [st_row _ (by decide)]; exact q3⟩
    · obtain ⟨x', y', a1, a2, a3, a4, a5, a6⟩ := ih fu fu' (st x 23 (k + 1) (nI q)) (st y 2 (k + 1) (nI q)) (by omega) (by omega) (by omega) (RX_q hX _ _) (UQ_q hU _ _) (by rw [st_row _ (by decide)]; exact h8) (fun i hi hik => by
        by_cases e : i = k + 1
        · subst e
          exact ⟨q, q1, st_eq _, by rw [st_row _ (by decide)]; exact q3⟩
        · obtain ⟨q', q1', q2', q3'⟩ := hv i hi e
          exact ⟨q', q1', by rw [st_ne _ e]; exact q2', by rw [st_row _ (by decide)]; exact q3'⟩)
      refine ⟨x', y', ?_, fun go => ?_, a3, a4, a5, fun k' hk' => by rw [a6 k' hk', st_row _ hk']⟩
      · rw [lz2_s, fX0_insertIntoQueue_b2, if_neg hpos, nI_pred, rd_nI _ (by omega) (by decide), sb, q2, g1, sb, if_neg z, sb, wr_st _ _ _ (by omega) (by decide), sb, nI_m1]
        exact a1
      · rw [lz2_s, fX5_replans_b55, if_neg hpos, nI_pred, rd_nI _ (by omega) (by decide), sb, q2', g2, sb, if_neg z, sb, wr_st _ _ _ (by omega) (by decide), sb, nI_m1]
        exact a2 go
/-- the queues are made -/
theorem queue_lk {n : Nat} (hn : 178 ≤ n) {β : St} {c r m E : Nat} {σ τ : St} (h : RX β c r DN m E σ τ) : ∃ len σq τq, len ≤ 24 ∧ fX0_queueWaiting n σ = some (nI len, σq) ∧ fX5_replans n τ = lz2 (fX5_replans_b110 n (nI len)) n 0 τq ∧ RX β c r DN m E σq τq ∧ (∀ i, i < len → vld c σq i) ∧ (∀ k, (k < 17 ∨ k = 25) → σq k = σ k) := by
  have hc : c ≤ 24 := h.2.2.1.1
  refine lkP2 (b := fX0_queueWaiting_b2 n) (b' := fX5_replans_b2 n) (N := 4) (I := fun d x y => RX β c r DN m E x y ∧ UQ d x y ∧ ∀ k, (k < 17 ∨ k = 25) → x k = σ k) (P := fun A B => ∃ len σq τq, len ≤ 24 ∧ A = some (nI len, σq) ∧ B = lz2 (fX5_replans_b110 n (nI len)) n 0 τq ∧ RX β c r DN m E σq τq ∧ (∀ i, i < len → vld c σq i) ∧ (∀ k, (k < 17 ∨ k = 25) → σq k = σ k)) (fun go go' x y hI => ?_) (fun u x y hu hI => ?_) 4 0 σ τ n n rfl (by omega) (by omega) ⟨h, fun u hu => absurd hu (by omega), fun _ _ => rfl⟩
  · obtain ⟨hX, hU, hfr⟩ := hI
    unfold fX0_queueWaiting_b2 fX5_replans_b2
    rw [if_pos (by decide), if_pos (by decide)]
    unfold fX0_queueWaiting_k2_35 fX5_replans_k2_24
    refine lkP3 (b := fX0_queueWaiting_b39 n) (b' := fX5_replans_b28 n) (N := c) (I := fun j u x v y => ∃ len, len ≤ j ∧ u = nI len ∧ v = nI len ∧ RX β c r DN m E x y ∧ UQ 4 x y ∧ (∀ i, i < len → vld j x i) ∧ (∀ k, (k < 17 ∨ k = 25) → x k = σ k)) (P := fun A B => ∃ len σq τq, len ≤ 24 ∧ A = some (nI len, σq) ∧ B = lz2 (fX5_replans_b110 n (nI len)) n 0 τq ∧ RX β c r DN m E σq τq ∧ (∀ i, i < len → vld c σq i) ∧ (∀ k, (k < 17 ∨ k = 25) → σq k = σ k)) (fun go go' u x v y hI => ?_) (fun j u x v y hj hI => ?_) c 0 0 x 0 y n n (by omega) (by omega) (by omega) ⟨0, by omega, rfl, rfl, hX, hU, fun i hi => absurd hi (by omega), hfr⟩
    · obtain ⟨len, l1, rfl, rfl, hX, hU, hv, hfr⟩ := hI
      refine ⟨len, x, y, by omega, ?_, ?_, hX, hv, hfr⟩
      · unfold fX0_queueWaiting_b39
        rw [hX.2.2.1.2.2.1, if_pos (nI_le (Nat.le_refl _) (by omega))]
      · unfold fX5_replans_b28
        rw [g1, sb, hX.2.2.1.2.2.2.1, if_pos (nI_le (Nat.le_refl _) (by omega))]
        rfl
    · obtain ⟨len, l1, rfl, rfl, hX, hU, hv, hfr⟩ := hI
      have hj4 : j < 24 := by omega
      have hF4 : y 0 (5 + 14 * j + 4) = x 8 j := (hX.2.2.2.1 j hj4).1 4 (by decide) id
      by_cases q : x 8 j = 0
      · obtain ⟨x', y', a1, a2, a3, a4, a5, a6⟩ := ins_lk (n := n) hj l1 len n n x y (Nat.le_refl _) (by omega) (by omega) hX hU q (fun i hi hne => hv i (by omega))
        refine ⟨nI (len + 1), x', nI (len + 1), y', fun go => ?_, fun go' => ?_, len + 1, by omega, rfl, rfl, a3, a4, a5, fun k hk => by rw [a6 k (by omega)]; exact hfr k hk⟩
        · unfold fX0_queueWaiting_b39
          rw [hX.2.2.1.2.2.1, if_neg (nI_ge hj (by omega)), rd_nI _ hj4 (by decide), sb, if_pos q]
          unfold fX0_insertIntoQueue
          rw [a1, sb, nI_1, nI_1]
        · unfold fX5_replans_b28
          rw [g1, sb, hX.2.2.1.2.2.2.1, if_neg (nI_ge hj (by omega)), of4 n y hj4, sb, hF4, if_pos q]
          exact a2 go'
      · refine ⟨nI len, x, nI len, y, fun go => ?_, fun go' => ?_, len, by omega, rfl, rfl, hX, hU, fun i hi => ?_, hfr⟩
        · unfold fX0_queueWaiting_b39
          rw [hX.2.2.1.2.2.1, if_neg (nI_ge hj (by omega)), rd_nI _ hj4 (by decide), sb, if_neg q, nI_1]
        · unfold fX5_replans_b28
          rw [g1, sb, hX.2.2.1.2.2.2.1, if_neg (nI_ge hj (by omega)), of4 n y hj4, sb, hF4, if_neg q, nI_1]
        · obtain ⟨q, q1, q2, q3⟩ := hv i hi
          exact ⟨q, by omega, q2, q3⟩
  · obtain ⟨hX, hU, hfr⟩ := hI
    have h4 : ¬ (4 : Int32) ≤ nI u := nI_ge (b := 4) hu (by decide)
    have hr := usage_r (n := n) (by omega) hX.2.2 (nI u)
    have hcu := usage_c (n := n) (by omega) hc hX.2.2.1.2.2.1 (nI u)
    have hf : x 27 0 = y 0 3 := hX.2.2.1.2.2.2.2.2.2.2.2.1
    have hf' : y 0 3 = 0 ∨ y 0 3 = 1 := hX.2.2.1.2.2.2.2.2.2.2.2.2
    have hRX : ∀ v, RX β c r DN m E (st x 24 u v) (st y 3 u (us x c (nI u))) := fun v => by
      obtain ⟨hK, hQ, h0⟩ := hX
      refine ⟨?_, fun i hi => ?_, ?_⟩
      · unfold RK at hK ⊢
        rw [st_row _ (by decide), st_row _ (by decide), st_row _ (by decide), st_row _ (by decide)]
        exact hK
      · rw [st_row _ (by decide), st_row _ (by decide)]
        exact hQ i hi
      · rw [st_row _ (by decide)]
        exact R0_cells (fun k _ h1 h2 => st_row _ h2) h0
    by_cases z : y 0 3 = 0
    · refine ⟨st x 24 u 0, st y 3 u (us x c (nI u)), fun go => ?_, fun go' => ?_, hRX 0, fun u' hu' => ⟨fun e => ?_, fun _ => ?_⟩, fun k hk => by rw [st_row _ (by omega)]; exact hfr k hk⟩
      · unfold fX0_queueWaiting_b2
        rw [if_neg h4, hf, if_pos z, wr_st _ _ _ hu (by decide), sb, nI_1]
      · unfold fX5_replans_b2
        rw [if_neg h4, hr, sb, wr_st _ _ _ hu (by decide), sb, nI_1]
      · rw [st_row _ (by decide), z] at e
        cases e
      · by_cases w : u' = u
        · rw [w, st_eq]
        · rw [st_ne _ w]
          exact (hU u' (by omega)).2 (by rw [z]; decide)
    · have z1 := hf'.resolve_left z
      refine ⟨st x 24 u (us x c (nI u)), st y 3 u (us x c (nI u)), fun go => ?_, fun go' => ?_, hRX _, fun u' hu' => ⟨fun _ => ?_, fun e => ?_⟩, fun k hk => by rw [st_row _ (by omega)]; exact hfr k hk⟩
      · unfold fX0_queueWaiting_b2
        rw [if_neg h4, hf, if_neg z, hcu, sb, wr_st _ _ _ hu (by decide), sb, nI_1]
      · unfold fX5_replans_b2
        rw [if_neg h4, hr, sb, wr_st _ _ _ hu (by decide), sb, nI_1]
      · by_cases w : u' = u
        · rw [w, st_eq, st_eq]
        · rw [st_ne _ w, st_ne _ w]
          exact (hU u' (by omega)).1 z1
      · rw [st_row _ (by decide)] at e
        exact absurd z1 e
def DQ (q : Nat) : Nat → Nat → Prop := fun j w => j = q ∧ w = 4
/-- a waiting job's allocation is taken away -/
theorem away_lk {β : St} {c r m E : Nat} {σ τ : St} (h : RX β c r DN m E σ τ) {q : Nat} (hq : q < c) : RX β c r (DQ q) m E (st σ 0 q 0) (st τ 0 (5 + 14 * q + 4) 4) := by
  obtain ⟨hK, hQ, h0⟩ := h
  have hc : c ≤ 24 := h0.1.1
  have hq4 : q < 24 := by omega
  obtain ⟨hF, hV, hA, hN⟩ := h0.2.1 q hq4
  refine ⟨RK_st hK, fun i hi => by rw [st_row _ (by decide), st_row _ (by decide)]; exact hQ i hi, R0_job (x := q) h0 (fun j w _ z => z.elim) (fun k _ j hj => st_ne _ hj) (fun k h1 _ _ _ _ => st_row _ (by omega)) (fun i _ hi => st_ne _ (by omega)) (fun k hk => by rw [st_row _ (by decide), st_ne _ (by omega)]; exact h0.2.2.2.2 k hk) hq4 ⟨fun w hw hd => ?_, fun _ => ?_, fun _ z => ?_, fun _ => st_eq _⟩⟩
  · have hw4 : w ≠ 4 := fun e => hd ⟨rfl, e⟩
    have e0 : ∀ w, w < 14 → cm w ≠ 0 := by decide
    rw [st_ne _ (by omega), st_row _ (e0 w hw)]
    exact hF w hw id
  · have g : ∀ k, k ≠ 0 → st σ 0 q 0 k = σ k := fun k hk => st_row _ hk
    have := hV hq
    unfold JV at this ⊢
    rw [g 4 (by decide), g 5 (by decide), g 6 (by decide), g 8 (by decide), g 12 (by decide), g 9 (by decide), g 2 (by decide), g 25 (by decide)]
    exact this
  · rw [st_eq] at z
    exact absurd (by decide) z
theorem replan_lk {n : Nat} (hn : 178 ≤ n) {β : St} {c r m E : Nat} {σ τ : St} (h : RX β c r DN m E σ τ) (hE0 : 1000 ≤ E) (hE : rmE m (E + 24 * (40 + 9 * m))) : ∃ σ' τ', fX0_replan n σ = some σ' ∧ fX5_replans n τ = some τ' ∧ RX β c r DN m (E + 24 * (40 + 9 * m)) σ' τ' ∧ (∀ k, 4 ≤ k → (k < 17 ∨ k = 25) → σ' k = σ k) := by
  have hc : c ≤ 24 := h.2.2.1.1
  obtain ⟨len, σq, τq, l1, h1, h2, h3, h4, h5⟩ := queue_lk hn h
  obtain ⟨e1, e2, e3⟩ := hE
  unfold fX0_replan
  rw [h1, b2s, h2]
  obtain ⟨r1, r2, k1, k2, k3⟩ := lk2 (b := fX0_replan_b7 n (nI len)) (b' := fX5_replans_b110 n (nI len)) (N := len) (I := fun i x y => RX β c r DN m (E + i * (40 + 9 * m)) x y ∧ (∀ i, i < len → vld c x i) ∧ (∀ k, 4 ≤ k → (k < 17 ∨ k = 25) → x k = σ k)) (P := fun x y => RX β c r DN m (E + len * (40 + 9 * m)) x y ∧ (∀ k, 4 ≤ k → (k < 17 ∨ k = 25) → x k = σ k)) (fun go go' x y hI => by
    refine ⟨x, y, ?_, ?_, hI.1, hI.2.2⟩
    · unfold fX0_replan_b7
      rw [if_pos (nI_le (Nat.le_refl _) (by omega))]
    · unfold fX5_replans_b110
      rw [if_pos (nI_le (Nat.le_refl _) (by omega))]) (fun i x y hi hI => by
    obtain ⟨hX, hv, hfr⟩ := hI
    obtain ⟨q, q1, q2, q3⟩ := hv i hi
    have hq4 : q < 24 := by omega
    have q2' : y 2 i = nI q := by rw [← hX.2.1 i (by omega)]; exact q2
    have hF6 : y 0 (5 + 14 * q + 6) = x 2 q := (hX.2.2.2.1 q hq4).1 6 (by decide) id
    have hB : (i + 1) * (40 + 9 * m) ≤ 24 * (40 + 9 * m) := Nat.mul_le_mul_right _ (by omega)
    have hS : (i + 1) * (40 + 9 * m) = i * (40 + 9 * m) + (40 + 9 * m) := Nat.succ_mul _ _
    obtain ⟨s, σ1, τ1, p1, p2, p3, p4, p5⟩ := plan_lk (n := n) (D' := DN) (by omega) (away_lk hX q1) ⟨e1, by omega, by omega⟩ q1 (by rw [st_row _ (by decide)]; exact q3) (fun w hd => Or.inl hd.2) (fun j w hd => Or.inr hd)
    rw [show E + i * (40 + 9 * m) + 40 + 9 * m = E + (i + 1) * (40 + 9 * m) by omega] at p4
    have hv1 : ∀ i, i < len → vld c σ1 i := fun i hi => by
      obtain ⟨q, q1, q2, q3⟩ := hv i hi
      exact ⟨q, q1, by rw [p5 23 (by omega), st_row _ (by decide)]; exact q2, by rw [p5 8 (by omega), st_row _ (by decide)]; exact q3⟩
    have hf1 : ∀ k, 4 ≤ k → (k < 17 ∨ k = 25) → σ1 k = σ k := fun k k1 k2 => by rw [p5 k k1, st_row _ (by omega)]; exact hfr k k1 k2
    by_cases z : x 2 q ≤ s
    · refine ⟨σ1, τ1, fun go => ?_, fun go' => ?_, p4, hv1, hf1⟩
      · unfold fX0_replan_b7 fX3_clearSlot
        rw [if_neg (nI_ge hi (by omega)), rd_nI _ (by omega) (by decide), sb, q2, rd_nI _ (by omega) (by decide), sb, wr_st _ _ _ (by omega) (by decide), sb, sb, p1, b2s, if_pos z, nI_1]
      · unfold fX5_replans_b110
        rw [if_neg (nI_ge hi (by omega)), rd_nI _ (by omega) (by decide), sb, q2', of6 n y hq4, sb, pt4 n y _ hq4, sb, p2, sb, of6 n _ hq4, sb, p3, hF6, if_pos z, nI_1]
    · obtain ⟨σ2, τ2, w1, w2, w3, w4, -, -⟩ := note_lk hn p4 5 (nI q)
      refine ⟨σ2, τ2, fun go => ?_, fun go' => ?_, w3, fun i hi => ?_, fun k k1 k2 => by rw [w4 k (by omega)]; exact hf1 k k1 k2⟩
      · unfold fX0_replan_b7 fX3_clearSlot
        rw [if_neg (nI_ge hi (by omega)), rd_nI _ (by omega) (by decide), sb, q2, rd_nI _ (by omega) (by decide), sb, wr_st _ _ _ (by omega) (by decide), sb, sb, p1, b2s, if_neg z, w1, sb, nI_1]
      · unfold fX5_replans_b110
        rw [if_neg (nI_ge hi (by omega)), rd_nI _ (by omega) (by decide), sb, q2', of6 n y hq4, sb, pt4 n y _ hq4, sb, p2, sb, of6 n _ hq4, sb, p3, hF6, if_neg z, w2, sb, nI_1]
      · obtain ⟨q, q1, q2, q3⟩ := hv1 i hi
        exact ⟨q, q1, by rw [w4 23 (by omega)]; exact q2, by rw [w4 8 (by omega)]; exact q3⟩) len 0 σq τq n n (by omega) (by omega) (by omega) ⟨⟨h3.1, h3.2.1, R0_mono (Nat.le_refl _) (by omega) h3.2.2⟩, h4, fun k _ hk => h5 k hk⟩
  have hB : len * (40 + 9 * m) ≤ 24 * (40 + 9 * m) := Nat.mul_le_mul_right _ l1
  exact ⟨r1, r2, k1, k2, ⟨k3.1.1, k3.1.2.1, R0_mono (Nat.le_refl _) (by omega) k3.1.2.2⟩, k3.2⟩
