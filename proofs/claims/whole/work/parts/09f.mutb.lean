/-! MATHEMATICS 13: cancel, preempt, advance -/
theorem gone_lk {β : St} {c r m E : Nat} {σ τ τ1 : St} (h : RX β c r DN m E σ τ) {x : Nat} (hx : x < c) (ht : τ1 = st (st τ 0 (5 + 14 * x + 13) (un σ x)) 0 (5 + 14 * x + 4) 3) : RX β c r DN m E (st (st (st σ 15 x (un σ x)) 8 x 3) 0 x 0) τ1 := by
  have hc : c ≤ 24 := h.2.2.1.1
  obtain ⟨hF, hV, hA, hN⟩ := h.2.2.2.1 x (by omega)
  subst ht
  refine leave_lk h (Nat.le_refl m) (s := 3) hx (by omega) (by omega) (fun k j hj => by rw [st_ne _ hj, st_ne _ hj, st_ne _ hj]) (fun k hk => by rw [st_row _ (by omega), st_row _ (by omega), st_row _ (by omega)]) (fun k hk => by rw [st_row _ hk, st_row _ hk]) (fun i hi => by rw [st_ne _ (by omega), st_ne _ (by omega)]) (fun w hw h4 => ?_) (st_eq _) (by rw [st_row _ (by decide), st_eq]; rfl) (st_eq _) (by rw [st_row _ (by decide), st_row _ (by decide), st_row _ (by decide)]) (by rw [st_row _ (by decide), st_row _ (by decide), st_row _ (by decide)]) (by rw [st_row _ (by decide), st_row _ (by decide), st_row _ (by decide)]) (by rw [st_row _ (by decide), st_row _ (by decide), st_row _ (by decide)]) ?_
  · have e0 : ∀ w, w < 14 → w ≠ 4 → cm w ≠ 0 ∧ cm w ≠ 8 ∧ (w ≠ 13 → cm w ≠ 15) := by decide
    obtain ⟨f1, f2, f3⟩ := e0 w hw h4
    by_cases z : w = 13
    · subst z
      rw [st_ne _ (by omega), st_eq]
      show _ = st (st (st σ 15 x (un σ x)) 8 x 3) 0 x 0 15 x
      rw [st_row _ (by decide), st_row _ (by decide), st_eq]
    · rw [show st (st (st σ 15 x (un σ x)) 8 x 3) 0 x 0 (cm w) = σ (cm w) by rw [st_row _ f1, st_row _ f2, st_row _ (f3 z)], st_ne _ (by omega), st_ne _ (by omega)]
      exact hF w hw id
  · rw [st_row _ (by decide), st_row _ (by decide), st_row _ (by decide)]
    exact (hV hx).2.2.1
theorem st_same (τ : St) {k i : Nat} {v : Int32} (h : τ k i = v) : st τ k i v = τ := by
  funext k' i'
  rw [st_ap]
  by_cases q : k' = k
  · rw [if_pos q]
    by_cases p : i' = i
    · rw [if_pos p, q, p, h]
    · rw [if_neg p]
  · rw [if_neg q]
theorem L_cancel {n : Nat} (hn : 700 ≤ n) {j : Nat} {σ2 σ τ : St} (hj : j < 512) (h : INV j σ2 σ τ) (a1 : Int32) : AgI [xIO, xIS] (fX4_cancel n σ a1) (fX5_cancel n τ a1) (fun σ' τ' => INV (j + 1) σ2 σ' τ') := by
  have hb := EE_b hj
  have hs := EE_s j
  have hE0 := EE_1 j
  obtain ⟨c, r, hX⟩ := INV_o h
  have h0 := hX.2.2
  have hc : c ≤ 24 := h0.1.1
  have h16 : σ 16 0 = nI c := h0.1.2.2.1
  have h1 : sf τ 6 0 0 1 = nI c := h0.1.2.2.2.1
  rcases job_cs n hc h16 h1 a1 with ⟨x, hx, rfl, e1, e2⟩ | ⟨e1, e2⟩
  · have hx4 : x < 24 := by omega
    obtain ⟨hF, hV, hA, hN⟩ := h0.2.1 x hx4
    have hF4 : sf τ 6 0 0 (5 + 14 * x + 4) = σ 8 x := hF 4 (by decide) id
    have hF13 : sf τ 6 0 0 (5 + 14 * x + 13) = σ 15 x := hF 13 (by decide) id
    have hF6 : sf τ 6 0 0 (5 + 14 * x + 6) = σ 2 x := hF 6 (by decide) id
    have hcl : sf τ 6 0 0 0 = σ 25 0 := h0.1.2.2.2.2.2.2.1.symm
    have hr : rmE j (EE j + 24 * (40 + 9 * j)) := ⟨by omega, by omega, by omega⟩
    have hX1 := gone_lk hX hx rfl
    obtain ⟨σ3, σ4, σ5, τ3, τ4, τ5, b1, b2, b3, b4, b5, b6, b7⟩ := tail_lk (n := n) (by omega) hX1 hE0 hr 3 (nI x)
    obtain ⟨i1, i2⟩ := INV_c h b7 (by omega) (by omega)
    have hd : fX0_dropJob n σ (nI x) = some σ5 := by
      unfold fX0_dropJob
      rw [endRun_eq n σ hx4, sb, clearSlot_eq n _ (by omega), sb, b1, sb, b2, sb, b3, sb]
    rcases st_cs h0 hx with z | z | ⟨z1, z2, z3, z4⟩
    · refine AgI_v (v := 0) (σ' := mrg σ σ5) (τ' := τ5) ?_ ?_ i2 i1
      · unfold fX4_cancel fX4_checkAllocated
        rw [e1, bx_r, rd_nI _ hx4 (by decide), sb, if_pos z, bx_r, rd_nI _ hx4 (by decide), sb, hd, sb, sb, z]
      · unfold fX5_cancel
        rw [wf_sf, sb, e2, sb, if_neg i10, of4 n _ hx4, sb, hF4, z, if_pos (by decide), if_neg (by decide), pt4 n _ _ hx4, sb]
        rw [st_same (sf τ 6 0) (show sf τ 6 0 0 (5 + 14 * x + 13) = un σ x by unfold un; rw [hF13, z, if_neg (by decide)]; simp)] at b4
        rw [b4, sb, b5, sb, b6, sb]
    · refine AgI_v (v := 1) (σ' := mrg σ σ5) (τ' := τ5) ?_ ?_ i2 i1
      · unfold fX4_cancel fX4_checkAllocated
        rw [e1, bx_r, rd_nI _ hx4 (by decide), sb, z, if_neg i10, if_pos rfl, bx_r, rd_nI _ hx4 (by decide), sb, z, hd, sb, sb]
      · unfold fX5_cancel
        rw [wf_sf, sb, e2, sb, if_neg i10, of4 n _ hx4, sb, hF4, z, if_pos (by decide), if_pos rfl, of13 n _ hx4, sb, g0, sb, of6 n _ hx4, sb, hF13, hcl, hF6, add_sub3, pt13 n _ _ hx4, sb, pt4 n _ _ hx4, sb]
        rw [show un σ x = σ 15 x + (σ 25 0 - σ 2 x) by unfold un; rw [if_pos z]] at b4
        rw [b4, sb, b5, sb, b6, sb]
    · refine AgI_t (X := xIS) (b := 0) (σ' := σ) (τ' := sf (sf τ 6 0) 6 2) ?_ ?_ (by simp) (by rw [sf6, cd2 ne_SO]) (INV_66 h 0 2)
      · unfold fX4_cancel fX4_checkAllocated
        rw [e1, bx_r, rd_nI _ hx4 (by decide), sb, if_neg z1, if_neg z2, bx_l]
      · unfold fX5_cancel
        rw [wf_sf, sb, e2, sb, if_neg i10, of4 n _ hx4, sb, hF4, if_neg z3]
        rfl
  · refine AgI_t (X := xIO) (b := 0) (σ' := σ) (τ' := sf (sf τ 6 0) 6 1) ?_ ?_ (by simp) (by rw [sf6, cd1]) (INV_66 h 0 1)
    · unfold fX4_cancel
      rw [e1, bx_l]
    · unfold fX5_cancel
      rw [wf_sf, sb, e2, sb, if_pos rfl]
      rfl
/-- a preempted job waits again -/
theorem back_lk {β : St} {c r m E : Nat} {σ τ : St} (h : RX β c r DN m E σ τ) {x : Nat} (hx : x < c) (h8 : σ 8 x = nI 4) : RX β c r (DQ x) m E (st σ 8 x 0) τ := by
  obtain ⟨hK, hQ, h0⟩ := h
  have hc : c ≤ 24 := h0.1.1
  have hx4 : x < 24 := by omega
  obtain ⟨hF, hV, hA, hN⟩ := h0.2.1 x hx4
  have hF4 : τ 0 (5 + 14 * x + 4) = σ 8 x := hF 4 (by decide) id
  refine ⟨hK, fun i hi => by rw [st_row _ (by decide)]; exact hQ i hi, R0_job (x := x) h0 (fun _ _ _ z => z.elim) (fun k _ j hj => st_ne _ hj) (fun k h1 _ _ _ _ => st_row _ (by omega)) (fun _ _ _ => rfl) (fun k hk => by rw [st_row _ (by decide)]; exact h0.2.2.2.2 k hk) hx4 ⟨fun w hw hd => ?_, fun _ => ?_, fun _ p => ?_, fun q => ?_⟩⟩
  · have e : ∀ w, w < 14 → w ≠ 4 → cm w ≠ 8 := by decide
    rw [st_row _ (e w hw (fun z => hd ⟨rfl, z⟩))]
    exact hF w hw id
  · obtain ⟨v1, v2, v3, v5, v6, v7, v8⟩ := hV hx
    refine ⟨by rw [st_row _ (by decide)]; exact v1, by rw [st_row _ (by decide)]; exact v2, by rw [st_row _ (by decide)]; exact v3, ⟨0, by decide, st_eq _⟩, by rw [st_row _ (by decide)]; exact v6, by rw [st_row _ (by decide)]; exact v7, fun z => ?_⟩
    rw [st_eq] at z
    cases z
  · rw [hF4, h8] at p
    exact absurd (by decide) p
  · rw [st_row _ (by decide)]
    exact hN q
theorem pre_sum (a c u : Int32) : a + (c - u) = a - u + c := by
  rw [Int32.sub_eq_add_neg, Int32.sub_eq_add_neg, Int32.add_comm c, ← Int32.add_assoc]
/-- the class' state of a preempted job, ahead of the log -/
def ptS (σ : St) (x : Nat) (k u : Int32) : St := st (st (st (st (st (st σ 6 x (σ 6 x + (k - u))) 7 x (σ 7 x + (k - u))) 14 x (σ 14 x + 1)) 15 x (σ 15 x + u)) 8 x 4) 0 x 0
def ptR (τ : St) (x : Nat) (k u : Int32) : St := st (st (st (st (st τ 0 (5 + 14 * x + 13) (τ 0 (5 + 14 * x + 13) + u)) 0 (5 + 14 * x + 2) (τ 0 (5 + 14 * x + 2) - u + k)) 0 (5 + 14 * x + 3) (τ 0 (5 + 14 * x + 3) - u + k)) 0 (5 + 14 * x + 11) (τ 0 (5 + 14 * x + 11) + 1)) 0 (5 + 14 * x + 4) 4
theorem pre_lk {β : St} {c r m E : Nat} {σ τ : St} (h : RX β c r DN m E σ τ) (hm : m ≤ 512) {x : Nat} (hx : x < c) {k u : Int32} (hk0 : 0 ≤ k.toInt) (hk9 : k.toInt ≤ 9) (hu0 : 0 ≤ u.toInt) (hu1 : u.toInt ≤ 1000) : RX β c r DN (m + 1) E (ptS σ x k u) (ptR τ x k u) := by
  have hc : c ≤ 24 := h.2.2.1.1
  obtain ⟨hF, hV, hA, hN⟩ := h.2.2.2.1 x (by omega)
  have hF2 : τ 0 (5 + 14 * x + 2) = σ 6 x := hF 2 (by decide) id
  have hF3 : τ 0 (5 + 14 * x + 3) = σ 7 x := hF 3 (by decide) id
  have hF11 : τ 0 (5 + 14 * x + 11) = σ 14 x := hF 11 (by decide) id
  have hF13 : τ 0 (5 + 14 * x + 13) = σ 15 x := hF 13 (by decide) id
  obtain ⟨-, -, ⟨w1, w2⟩, -⟩ := hV hx
  have e6 : ptS σ x k u 6 x = σ 6 x + (k - u) := by unfold ptS; rw [st_row _ (by decide), st_row _ (by decide), st_row _ (by decide), st_row _ (by decide), st_row _ (by decide), st_eq]
  refine leave_lk h (Nat.le_succ m) (s := 4) hx (by omega) (by omega) (fun k j hj => by unfold ptS; rw [st_ne _ hj, st_ne _ hj, st_ne _ hj, st_ne _ hj, st_ne _ hj, st_ne _ hj]) (fun k hk => by unfold ptS; rw [st_row _ (by omega), st_row _ (by omega), st_row _ (by omega), st_row _ (by omega), st_row _ (by omega), st_row _ (by omega)]) (fun k hk => by unfold ptR; rw [st_row _ hk, st_row _ hk, st_row _ hk, st_row _ hk, st_row _ hk]) (fun i hi => by unfold ptR; rw [st_ne _ (by omega), st_ne _ (by omega), st_ne _ (by omega), st_ne _ (by omega), st_ne _ (by omega)]) ?_ (by unfold ptR; rw [st_eq]; rfl) (by unfold ptS; rw [st_row _ (by decide), st_eq]; rfl) (st_eq _) ?_ ?_ ?_ ?_ ?_
  · have f0 : τ 0 (5 + 14 * x + 0) = σ 4 x := hF 0 (by decide) id
    have f1 : τ 0 (5 + 14 * x + 1) = σ 5 x := hF 1 (by decide) id
    have f5 : τ 0 (5 + 14 * x + 5) = σ 1 x := hF 5 (by decide) id
    have f6 : τ 0 (5 + 14 * x + 6) = σ 2 x := hF 6 (by decide) id
    have f7 : τ 0 (5 + 14 * x + 7) = σ 11 x := hF 7 (by decide) id
    have f8 : τ 0 (5 + 14 * x + 8) = σ 10 x := hF 8 (by decide) id
    have f9 : τ 0 (5 + 14 * x + 9) = σ 9 x := hF 9 (by decide) id
    have f10 : τ 0 (5 + 14 * x + 10) = σ 13 x := hF 10 (by decide) id
    have f12 : τ 0 (5 + 14 * x + 12) = σ 12 x := hF 12 (by decide) id
    simp only [Nat.add_zero] at f0
    refine w14 ?_ ?_ ?_ ?_ (fun q => absurd rfl q) ?_ ?_ ?_ ?_ ?_ ?_ ?_ ?_ ?_
    all_goals (intro _; simp [ptR, ptS, st_ap, cm, f0, f1, f5, f6, f7, f8, f9, f10, f12, hF2, hF3, hF11, hF13, pre_sum])
  · simp [ptS, st_ap]
  · simp [ptS, st_ap]
  · simp [ptS, st_ap]
  · simp [ptS, st_ap]
  · rw [e6]
    have d1 : (k - u).toInt = k.toInt - u.toInt := su_int (by omega) (by omega)
    have d2 : (σ 6 x + (k - u)).toInt = (σ 6 x).toInt + (k - u).toInt := ad_int (by omega) (by omega)
    omega
theorem interrupt_lk {n : Nat} (hn : 178 ≤ n) {β : St} {c r m E : Nat} {σ τ : St} (h : RX β c r DN m E σ τ) (hm : m ≤ 512) (hE0 : 1000 ≤ E) (hE : rmE (m + 1) (E + 25 * (40 + 9 * (m + 1)))) {x : Nat} (hx : x < c) (h8 : σ 8 x = 1) {k : Int32} (hk0 : 0 ≤ k.toInt) (hk9 : k.toInt ≤ 9) : ∃ v σ' τ', fX0_interrupt n σ (nI x) k = some (v, σ') ∧ (Option.bind (fX5_records n (ptR τ x k (τ 0 0 - τ 0 (5 + 14 * x + 6))) 4 (nI x)) fun s16 => Option.bind (fX5_replans n s16) fun s17 => Option.bind (fX5_plans n s17 (nI x)) fun s18 => Option.bind (fX5_of n s18 (nI x) 6) fun v19 => Option.bind (fX5_starts n s18) fun s20 => some (v19, s20)) = some (v, τ') ∧ RX β c r DN (m + 1) (E + 25 * (40 + 9 * (m + 1))) σ' τ' := by
  have hc : c ≤ 24 := h.2.2.1.1
  have hx4 : x < 24 := by omega
  obtain ⟨hF, hV, hA, hN⟩ := h.2.2.2.1 x hx4
  have hF6 : τ 0 (5 + 14 * x + 6) = σ 2 x := hF 6 (by decide) id
  have hcl : τ 0 0 = σ 25 0 := h.2.2.1.2.2.2.2.2.2.1.symm
  have hck := clk_lo h.2.2.1
  obtain ⟨-, -, -, -, -, -, w7⟩ := hV hx
  obtain ⟨y1, y2⟩ := w7 h8
  rw [lt_int, show (0 : Int32).toInt = 0 from rfl] at y1
  rw [le_int] at y2
  have hu : (σ 25 0 - σ 2 x).toInt = (σ 25 0).toInt - (σ 2 x).toInt := su_int (by omega) (by omega)
  obtain ⟨e1, e2, e3⟩ := hE
  rw [hcl, hF6]
  have h1 := pre_lk h hm hx hk0 hk9 (u := σ 25 0 - σ 2 x) (by omega) (by omega)
  obtain ⟨σ3, τ3, a1, a2, a3, a4, -, -⟩ := note_lk hn h1 4 (nI x)
  obtain ⟨σ4, τ4, b1, b2, b3, b4⟩ := replan_lk hn a3 hE0 ⟨by omega, by omega, by omega⟩
  have h84 : σ4 8 x = nI 4 := by
    rw [b4 8 (by omega) (by omega), a4 8 (by omega)]
    simp [ptS, st_ap]; rfl
  have h2 := back_lk b3 hx h84
  obtain ⟨s, σ5, τ5, c1, c2, c3, c4, c5⟩ := plan_lk (n := n) (D' := DN) (by omega) h2 ⟨by omega, by omega, by omega⟩ hx (st_eq _) (fun w d => Or.inl d.2) (fun j w d => Or.inr d)
  obtain ⟨σ6, τ6, d1, d2, d3, d4⟩ := start_lk hn c4
  refine ⟨s, σ6, τ6, ?_, ?_, by
    have e : E + 24 * (40 + 9 * (m + 1)) + 40 + 9 * (m + 1) = E + 25 * (40 + 9 * (m + 1)) := by omega
    rw [e] at d3; exact d3⟩
  · unfold fX0_interrupt
    rw [rd_nI _ (by omega) (by decide), sb, rd_nI _ hx4 (by decide), sb, wr_st _ _ _ hx4 (by decide), sb, rd_nI _ hx4 (by decide), sb, wr_st _ _ _ hx4 (by decide), sb, rd_nI _ hx4 (by decide), sb, wr_st _ _ _ hx4 (by decide), sb, endRun_eq n _ hx4, sb, clearSlot_eq n _ (by omega), sb]
    have ep : st (st (st (st (st (st σ 6 x (σ 6 x + (k - (σ 25 0 - σ 2 x)))) 7 x (st σ 6 x (σ 6 x + (k - (σ 25 0 - σ 2 x))) 7 x + (k - (σ 25 0 - σ 2 x)))) 14 x (st (st σ 6 x (σ 6 x + (k - (σ 25 0 - σ 2 x)))) 7 x (st σ 6 x (σ 6 x + (k - (σ 25 0 - σ 2 x))) 7 x + (k - (σ 25 0 - σ 2 x))) 14 x + 1)) 15 x (un (st (st (st σ 6 x (σ 6 x + (k - (σ 25 0 - σ 2 x)))) 7 x (st σ 6 x (σ 6 x + (k - (σ 25 0 - σ 2 x))) 7 x + (k - (σ 25 0 - σ 2 x)))) 14 x (st (st σ 6 x (σ 6 x + (k - (σ 25 0 - σ 2 x)))) 7 x (st σ 6 x (σ 6 x + (k - (σ 25 0 - σ 2 x))) 7 x + (k - (σ 25 0 - σ 2 x))) 14 x + 1)) x)) 8 x 4) 0 x 0 = ptS σ x k (σ 25 0 - σ 2 x) := by
      have u1 : un (st (st (st σ 6 x (σ 6 x + (k - (σ 25 0 - σ 2 x)))) 7 x (st σ 6 x (σ 6 x + (k - (σ 25 0 - σ 2 x))) 7 x + (k - (σ 25 0 - σ 2 x)))) 14 x (st (st σ 6 x (σ 6 x + (k - (σ 25 0 - σ 2 x)))) 7 x (st σ 6 x (σ 6 x + (k - (σ 25 0 - σ 2 x))) 7 x + (k - (σ 25 0 - σ 2 x))) 14 x + 1)) x = σ 15 x + (σ 25 0 - σ 2 x) := by
        unfold un
        simp [st_ap, h8]
      have u2 : st σ 6 x (σ 6 x + (k - (σ 25 0 - σ 2 x))) 7 x = σ 7 x := by rw [st_row _ (by decide)]
      rw [u1, u2]
      have u3 : st (st σ 6 x (σ 6 x + (k - (σ 25 0 - σ 2 x)))) 7 x (σ 7 x + (k - (σ 25 0 - σ 2 x))) 14 x = σ 14 x := by rw [st_row _ (by decide), st_row _ (by decide)]
      rw [u3]
      rfl
    rw [ep, a1, sb, b1, sb, wr_st _ _ _ hx4 (by decide), sb, c1, b2s, d1, sb]
  · rw [a2, sb, b2, sb, c2, sb, of6 n _ hx4, sb, c3, d2, sb]
theorem L_preempt {n : Nat} (hn : 700 ≤ n) {j : Nat} {σ2 σ τ : St} (hj : j < 512) (h : INV j σ2 σ τ) (a1 a2 : Int32) : AgI [xIO, xIA, xIS] (fX4_preempt n σ a1 a2) (fX5_preempt n τ a1 a2) (fun σ' τ' => INV (j + 1) σ2 σ' τ') := by
  have hb := EE_b hj
  have hs := EE_s j
  have hE0 := EE_1 j
  obtain ⟨c, r, hX⟩ := INV_o h
  have h0 := hX.2.2
  have hc : c ≤ 24 := h0.1.1
  have h16 : σ 16 0 = nI c := h0.1.2.2.1
  have h1 : sf τ 6 0 0 1 = nI c := h0.1.2.2.2.1
  rcases job_cs n hc h16 h1 a1 with ⟨x, hx, rfl, e1, e2⟩ | ⟨e1, e2⟩
  · have hx4 : x < 24 := by omega
    have hF4 : sf τ 6 0 0 (5 + 14 * x + 4) = σ 8 x := (h0.2.1 x hx4).1 4 (by decide) id
    by_cases q : a2 < 0
    · refine AgI_t (X := xIA) (b := 0) (σ' := σ) (τ' := sf (sf τ 6 0) 6 2) ?_ ?_ (by simp) (by rw [sf6, cd2 ne_AO]) (INV_66 h 0 2)
      · unfold fX4_preempt
        rw [e1, bx_r, if_pos q]
      · unfold fX5_preempt
        rw [wf_sf, sb, e2, sb, if_neg i10, in_eq, if_neg (fun z => z.1 q), sb, if_pos rfl]
        rfl
    · by_cases p : a2 ≤ 9
      · by_cases z : σ 8 x = 1
        · obtain ⟨v, σ', τ', b1, b2, b3⟩ := interrupt_lk (n := n) (by omega) hX (by omega) hE0 ⟨by omega, by omega, by omega⟩ hx z (k := a2) (by rw [lt_int, show (0 : Int32).toInt = 0 from rfl] at q; omega) (by rw [le_int, show (9 : Int32).toInt = 9 from rfl] at p; omega)
          obtain ⟨i1, i2⟩ := INV_c h b3 (by omega) (by omega)
          refine AgI_v (v := v) (σ' := mrg σ σ') (τ' := τ') ?_ ?_ i2 i1
          · unfold fX4_preempt
            rw [e1, bx_r, if_neg q, if_pos p, rd_nI _ hx4 (by decide), sb, if_pos z, b1, b2s, sb]
          · unfold fX5_preempt
            rw [wf_sf, sb, e2, sb, if_neg i10, in_eq, if_pos ⟨q, Int32.not_lt.mpr p⟩, sb, if_neg i10, of4 n _ hx4, sb, hF4, if_pos z, g0, sb, of6 n _ hx4, sb, of13 n _ hx4, sb, pt13 n _ _ hx4, sb, of2 n _ hx4, sb, st_ne _ (by omega), pt2 n _ _ hx4, sb, of3 n _ hx4, sb, st_ne _ (by omega), st_ne _ (by omega), pt3 n _ _ hx4, sb, of11 n _ hx4, sb, st_ne _ (by omega), st_ne _ (by omega), st_ne _ (by omega), pt11 n _ _ hx4, sb, pt4 n _ _ hx4, sb]
            exact b2
        · refine AgI_t (X := xIS) (b := 0) (σ' := σ) (τ' := sf (sf τ 6 0) 6 3) ?_ ?_ (by simp) (by rw [sf6, cd3 ne_SO ne_SA]) (INV_66 h 0 3)
          · unfold fX4_preempt
            rw [e1, bx_r, if_neg q, if_pos p, rd_nI _ hx4 (by decide), sb, if_neg z]
          · unfold fX5_preempt
            rw [wf_sf, sb, e2, sb, if_neg i10, in_eq, if_pos ⟨q, Int32.not_lt.mpr p⟩, sb, if_neg i10, of4 n _ hx4, sb, hF4, if_neg z]
            rfl
      · refine AgI_t (X := xIA) (b := 0) (σ' := σ) (τ' := sf (sf τ 6 0) 6 2) ?_ ?_ (by simp) (by rw [sf6, cd2 ne_AO]) (INV_66 h 0 2)
        · unfold fX4_preempt
          rw [e1, bx_r, if_neg q, if_neg p]
        · unfold fX5_preempt
          rw [wf_sf, sb, e2, sb, if_neg i10, in_eq, if_neg (fun z => z.2 (Int32.not_le.mp p)), sb, if_pos rfl]
          rfl
  · refine AgI_t (X := xIO) (b := 0) (σ' := σ) (τ' := sf (sf τ 6 0) 6 1) ?_ ?_ (by simp) (by rw [sf6, cd1]) (INV_66 h 0 1)
    · unfold fX4_preempt
      rw [e1, bx_l]
    · unfold fX5_preempt
      rw [wf_sf, sb, e2, sb, if_pos rfl]
      rfl
