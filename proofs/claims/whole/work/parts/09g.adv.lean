/-! MATHEMATICS 14: ticks -/
theorem clk_lk {β : St} {c r m E : Nat} {σ τ : St} (h : RX β c r DN m E σ τ) {t : Nat} (ht : t < 1000) (e : τ 0 0 = nI t) : RX β c r DN m E (sf σ 25 (nI (t + 1))) (st τ 0 0 (nI (t + 1))) := by
  obtain ⟨hK, hQ, hG, hJ, hR, hL, hB⟩ := h
  obtain ⟨q1, q2, q3, q4, q5, q6, q7, q8, q9, q10⟩ := hG
  refine ⟨RK_st hK, fun i hi => by rw [sf_row _ (by decide), st_row _ (by decide)]; exact hQ i hi, ⟨q1, q2, by rw [sf_row _ (by decide)]; exact q3, by rw [st_ne _ (by decide)]; exact q4, by rw [sf_row _ (by decide)]; exact q5, by rw [st_ne _ (by decide)]; exact q6, by rw [sf_ap, if_pos rfl, st_eq], ⟨t + 1, by omega, st_eq _⟩, by rw [sf_row _ (by decide), st_ne _ (by decide)]; exact q9, by rw [st_ne _ (by decide)]; exact q10⟩, fun j hj => ?_, fun q hq => RR_congr (fun i hi => by rw [sf_row _ (by omega)]) (fun w hw => st_ne _ (by omega)) (hR q hq), RL_congr (fun k h1 h2 => sf_row _ (by omega)) (st_ne _ (by decide)) (fun i h1 h2 => st_ne _ (by omega)) hL, RB_congr (fun k hk => by rw [sf_row _ (by decide)]) (fun i h1 h2 => st_ne _ (by omega)) hB⟩
  obtain ⟨hF, hV, hA, hN⟩ := hJ j hj
  refine ⟨fun w hw hd => ?_, fun q => ?_, fun q p => ?_, fun q => ?_⟩
  · have := @cm_lt w
    rw [st_ne _ (by omega), sf_row _ (by omega)]
    exact hF w hw hd
  · obtain ⟨v1, v2, v3, v5, v6, v7, v8⟩ := hV q
    refine ⟨by rw [sf_row _ (by decide)]; exact v1, by rw [sf_row _ (by decide)]; exact v2, by rw [sf_row _ (by decide)]; exact v3, by rw [sf_row _ (by decide)]; exact v5, by rw [sf_row _ (by decide)]; exact v6, by rw [sf_row _ (by decide)]; exact v7, ?_⟩
    rw [sf_row _ (by decide), sf_row _ (by decide), sf_ap, if_pos rfl]
    intro z
    obtain ⟨z1, z2⟩ := v8 z
    refine ⟨z1, ?_⟩
    rw [q7, e, le_int, nI_toInt (by omega)] at z2
    rw [le_int, nI_toInt (by omega)]
    omega
  · rw [st_ne _ (by omega)] at p
    rw [st_ne _ (by omega), st_ne _ (by omega), st_ne _ (by omega), st_ne _ (by omega)]
    exact HS_congr (fun i hi => by rw [sf_row _ (by omega)]) (hA q p)
  · rw [st_ne _ (by omega)] at q
    rw [sf_row _ (by decide)]
    exact hN q
def fiS (σ : St) (x : Nat) : St := st (st (st (st σ 15 x (un σ x)) 8 x 2) 0 x 0) 13 x (σ 25 0)
def fiR (τ : St) (x : Nat) (v k : Int32) : St := st (st (st τ 0 (5 + 14 * x + 13) v) 0 (5 + 14 * x + 4) 2) 0 (5 + 14 * x + 10) k
theorem fin_lk {β : St} {c r m E : Nat} {σ τ : St} (h : RX β c r DN m E σ τ) {x : Nat} (hx : x < c) : RX β c r DN m E (fiS σ x) (fiR τ x (un σ x) (σ 25 0)) := by
  have hc : c ≤ 24 := h.2.2.1.1
  obtain ⟨hF, hV, hA, hN⟩ := h.2.2.2.1 x (by omega)
  refine leave_lk h (Nat.le_refl m) (s := 2) hx (by omega) (by omega) (fun k j hj => by unfold fiS; rw [st_ne _ hj, st_ne _ hj, st_ne _ hj, st_ne _ hj]) (fun k hk => by unfold fiS; rw [st_row _ (by omega), st_row _ (by omega), st_row _ (by omega), st_row _ (by omega)]) (fun k hk => by unfold fiR; rw [st_row _ hk, st_row _ hk, st_row _ hk]) (fun i hi => by unfold fiR; rw [st_ne _ (by omega), st_ne _ (by omega), st_ne _ (by omega)]) ?_ (by unfold fiR; rw [st_ne _ (by omega), st_eq]; rfl) (by unfold fiS; rw [st_row _ (by decide), st_row _ (by decide), st_eq]; rfl) (by unfold fiS; rw [st_row _ (by decide), st_eq]) (by simp [fiS, st_ap]) (by simp [fiS, st_ap]) (by simp [fiS, st_ap]) (by simp [fiS, st_ap]) ?_
  · have f0 : τ 0 (5 + 14 * x + 0) = σ 4 x := hF 0 (by decide) id
    have f1 : τ 0 (5 + 14 * x + 1) = σ 5 x := hF 1 (by decide) id
    have f2 : τ 0 (5 + 14 * x + 2) = σ 6 x := hF 2 (by decide) id
    have f3 : τ 0 (5 + 14 * x + 3) = σ 7 x := hF 3 (by decide) id
    have f5 : τ 0 (5 + 14 * x + 5) = σ 1 x := hF 5 (by decide) id
    have f6 : τ 0 (5 + 14 * x + 6) = σ 2 x := hF 6 (by decide) id
    have f7 : τ 0 (5 + 14 * x + 7) = σ 11 x := hF 7 (by decide) id
    have f8 : τ 0 (5 + 14 * x + 8) = σ 10 x := hF 8 (by decide) id
    have f9 : τ 0 (5 + 14 * x + 9) = σ 9 x := hF 9 (by decide) id
    have f11 : τ 0 (5 + 14 * x + 11) = σ 14 x := hF 11 (by decide) id
    have f12 : τ 0 (5 + 14 * x + 12) = σ 12 x := hF 12 (by decide) id
    simp only [Nat.add_zero] at f0
    refine w14 ?_ ?_ ?_ ?_ (fun q => absurd rfl q) ?_ ?_ ?_ ?_ ?_ ?_ ?_ ?_ ?_
    all_goals (intro _; simp [fiR, fiS, st_ap, cm, f0, f1, f2, f3, f5, f6, f7, f8, f9, f11, f12])
  · rw [show fiS σ x 6 x = σ 6 x by simp [fiS, st_ap]]
    exact (hV hx).2.2.1
/-- what the reference does behind its finished jobs -/
def tkT (n : Nat) (k : Int32) (τ : St) : Option (Int32 × St) := if k ≤ 0 then (Option.bind (fX5_starts n τ) fun s8 => some (k, s8)) else (Option.bind (fX5_replans n τ) fun s9 => Option.bind (fX5_starts n s9) fun s10 => some (k, s10))
theorem finish_lk {n : Nat} (hn : 178 ≤ n) {β : St} {c r m E : Nat} {σ τ : St} (h : RX β c r DN m E σ τ) : ∃ k σf τf, fX0_finishJobs n σ = some (k, σf) ∧ lz3 (fX5_ticks_b14 n) n 0 0 τ = tkT n k τf ∧ RX β c r DN m E σf τf ∧ σf 25 0 = σ 25 0 := by
  have hc : c ≤ 24 := h.2.2.1.1
  refine lkP3 (b := fX0_finishJobs_b4 n) (b' := fX5_ticks_b14 n) (N := c) (I := fun _ u x v y => u = v ∧ RX β c r DN m E x y ∧ x 25 0 = σ 25 0) (P := fun A B => ∃ k σf τf, A = some (k, σf) ∧ B = tkT n k τf ∧ RX β c r DN m E σf τf ∧ σf 25 0 = σ 25 0) (fun go go' u x v y hI => ?_) (fun j u x v y hj hI => ?_) c 0 0 σ 0 τ n n (by omega) (by omega) (by omega) ⟨rfl, h, rfl⟩
  · obtain ⟨rfl, hX, h25⟩ := hI
    refine ⟨u, x, y, ?_, ?_, hX, h25⟩
    · unfold fX0_finishJobs_b4
      rw [hX.2.2.1.2.2.1, if_pos (nI_le (Nat.le_refl _) (by omega))]
    · unfold fX5_ticks_b14
      rw [g1, sb, hX.2.2.1.2.2.2.1, if_pos (nI_le (Nat.le_refl _) (by omega))]
      rfl
  · obtain ⟨rfl, hX, h25⟩ := hI
    have h0 := hX.2.2
    have hj4 : j < 24 := by omega
    obtain ⟨hF, hV, hA, hN⟩ := h0.2.1 j hj4
    have hF4 : y 0 (5 + 14 * j + 4) = x 8 j := hF 4 (by decide) id
    have hF6 : y 0 (5 + 14 * j + 6) = x 2 j := hF 6 (by decide) id
    have hF3 : y 0 (5 + 14 * j + 3) = x 7 j := hF 3 (by decide) id
    have hF13 : y 0 (5 + 14 * j + 13) = x 15 j := hF 13 (by decide) id
    have hcl : y 0 0 = x 25 0 := h0.1.2.2.2.2.2.2.1.symm
    by_cases q : x 8 j = 1
    · by_cases p : x 25 0 - x 2 j = x 7 j
      · obtain ⟨σ3, τ3, a1, a2, a3, a4, -, -⟩ := note_lk hn (fin_lk hX hj) 2 (nI j)
        have hun : un x j = x 15 j + x 7 j := by unfold un; rw [if_pos q, p]
        refine ⟨u + 1, σ3, u + 1, τ3, fun go => ?_, fun go' => ?_, rfl, a3, ?_⟩
        · unfold fX0_finishJobs_b4
          rw [h0.1.2.2.1, if_neg (nI_ge hj (by omega)), rd_nI _ hj4 (by decide), sb, if_pos q, rd_nI _ (by omega) (by decide), sb, rd_nI _ hj4 (by decide), sb, if_pos p, endRun_eq n x hj4, sb, clearSlot_eq n _ (by omega), sb, wr_st _ _ _ hj4 (by decide), sb]
          rw [show st (st (st x 15 j (un x j)) 8 j 2) 0 j 0 25 0 = x 25 0 by rw [st_row _ (by decide), st_row _ (by decide), st_row _ (by decide)]]
          rw [show st (st (st (st x 15 j (un x j)) 8 j 2) 0 j 0) 13 j (x 25 0) = fiS x j from rfl, a1, sb, nI_1]
        · unfold fX5_ticks_b14
          rw [g1, sb, h0.1.2.2.2.1, if_neg (nI_ge hj (by omega)), of4 n y hj4, sb, hF4, if_pos q, g0, sb, of6 n y hj4, sb, of3 n y hj4, sb, hcl, hF6, hF3, if_pos p, of13 n y hj4, sb, sb, hF13, ← hun, pt13 n y _ hj4, sb, pt4 n _ _ hj4, sb, g0, sb]
          rw [show st (st y 0 (5 + 14 * j + 13) (un x j)) 0 (5 + 14 * j + 4) 2 0 0 = x 25 0 by rw [st_ne _ (by omega), st_ne _ (by omega), hcl]]
          rw [pt10 n _ _ hj4, sb, show st (st (st y 0 (5 + 14 * j + 13) (un x j)) 0 (5 + 14 * j + 4) 2) 0 (5 + 14 * j + 10) (x 25 0) = fiR y j (un x j) (x 25 0) from rfl, a2, sb, nI_1]
        · rw [a4 25 (by omega)]
          rw [show fiS x j 25 0 = x 25 0 by unfold fiS; rw [st_row _ (by decide), st_row _ (by decide), st_row _ (by decide), st_row _ (by decide)]]
          exact h25
      · refine ⟨u, x, u, y, fun go => ?_, fun go' => ?_, rfl, hX, h25⟩
        · unfold fX0_finishJobs_b4
          rw [h0.1.2.2.1, if_neg (nI_ge hj (by omega)), rd_nI _ hj4 (by decide), sb, if_pos q, rd_nI _ (by omega) (by decide), sb, rd_nI _ hj4 (by decide), sb, if_neg p, nI_1]
        · unfold fX5_ticks_b14
          rw [g1, sb, h0.1.2.2.2.1, if_neg (nI_ge hj (by omega)), of4 n y hj4, sb, hF4, if_pos q, g0, sb, of6 n y hj4, sb, of3 n y hj4, sb, hcl, hF6, hF3, if_neg p, nI_1]
    · refine ⟨u, x, u, y, fun go => ?_, fun go' => ?_, rfl, hX, h25⟩
      · unfold fX0_finishJobs_b4
        rw [h0.1.2.2.1, if_neg (nI_ge hj (by omega)), rd_nI _ hj4 (by decide), sb, if_neg q, nI_1]
      · unfold fX5_ticks_b14
        rw [g1, sb, h0.1.2.2.2.1, if_neg (nI_ge hj (by omega)), of4 n y hj4, sb, hF4, if_neg q, nI_1]
theorem tick_lk {n : Nat} (hn : 178 ≤ n) {β : St} {c r m E : Nat} {σ τ : St} (h : RX β c r DN m E σ τ) (hE0 : 1000 ≤ E) (hE : rmE m (E + 24 * (40 + 9 * m))) {t : Nat} (ht : t < 1000) (e : τ 0 0 = nI t) : ∃ k σ' τ', fX0_tick n σ = some (k, σ') ∧ fX5_ticks n τ = some (k, τ') ∧ RX β c r DN m (E + 24 * (40 + 9 * m)) σ' τ' ∧ τ' 0 0 = nI (t + 1) := by
  have hcl : σ 25 0 = τ 0 0 := h.2.2.1.2.2.2.2.2.2.1
  obtain ⟨k, σf, τf, a1, a2, a3, a4⟩ := finish_lk hn (clk_lk h ht e)
  by_cases q : k ≤ 0
  · obtain ⟨σ5, τ5, c1, c2, c3, c4⟩ := start_lk hn a3
    refine ⟨k, σ5, τ5, ?_, ?_, ⟨c3.1, c3.2.1, R0_mono (Nat.le_refl _) (by omega) c3.2.2⟩, by rw [← c3.2.2.1.2.2.2.2.2.2.1, c4.2, a4, sf_ap, if_pos rfl]⟩
    · unfold fX0_tick
      rw [hcl, e, nI_1, wf_sf, sb, a1, b2s, if_pos q, c1, sb]
    · unfold fX5_ticks
      rw [g0, sb, e, nI_1, gw0, sb, a2]
      unfold tkT
      rw [if_pos q, c2, sb]
  · obtain ⟨σ4, τ4, b1, b2, b3, b4⟩ := replan_lk hn a3 hE0 hE
    obtain ⟨σ5, τ5, c1, c2, c3, c4⟩ := start_lk hn b3
    refine ⟨k, σ5, τ5, ?_, ?_, c3, by rw [← c3.2.2.1.2.2.2.2.2.2.1, c4.2, b4 25 (by omega) (by omega), a4, sf_ap, if_pos rfl]⟩
    · unfold fX0_tick
      rw [hcl, e, nI_1, wf_sf, sb, a1, b2s, if_neg q, b1, sb, c1, sb]
    · unfold fX5_ticks
      rw [g0, sb, e, nI_1, gw0, sb, a2]
      unfold tkT
      rw [if_neg q, b2, sb, c2, sb]
theorem mrg_mrg {σ x : St} (h28 : ∀ k, 28 ≤ k → x k = σ k) : mrg σ x = x := by
  funext k
  unfold mrg
  by_cases q : k < 28
  · rw [if_pos q]
  · rw [if_neg q, h28 k (by omega)]
theorem RX_mrg {β : St} {c r : Nat} {D : Nat → Nat → Prop} {m E : Nat} {σ x y : St} (h : RX β c r D m E x y) : RX β c r D m E (mrg σ x) y :=
  ⟨h.1, fun i hi => by rw [mrg_lo _ _ (by decide)]; exact h.2.1 i hi, R0_cells (fun k hk _ _ => mrg_lo σ x hk) h.2.2⟩
theorem L_advance {n : Nat} (hn : 700 ≤ n) {j : Nat} {σ2 σ τ : St} (hj : j < 512) (h : INV j σ2 σ τ) (a1 : Int32) : AgI [xIA, xIS] (fX4_advance n σ a1) (fX5_advance n τ a1) (fun σ' τ' => INV (j + 1) σ2 σ' τ') := by
  have hb := EE_b hj
  have hs := EE_s j
  have hE0 := EE_1 j
  obtain ⟨c, r, hX⟩ := INV_o h
  have h0 := hX.2.2
  obtain ⟨t, ht, et⟩ := h0.1.2.2.2.2.2.2.2.1
  have hcl : σ 25 0 = sf τ 6 0 0 0 := h0.1.2.2.2.2.2.2.1
  by_cases q : a1 < 1
  · refine AgI_t (X := xIA) (b := 0) (σ' := σ) (τ' := sf (sf τ 6 0) 6 1) ?_ ?_ (by simp) (by rw [sf6, cd1]) (INV_66 h 0 1)
    · unfold fX4_advance
      rw [if_pos q]
    · unfold fX5_advance
      rw [wf_sf, sb, in_eq, if_neg (fun z => z.1 q), sb, if_pos rfl]
      rfl
  · by_cases p : a1 ≤ 50
    · have q' : ¬ a1 < 0 := by rw [lt_int] at q ⊢; have : (1 : Int32).toInt = 1 := rfl; have : (0 : Int32).toInt = 0 := rfl; omega
      obtain ⟨d, hd, rfl⟩ := nI_of2 (n := 50) rfl q' p
      by_cases z : t + d ≤ 1000
      · obtain ⟨r1, r2, k1, k2, k3⟩ := lk3 (b := fX4_advance_b50 n (nI d)) (b' := fX5_advance_b45 n (nI d)) (N := d) (I := fun i u x v y => u = v ∧ RX (sf τ 6 0) c r DN j (EE j + i * (24 * (40 + 9 * j))) x y ∧ y 0 0 = nI (t + i) ∧ ∀ k, 28 ≤ k → x k = σ k) (P := fun A B => ∃ v x y, A = .inr (v, x) ∧ B = (v, y) ∧ RX (sf τ 6 0) c r DN j (EE j + d * (24 * (40 + 9 * j))) x y ∧ ∀ k, 28 ≤ k → x k = σ k) (fun go go' u x v y hI => by
          obtain ⟨rfl, hI, -, h28⟩ := hI
          refine ⟨_, _, ?_, ?_, u, x, y, rfl, rfl, hI, h28⟩
          · unfold fX4_advance_b50
            rw [if_pos (nI_le (Nat.le_refl _) (by omega))]
          · unfold fX5_advance_b45
            rw [if_pos (nI_le (Nat.le_refl _) (by omega))]) (fun i u x v y hi hI => by
          obtain ⟨rfl, hI, hct, h28⟩ := hI
          have hB : (i + 1) * (24 * (40 + 9 * j)) ≤ 50 * (24 * (40 + 9 * j)) := Nat.mul_le_mul_right _ (by omega)
          have hS : (i + 1) * (24 * (40 + 9 * j)) = i * (24 * (40 + 9 * j)) + 24 * (40 + 9 * j) := Nat.succ_mul _ _
          obtain ⟨k, σ', τ', b1, b2, b3, b4⟩ := tick_lk (n := n) (by omega) hI (by omega) ⟨by omega, by omega, by omega⟩ (t := t + i) (by omega) hct
          rw [show EE j + i * (24 * (40 + 9 * j)) + 24 * (40 + 9 * j) = EE j + (i + 1) * (24 * (40 + 9 * j)) by omega] at b3
          refine ⟨u + k, mrg x σ', u + k, τ', fun go => ?_, fun go' => ?_, rfl, RX_mrg b3, b4, fun k hk => by rw [mrg_hi _ _ hk]; exact h28 k hk⟩
          · unfold fX4_advance_b50
            rw [if_neg (nI_ge hi (by omega)), b1, b2s, sb, nI_1]
          · unfold fX5_advance_b45
            rw [if_neg (nI_ge hi (by omega)), b2, b2s, nI_1]) d 0 0 σ 0 (sf τ 6 0) n n (by omega) (by omega) (by omega) ⟨rfl, by rw [Nat.zero_mul]; exact hX, by rw [et]; rfl, fun _ _ => rfl⟩
        obtain ⟨v, x, y, rfl, rfl, hR, h28⟩ := k3
        have hB : d * (24 * (40 + 9 * j)) ≤ 50 * (24 * (40 + 9 * j)) := Nat.mul_le_mul_right _ hd
        obtain ⟨i1, i2⟩ := INV_c h hR (by omega) (by omega)
        rw [mrg_mrg h28] at i1
        refine AgI_v (v := v) (σ' := x) (τ' := y) ?_ ?_ i2 i1
        · unfold fX4_advance
          rw [if_neg q, if_pos p, hcl, et, nI_add, if_pos (show nI (t + d) ≤ 1000 from nI_le (b := 1000) z (by decide))]
          exact k1
        · unfold fX5_advance
          rw [wf_sf, sb, in_eq, if_pos ⟨q, Int32.not_lt.mpr p⟩, sb, if_neg i10, g0, sb, et, nI_add, if_pos (show nI (t + d) ≤ 1000 from nI_le (b := 1000) z (by decide))]
          exact k2
      · have zz : ¬ nI (t + d) ≤ 1000 := nI_ge (a := 1000) (by omega) (by omega)
        refine AgI_t (X := xIS) (b := 0) (σ' := σ) (τ' := sf (sf τ 6 0) 6 2) ?_ ?_ (by simp) (by rw [sf6, cd2 ne_SA]) (INV_66 h 0 2)
        · unfold fX4_advance
          rw [if_neg q, if_pos p, hcl, et, nI_add, if_neg zz]
        · unfold fX5_advance
          rw [wf_sf, sb, in_eq, if_pos ⟨q, Int32.not_lt.mpr p⟩, sb, if_neg i10, g0, sb, et, nI_add, if_neg zz]
          rfl
    · refine AgI_t (X := xIA) (b := 0) (σ' := σ) (τ' := sf (sf τ 6 0) 6 1) ?_ ?_ (by simp) (by rw [sf6, cd1]) (INV_66 h 0 1)
      · unfold fX4_advance
        rw [if_neg q, if_neg p]
      · unfold fX5_advance
        rw [wf_sf, sb, in_eq, if_neg (fun z => z.2 (Int32.not_le.mp p)), sb, if_pos rfl]
        rfl
