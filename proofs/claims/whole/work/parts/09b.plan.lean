/-! MATHEMATICS 9: planning a job, starting jobs -/
theorem cm_ge : ∀ w, w < 14 → w ≠ 5 → w ≠ 6 → 4 ≤ cm w := by decide
theorem give_eq (n : Nat) (σ : St) {k o : Nat} (hk : k < 30) (i : Nat) (s len : Int32) : fX3_give n σ (nI k) (nI o) (nI i) s len = some (st (st (st (st σ 0 k (mk o i)) 1 k (nI i)) 2 k s) 3 k (s + len)) := by
  unfold fX3_give
  rw [mk_eq, sb, wr_st _ _ _ hk (by decide), sb, wr_st _ _ _ hk (by decide), sb, wr_st _ _ _ hk (by decide), sb, wr_st _ _ _ hk (by decide), sb]
/-- room for another plan -/
def rmE (m E : Nat) : Prop := m ≤ 520 ∧ 1000 ≤ E ∧ E + 40 + 9 * m < 2147483647
theorem RK_st {β τ : St} {i : Nat} {x : Int32} (h : RK β τ) : RK β (st τ 0 i x) := by
  unfold RK at h ⊢
  rw [st_row _ (by decide), st_row _ (by decide), st_row _ (by decide), st_row _ (by decide)]
  exact h
theorem plan_lk {n : Nat} (hn : 33 ≤ n) {β : St} {c r : Nat} {D D' : Nat → Nat → Prop} {m E : Nat} {σ τ : St} (h : RX β c r D m E σ τ) (hE : rmE m E) {x : Nat} (hx : x < c) (hst : σ 8 x = 0) (hD1 : ∀ w, D x w → w = 4 ∨ w = 7) (hD : ∀ j w, D j w → D' j w ∨ (j = x ∧ w = 4)) : ∃ s σ' τ', fX0_plan n σ (nI x) = some (s, σ') ∧ fX5_plans n τ (nI x) = some τ' ∧ τ' 0 (5 + 14 * x + 6) = s ∧ RX β c r D' m (E + 40 + 9 * m) σ' τ' ∧ (∀ k, 4 ≤ k → σ' k = σ k) := by
  obtain ⟨hK, hQ, h0⟩ := h
  obtain ⟨e1, e2, e3⟩ := hE
  have hc : c ≤ 24 := h0.1.1
  have hx4 : x < 24 := by omega
  obtain ⟨hF, hV, hA, hN⟩ := h0.2.1 x hx4
  have hF1 : τ 0 (5 + 14 * x + 1) = σ 5 x := hF 1 (by decide) (fun q => by rcases hD1 _ q with q | q <;> cases q)
  have hF2 : τ 0 (5 + 14 * x + 2) = σ 6 x := hF 2 (by decide) (fun q => by rcases hD1 _ q with q | q <;> cases q)
  obtain ⟨v1, ⟨o, ho, v2⟩, ⟨v3, v4⟩, v5⟩ := hV hx
  have hl : okL m E (σ 6 x) := ⟨v3, v4, by omega, by omega⟩
  obtain ⟨b1, b2, i, b3⟩ := er_bound h0 ho (σ 6 x)
  generalize hs : erN σ o (σ 6 x) 30 (σ 25 0) = s at b1 b2 b3
  have hi := lw_lt b3
  have hcl := clk_lo h0.1
  have hs0 : 0 ≤ s.toInt := by rw [le_int] at b2; omega
  have hsE : s.toInt ≤ (E : Int) := by omega
  have hlow : -2147483648 < (s + σ 6 x).toInt := len_ok hl hs0 (Or.inl hsE)
  have hsl : (s + σ 6 x).toInt ≤ ((E + 40 + 9 * m : Nat) : Int) := by
    rw [ad_int (by omega) (by omega)]; omega
  refine ⟨s, st (st (st (st σ 0 x (mk o (i * 2 ^ o))) 1 x (nI (i * 2 ^ o))) 2 x s) 3 x (s + σ 6 x), st (st (st τ 0 (5 + 14 * x + 5) (nI (i * 2 ^ o))) 0 (5 + 14 * x + 6) s) 0 (5 + 14 * x + 4) 0, ?_, ?_, ?_, ⟨RK_st (RK_st (RK_st hK)), ?_, ?_⟩, ?_⟩
  · unfold fX0_plan
    rw [rd_nI _ hx4 (by decide), sb, rd_nI _ hx4 (by decide), sb, v2, earliest_eq (by omega) σ ho, sb, hs, lowestFree_eq (by omega) σ ho, sb, b3]
    show Option.bind (fX3_give n σ (nI x) (nI o) (nI (i * 2 ^ o)) s (σ 6 x)) _ = _
    rw [give_eq n σ (by omega), sb]
  · unfold fX5_plans
    rw [of1 n τ hx4, sb, of2 n τ hx4, sb, hF1, hF2, v2, earl_eq hn h0 ho hl, sb, sb, sb, hs, lowest_eq hn h0 ho hlow, sb, b3]
    show Option.bind (fX5_put n τ (nI x) 5 (nI (i * 2 ^ o))) _ = _
    rw [pt5 n τ _ hx4, sb, pt6 n _ _ hx4, sb, pt4 n _ _ hx4, sb]
  · rw [st_ne _ (by omega), st_eq]
  · intro k hk
    rw [st_row _ (by decide), st_row _ (by decide), st_row _ (by decide), st_row _ (by decide), st_row _ (by decide), st_row _ (by decide), st_row _ (by decide)]
    exact hQ k hk
  · have h0' : R0 c r D m (E + 40 + 9 * m) σ (τ 0) := R0_mono (Nat.le_refl _) (by omega) h0
    refine R0_job (x := x) h0' (fun j w q d => (hD j w d).resolve_right (fun z => q z.1)) (fun k hk j hj => by rw [st_ne _ hj, st_ne _ hj, st_ne _ hj, st_ne _ hj]) (fun k h1 h2 _ _ _ => by rw [st_row _ (by omega), st_row _ (by omega), st_row _ (by omega), st_row _ (by omega)]) (fun i _ hi => by rw [st_ne _ (by omega), st_ne _ (by omega), st_ne _ (by omega)]) (fun k hk => by rw [st_row _ (by omega), st_row _ (by omega), st_row _ (by omega), st_row _ (by omega), st_ne _ (by omega), st_ne _ (by omega), st_ne _ (by omega)]; exact h0.2.2.2.2 k hk) hx4 ⟨?_, fun _ => ?_, fun _ _ => ?_, ?_⟩
    · intro w hw hd
      by_cases q5 : w = 5
      · subst q5
        rw [st_ne _ (by omega), st_ne _ (by omega), st_eq]
        show _ = st (st (st (st σ 0 x (mk o (i * 2 ^ o))) 1 x (nI (i * 2 ^ o))) 2 x s) 3 x (s + σ 6 x) 1 x
        rw [st_row _ (by decide), st_row _ (by decide), st_eq]
      · by_cases q6 : w = 6
        · subst q6
          rw [st_ne _ (by omega), st_eq]
          show _ = st (st (st (st σ 0 x (mk o (i * 2 ^ o))) 1 x (nI (i * 2 ^ o))) 2 x s) 3 x (s + σ 6 x) 2 x
          rw [st_row _ (by decide), st_eq]
        · have hg := cm_ge w hw q5 q6
          rw [show st (st (st (st σ 0 x (mk o (i * 2 ^ o))) 1 x (nI (i * 2 ^ o))) 2 x s) 3 x (s + σ 6 x) (cm w) = σ (cm w) by rw [st_row _ (by omega), st_row _ (by omega), st_row _ (by omega), st_row _ (by omega)]]
          by_cases q4 : w = 4
          · subst q4
            rw [st_eq]
            exact hst.symm
          · rw [st_ne _ (by omega), st_ne _ (by omega), st_ne _ (by omega)]
            exact hF w hw (fun d => by
              rcases hD x w d with z | z
              · exact hd z
              · exact q4 z.2)
    · have g : ∀ k, 4 ≤ k → st (st (st (st σ 0 x (mk o (i * 2 ^ o))) 1 x (nI (i * 2 ^ o))) 2 x s) 3 x (s + σ 6 x) k = σ k := fun k hk => by rw [st_row _ (by omega), st_row _ (by omega), st_row _ (by omega), st_row _ (by omega)]
      obtain ⟨v6, v7, v8, v9⟩ := v5
      refine ⟨by rw [g 4 (by omega)]; exact v1, by rw [g 5 (by omega)]; exact ⟨o, ho, v2⟩, by rw [g 6 (by omega)]; exact ⟨v3, v4⟩, by rw [g 8 (by omega)]; exact v6, by rw [g 12 (by omega)]; exact v7, by rw [g 9 (by omega)]; exact v8, ?_⟩
      rw [g 8 (by omega), hst]
      intro z; cases z
    · refine ⟨o, i, ho, hi, ?_, ?_, ?_, ?_, ?_, ?_, ?_⟩
      · rw [st_ne _ (by omega), st_ne _ (by omega), st_ne _ (by omega), hF1, v2]
      · rw [st_ne _ (by omega), st_ne _ (by omega), st_eq]
      · rw [st_row _ (by decide), st_row _ (by decide), st_row _ (by decide), st_eq]
      · rw [st_row _ (by decide), st_row _ (by decide), st_eq, st_ne _ (by omega), st_ne _ (by omega), st_eq]
      · rw [st_row _ (by decide), st_eq, st_ne _ (by omega), st_eq]
      · rw [st_eq, st_ne _ (by omega), st_eq, st_ne _ (by omega), st_ne _ (by omega), st_ne _ (by omega), hF2]
      · rw [st_ne _ (by omega), st_eq, st_ne _ (by omega), st_ne _ (by omega), st_ne _ (by omega), hF2]
        exact ⟨hsl, hs0, by omega⟩
    · intro z
      exfalso
      apply z
      refine ⟨hx, ?_⟩
      rw [st_eq]
      decide
  · intro k hk
    rw [st_row _ (by omega), st_row _ (by omega), st_row _ (by omega), st_row _ (by omega)]
theorem bi_c : ∀ o, o < 6 → ∀ i, i < 32 / 2 ^ o → ((32 : Int32) + nI (i * 2 ^ o)) >>> (nI o &&& 31) = nI (32 / 2 ^ o + i) := by decide +kernel
theorem bi_r : ∀ o, o < 6 → ∀ i, i < 32 / 2 ^ o → ((32 : Int32) >>> (nI o &&& 31)) + (nI (i * 2 ^ o) >>> (nI o &&& 31)) = nI (32 / 2 ^ o + i) := by decide +kernel
theorem bi_lt : ∀ o, o < 6 → ∀ i, i < 32 / 2 ^ o → 32 / 2 ^ o + i < 64 := by decide +kernel
/-- a waiting job becomes a running one -/
theorem run_lk {n : Nat} (hn : 178 ≤ n) {β : St} {c r : Nat} {m E : Nat} {σ τ σ1 τ1 : St} (h : RX β c r DN m E σ τ) {j o i : Nat} (hj : j < c) (ho : o < 6) (hi : i < 32 / 2 ^ o) (hst : σ 8 j = 0) (hcl : σ 2 j = σ 25 0) {v : Int32} (hv : v = -1 ∨ ¬ v < 0)
    (s1 : ∀ k, k ≠ 8 → k ≠ 12 → σ1 k = σ k) (s2 : ∀ k j', j' ≠ j → σ1 k j' = σ k j') (s3 : σ1 8 j = 1) (s4 : σ1 12 j = v)
    (t1 : ∀ k, k ≠ 0 → τ1 k = τ k) (t2 : ∀ i, i ≠ 5 + 14 * j + 4 → i ≠ 5 + 14 * j + 12 → τ1 0 i = τ 0 i) (t3 : τ1 0 (5 + 14 * j + 4) = 1) (t4 : τ1 0 (5 + 14 * j + 12) = v) :
    ∃ σ' τ', fX1_note n (st σ1 22 (32 / 2 ^ o + i) (σ1 22 (32 / 2 ^ o + i) + 1)) (st σ1 22 (32 / 2 ^ o + i) (σ1 22 (32 / 2 ^ o + i) + 1) 25 0) 1 (nI j) = some σ' ∧ fX5_records n (st τ1 0 (545 + (32 / 2 ^ o + i)) (τ1 0 (545 + (32 / 2 ^ o + i)) + 1)) 1 (nI j) = some τ' ∧ RX β c r DN m E σ' τ' ∧ σ' 11 = σ 11 ∧ σ' 25 = σ 25 := by
  obtain ⟨hK, hQ, h0⟩ := h
  have hc : c ≤ 24 := h0.1.1
  have hj4 : j < 24 := by omega
  have hb := bi_lt o ho i hi
  obtain ⟨hF, hV, hA, hN⟩ := h0.2.1 j hj4
  have hF4 : τ 0 (5 + 14 * j + 4) = σ 8 j := hF 4 (by decide) id
  have hB := h0.2.2.2.2
  have hX : RX β c r DN m E (st σ1 22 (32 / 2 ^ o + i) (σ1 22 (32 / 2 ^ o + i) + 1)) (st τ1 0 (545 + (32 / 2 ^ o + i)) (τ1 0 (545 + (32 / 2 ^ o + i)) + 1)) := by
    refine ⟨RK_st ?_, ?_, ?_⟩
    · unfold RK at hK ⊢
      rw [t1 1 (by decide), t1 4 (by decide), t1 5 (by decide), t1 6 (by decide)]
      exact hK
    · intro k hk
      rw [st_row _ (by decide), st_row _ (by decide), s1 23 (by decide) (by decide), t1 2 (by decide)]
      exact hQ k hk
    · refine R0_job (x := j) h0 (fun _ _ _ z => z) (fun k hk j' hj' => by rw [st_row _ (by omega), s2 k j' hj']) (fun k h1 h2 h3 _ _ => by rw [st_row _ (by omega), s1 k (by omega) (by omega)]) (fun i h1 hi => by rw [st_ne _ (by omega), t2 i (by omega) (by omega)]) (fun k hk => ?_) hj4 ⟨?_, fun _ => ?_, fun _ _ => ?_, ?_⟩
      · rw [st_ap, st_ap, if_pos rfl, if_pos rfl, t2 (545 + k) (by omega) (by omega), t2 (545 + (32 / 2 ^ o + i)) (by omega) (by omega), s1 22 (by decide) (by decide), hB k hk, hB _ hb]
        by_cases q : k = 32 / 2 ^ o + i
        · rw [if_pos q, if_pos (by omega)]
        · rw [if_neg q, if_neg (by omega)]
      · intro w hw hd
        rw [st_ne _ (by omega), st_row _ (by have := @cm_lt w; omega)]
        by_cases q4 : w = 4
        · subst q4; rw [t3]; exact s3.symm
        · by_cases q12 : w = 12
          · subst q12; rw [t4]; exact s4.symm
          · have e8 : ∀ w, w < 14 → w ≠ 4 → w ≠ 12 → cm w ≠ 8 ∧ cm w ≠ 12 := by decide
            obtain ⟨f1, f2⟩ := e8 w hw q4 q12
            rw [t2 _ (by omega) (by omega), s1 _ f1 f2]
            exact hF w hw id
      · obtain ⟨v1, v2, v3, v5, v6, v7, v8⟩ := hV hj
        have hc2 := clk_lo h0.1
        refine ⟨by rw [st_row _ (by decide), s1 4 (by decide) (by decide)]; exact v1, by rw [st_row _ (by decide), s1 5 (by decide) (by decide)]; exact v2, by rw [st_row _ (by decide), s1 6 (by decide) (by decide)]; exact v3, ⟨1, by decide, by rw [st_row _ (by decide), s3]; rfl⟩, by rw [st_row _ (by decide), s4]; exact hv, by rw [st_row _ (by decide), s1 9 (by decide) (by decide)]; exact v7, fun _ => ?_⟩
        rw [st_row _ (by decide), st_row _ (by decide), s1 2 (by decide) (by decide), s1 25 (by decide) (by decide), hcl]
        refine ⟨?_, Int32.le_refl _⟩
        rw [lt_int]
        have : (0 : Int32).toInt = 0 := rfl
        omega
      · rw [st_ne _ (by omega), st_ne _ (by omega), st_ne _ (by omega), st_ne _ (by omega), t2 (5 + 14 * j + 1) (by omega) (by omega), t2 (5 + 14 * j + 5) (by omega) (by omega), t2 (5 + 14 * j + 6) (by omega) (by omega), t2 (5 + 14 * j + 2) (by omega) (by omega)]
        exact HS_congr (fun k hk => by rw [st_row _ (by omega), s1 k (by omega) (by omega)]) (hA hj (by rw [hF4, hst]; decide))
      · intro z
        exfalso
        apply z
        refine ⟨hj, ?_⟩
        rw [st_ne _ (by omega), t3]
        decide
  obtain ⟨σ', τ', h1, h2, h3, h4, -, -⟩ := note_lk hn hX 1 (nI j)
  refine ⟨σ', τ', h1, h2, h3, ?_, ?_⟩
  · rw [h4 11 (by omega), st_row _ (by decide), s1 11 (by decide) (by decide)]
  · rw [h4 25 (by omega), st_row _ (by decide), s1 25 (by decide) (by decide)]
theorem n10 : ¬ (1 : Int32) = 0 := by decide
theorem start_lk {n : Nat} (hn : 178 ≤ n) {β : St} {c r : Nat} {m E : Nat} {σ τ : St} (h : RX β c r DN m E σ τ) : ∃ σ' τ', fX0_startJobs n σ = some σ' ∧ fX5_starts n τ = some τ' ∧ RX β c r DN m E σ' τ' ∧ σ' 11 = σ 11 ∧ σ' 25 = σ 25 := by
  have hc : c ≤ 24 := h.2.2.1.1
  obtain ⟨r1, r2, h1, h2, h3⟩ := lk2 (b := fX0_startJobs_b2 n) (b' := fX5_starts_b2 n) (N := c) (I := fun _ x y => RX β c r DN m E x y ∧ x 11 = σ 11 ∧ x 25 = σ 25) (P := fun x y => RX β c r DN m E x y ∧ x 11 = σ 11 ∧ x 25 = σ 25) (fun go go' x y hI => by
    refine ⟨x, y, ?_, ?_, hI⟩
    · unfold fX0_startJobs_b2
      rw [hI.1.2.2.1.2.2.1, if_pos (nI_le (Nat.le_refl _) (by omega))]
    · unfold fX5_starts_b2
      rw [g1, sb, hI.1.2.2.1.2.2.2.1, if_pos (nI_le (Nat.le_refl _) (by omega))]) (fun j x y hj hI => by
    obtain ⟨hX, h11⟩ := hI
    have h0 := hX.2.2
    have hj4 : j < 24 := by omega
    obtain ⟨hF, hV, hA, hN⟩ := h0.2.1 j hj4
    have hF4 : y 0 (5 + 14 * j + 4) = x 8 j := hF 4 (by decide) id
    have hF6 : y 0 (5 + 14 * j + 6) = x 2 j := hF 6 (by decide) id
    have hF12 : y 0 (5 + 14 * j + 12) = x 12 j := hF 12 (by decide) id
    have hF1 : y 0 (5 + 14 * j + 1) = x 5 j := hF 1 (by decide) id
    have hF5 : y 0 (5 + 14 * j + 5) = x 1 j := hF 5 (by decide) id
    have hcl : x 25 0 = y 0 0 := h0.1.2.2.2.2.2.2.1
    by_cases q : x 8 j = 0
    · by_cases p : x 2 j = x 25 0
      · obtain ⟨o, i, a1, a2, a3, a4, a5, a6, a7, a8, a9⟩ := hA hj (by rw [hF4, q]; decide)
        rw [hF1] at a3
        rw [hF5] at a4
        have hb := bi_lt o a1 i a2
        obtain ⟨-, -, -, -, hv, -, -⟩ := hV hj
        by_cases w : x 12 j = -1
        · obtain ⟨σ', τ', c1, c2, c3, c4⟩ := run_lk (σ1 := st (st x 8 j 1) 12 j (x 25 0)) (τ1 := st (st y 0 (5 + 14 * j + 4) 1) 0 (5 + 14 * j + 12) (x 25 0)) hn hX hj a1 a2 q p (v := x 25 0) (Or.inr (by rw [lt_int]; have := (clk_lo h0.1).1; have e : (0 : Int32).toInt = 0 := rfl; omega)) (fun k k1 k2 => by rw [st_row _ k2, st_row _ k1]) (fun k j' hj' => by rw [st_ne _ hj', st_ne _ hj']) (by rw [st_row _ (by decide), st_eq]) (st_eq _) (fun k hk => by rw [st_row _ hk, st_row _ hk]) (fun i k1 k2 => by rw [st_ne _ k2, st_ne _ k1]) (by rw [st_ne _ (by omega), st_eq]) (st_eq _)
          refine ⟨σ', τ', fun go => ?_, fun go' => ?_, c3, c4.1.trans h11.1, c4.2.trans h11.2⟩
          · unfold fX0_startJobs_b2
            rw [h0.1.2.2.1, if_neg (nI_ge hj (by omega)), rd_nI _ hj4 (by decide), sb, q, if_pos rfl, rd_nI _ (by omega) (by decide), sb, if_pos p, wr_st _ _ _ hj4 (by decide), sb]
            unfold fX2_wasStarted
            rw [rd_nI _ hj4 (by decide), sb, show st x 8 j 1 12 j = -1 by rw [st_row _ (by decide), w], if_pos rfl, sb, if_pos rfl, show st x 8 j 1 25 0 = x 25 0 by rw [st_row _ (by decide)], wr_st _ _ _ hj4 (by decide), sb, rd_nI _ hj4 (by decide), sb, rd_nI _ (by omega) (by decide), sb, show st (st x 8 j 1) 12 j (x 25 0) 5 j = nI o by rw [st_row _ (by decide), st_row _ (by decide), a3], show st (st x 8 j 1) 12 j (x 25 0) 1 j = nI (i * 2 ^ o) by rw [st_row _ (by decide), st_row _ (by decide), a4]]
            unfold fX4_blockIndex
            rw [bi_c o a1 i a2, sb, rd_nI _ hb (by decide), sb, wr_st _ _ _ hb (by decide), sb, c1, sb, nI_1]
          · unfold fX5_starts_b2
            rw [g1, sb, h0.1.2.2.2.1, if_neg (nI_ge hj (by omega)), of4 n y hj4, sb, hF4, q, if_pos rfl, of6 n y hj4, sb, g0, sb, hF6, ← hcl, if_pos p, pt4 n y _ hj4, sb, of12 n _ hj4, sb, st_ne _ (by omega), hF12, w, if_neg (by decide), g0, sb, st_ne _ (by omega), ← hcl, pt12 n _ _ hj4, sb, of1 n _ hj4, sb, of5 n _ hj4, sb, st_ne _ (by omega), st_ne _ (by omega), st_ne _ (by omega), st_ne _ (by omega), hF1, hF5, a3, a4]
            unfold fX5_block
            rw [bi_r o a1 i a2, sb, show (545 : Int32) + nI (32 / 2 ^ o + i) = nI (545 + (32 / 2 ^ o + i)) from nI_add 545 _, rd_nI _ (by omega) (by decide), sb, wr_st _ _ _ (by omega) (by decide), sb, c2, sb, nI_1]
        · obtain ⟨σ', τ', c1, c2, c3, c4⟩ := run_lk (σ1 := st x 8 j 1) (τ1 := st y 0 (5 + 14 * j + 4) 1) hn hX hj a1 a2 q p (v := x 12 j) hv (fun k k1 k2 => by rw [st_row _ k1]) (fun k j' hj' => by rw [st_ne _ hj']) (st_eq _) (by rw [st_row _ (by decide)]) (fun k hk => by rw [st_row _ hk]) (fun i k1 k2 => by rw [st_ne _ k1]) (st_eq _) (by rw [st_ne _ (by omega), hF12])
          refine ⟨σ', τ', fun go => ?_, fun go' => ?_, c3, c4.1.trans h11.1, c4.2.trans h11.2⟩
          · unfold fX0_startJobs_b2
            rw [h0.1.2.2.1, if_neg (nI_ge hj (by omega)), rd_nI _ hj4 (by decide), sb, q, if_pos rfl, rd_nI _ (by omega) (by decide), sb, if_pos p, wr_st _ _ _ hj4 (by decide), sb]
            unfold fX2_wasStarted
            rw [rd_nI _ hj4 (by decide), sb, if_neg (show ¬ st x 8 j 1 12 j = -1 by rw [st_row _ (by decide)]; exact w), sb, if_neg n10, rd_nI _ hj4 (by decide), sb, rd_nI _ (by omega) (by decide), sb, show st x 8 j 1 5 j = nI o by rw [st_row _ (by decide), a3], show st x 8 j 1 1 j = nI (i * 2 ^ o) by rw [st_row _ (by decide), a4]]
            unfold fX4_blockIndex
            rw [bi_c o a1 i a2, sb, rd_nI _ hb (by decide), sb, wr_st _ _ _ hb (by decide), sb, c1, sb, nI_1]
          · unfold fX5_starts_b2
            rw [g1, sb, h0.1.2.2.2.1, if_neg (nI_ge hj (by omega)), of4 n y hj4, sb, hF4, q, if_pos rfl, of6 n y hj4, sb, g0, sb, hF6, ← hcl, if_pos p, pt4 n y _ hj4, sb, of12 n _ hj4, sb, st_ne _ (by omega), hF12, if_pos (Int32.not_lt.mp (hv.resolve_left w)), of1 n _ hj4, sb, of5 n _ hj4, sb, st_ne _ (by omega), st_ne _ (by omega), hF1, hF5, a3, a4]
            unfold fX5_block
            rw [bi_r o a1 i a2, sb, show (545 : Int32) + nI (32 / 2 ^ o + i) = nI (545 + (32 / 2 ^ o + i)) from nI_add 545 _, rd_nI _ (by omega) (by decide), sb, wr_st _ _ _ (by omega) (by decide), sb, c2, sb, nI_1]
      · refine ⟨x, y, fun go => ?_, fun go' => ?_, hX, h11⟩
        · unfold fX0_startJobs_b2
          rw [h0.1.2.2.1, if_neg (nI_ge hj (by omega)), rd_nI _ hj4 (by decide), sb, q, if_pos rfl, rd_nI _ (by omega) (by decide), sb, if_neg p, nI_1]
        · unfold fX5_starts_b2
          rw [g1, sb, h0.1.2.2.2.1, if_neg (nI_ge hj (by omega)), of4 n y hj4, sb, hF4, q, if_pos rfl, of6 n y hj4, sb, g0, sb, hF6, ← hcl, if_neg p, nI_1]
    · refine ⟨x, y, fun go => ?_, fun go' => ?_, hX, h11⟩
      · unfold fX0_startJobs_b2
        rw [h0.1.2.2.1, if_neg (nI_ge hj (by omega)), rd_nI _ hj4 (by decide), sb, if_neg q, nI_1]
      · unfold fX5_starts_b2
        rw [g1, sb, h0.1.2.2.2.1, if_neg (nI_ge hj (by omega)), of4 n y hj4, sb, hF4, if_neg q, nI_1]) c 0 σ τ n n (by omega) (by omega) (by omega) ⟨h, rfl, rfl⟩
  exact ⟨r1, r2, h1, h2, h3.1, h3.2⟩
