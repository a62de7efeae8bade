/-! MATHEMATICS 12: submit, cancel -/
theorem prom_lk {β : St} {c r m E : Nat} {σ τ : St} {x : Nat} (h : RX β c r (DR x) m E σ τ) (hx : x < 24) (v : Int32) : RX β c r DN m E (st σ 11 x v) (st τ 0 (5 + 14 * x + 7) v) := by
  obtain ⟨hK, hQ, h0⟩ := h
  obtain ⟨hF, hV, hA, hN⟩ := h0.2.1 x hx
  refine ⟨RK_st hK, fun i hi => by rw [st_row _ (by decide), st_row _ (by decide)]; exact hQ i hi, R0_job (x := x) h0 (fun j w hj d => absurd d.1 hj) (fun k _ j hj => st_ne _ hj) (fun k h1 _ _ _ _ => st_row _ (by omega)) (fun i _ hi => st_ne _ (by omega)) (fun k hk => by rw [st_row _ (by decide), st_ne _ (by omega)]; exact h0.2.2.2.2 k hk) hx ⟨fun w hw _ => ?_, fun q => ?_, fun q p => ?_, fun q => ?_⟩⟩
  · by_cases z : w = 7
    · subst z
      rw [st_eq]
      exact (st_eq σ).symm
    · have e : ∀ w, w < 14 → w ≠ 7 → cm w ≠ 11 := by decide
      rw [st_ne _ (by omega), st_row _ (e w hw z)]
      exact hF w hw (fun d => z d.2)
  · have := hV q
    unfold JV at this ⊢
    rw [st_row _ (by decide), st_row _ (by decide), st_row _ (by decide), st_row _ (by decide), st_row _ (by decide), st_row _ (by decide), st_row _ (by decide), st_row _ (by decide)]
    exact this
  · rw [st_ne _ (by omega)] at p
    rw [st_ne _ (by omega), st_ne _ (by omega), st_ne _ (by omega), st_ne _ (by omega)]
    exact HS_congr (fun i hi => by rw [st_row _ (by omega)]) (hA q p)
  · rw [st_ne _ (by omega)] at q
    rw [st_row _ (by decide)]
    exact hN q
theorem addJob_lk {n : Nat} (hn : 178 ≤ n) {β : St} {c r m E : Nat} {σ τ : St} (h : RX β c r DN m E σ τ) (hE : rmE m E) (hc : c < 24) {u o e t : Nat} (hu : u < 4) (ho : o < 6) (he : e ≤ 40) (ht : 1 ≤ t) (ht' : t ≤ 40) : ∃ v σ' τ', fX0_addJob n σ (nI u) (nI o) (nI e) (nI t) = some (v, σ') ∧ (Option.bind (fX5_records n (apR τ c (nI u) (nI o) (nI e) (nI t) (τ 0 0)) 0 (nI c)) fun s28 => Option.bind (fX5_plans n s28 (nI c)) fun s29 => Option.bind (fX5_of n s29 (nI c) 6) fun v30 => Option.bind (fX5_put n s29 (nI c) 7 v30) fun s31 => Option.bind (fX5_starts n s31) fun s32 => some (v30, s32)) = some (v, τ') ∧ RX β (c + 1) r DN m (E + 40 + 9 * m) σ' τ' := by
  have hcl : σ 25 0 = τ 0 0 := h.2.2.1.2.2.2.2.2.2.1
  have h1 := append_lk h hc hu ho he ht ht'
  obtain ⟨σ3, τ3, a1, a2, a3, a4, -, -⟩ := note_lk hn h1 0 (nI c)
  obtain ⟨s, σ5, τ5, b1, b2, b3, b4, b5⟩ := plan_lk (n := n) (D' := DR c) (by omega) a3 hE (x := c) (by omega) (by rw [a4 8 (by omega)]; simp [apS, sf_ap, st_ap]) (fun w d => d.2) (fun j w d => by
    rcases d.2 with q | q
    · exact Or.inr ⟨d.1, q⟩
    · exact Or.inl ⟨d.1, q⟩)
  have h2 := prom_lk b4 hc s
  obtain ⟨σ7, τ7, c1, c2, c3, c4⟩ := start_lk hn h2
  refine ⟨s, σ7, τ7, ?_, ?_, c3⟩
  · unfold fX0_addJob
    rw [append_eq n hc h.2.2.1.2.2.1, b2s, hcl, a1, sb, b1, b2s, wr_st _ _ _ hc (by decide), sb, c1, sb, rd_nI _ hc (by decide), sb, c4.1, st_eq]
  · rw [a2, sb, b2, sb, of6 n _ hc, sb, b3, pt7 n _ _ hc, sb, c2, sb]
theorem L_submit {n : Nat} (hn : 700 ≤ n) {j : Nat} {σ2 σ τ : St} (hj : j < 512) (h : INV j σ2 σ τ) (a1 a2 a3 a4 : Int32) : AgI [xIA, xIS] (fX4_submit n σ a1 a2 a3 a4) (fX5_submit n τ a1 a2 a3 a4) (fun σ' τ' => INV (j + 1) σ2 σ' τ') := by
  have thr : ∀ (v : Int32) (X : String), X ∈ [xIA, xIS] → cdL [xIA, xIS] 1 X = v → fX4_submit n σ a1 a2 a3 a4 = some (.inl (X, σ)) → fX5_submit n τ a1 a2 a3 a4 = some (0, sf (sf τ 6 0) 6 v) → AgI [xIA, xIS] (fX4_submit n σ a1 a2 a3 a4) (fX5_submit n τ a1 a2 a3 a4) (fun σ' τ' => INV (j + 1) σ2 σ' τ') := fun v X h1 h2 h3 h4 => AgI_t h3 h4 h1 (by rw [sf6, h2]) (INV_66 h 0 v)
  have m1 : xIA ∈ [xIA, xIS] := by simp
  have m2 : xIS ∈ [xIA, xIS] := by simp
  rcases user_cs n a1 with ⟨u, hu, rfl, e1, e2⟩ | ⟨e1, e2⟩
  · rcases order_cs n a2 with ⟨o, ho, rfl, e3, e4⟩ | ⟨e3, e4⟩
    · rcases length_cs n a3 with ⟨e, he1, he, rfl, e5, e6⟩ | ⟨e5, e6⟩
      · by_cases q : a4 < 1
        · refine thr 1 xIA m1 (cd1 _ _) ?_ ?_
          · unfold fX4_submit
            rw [e1, sb, if_neg i10, e3, sb, if_neg i10, e5, sb, if_neg i10, if_pos q]
          · unfold fX5_submit
            rw [wf_sf, sb, e2, sb, if_neg i10, e4, sb, if_neg i10, e6, sb, if_neg i10, in_eq, if_neg (fun z => z.1 q), sb, if_pos rfl]
            rfl
        · by_cases p : a4 ≤ nI e
          · obtain ⟨c, r, hX⟩ := INV_o h
            have hc : c ≤ 24 := hX.2.2.1.1
            have q' : ¬ a4 < 0 := by rw [lt_int] at q ⊢; have : (1 : Int32).toInt = 1 := rfl; have : (0 : Int32).toInt = 0 := rfl; omega
            obtain ⟨t, ht, rfl⟩ := nI_of2 (n := e) (nI_toInt (by omega)) q' p
            have ht1 : 1 ≤ t := by
              rw [lt_int, nI_toInt (by omega), one_int] at q
              omega
            have hX16 : σ 16 0 = nI c := hX.2.2.1.2.2.1
            have hX1 : sf τ 6 0 0 1 = nI c := hX.2.2.1.2.2.2.1
            by_cases z : c < 24
            · have hb := EE_b hj
              have hs := EE_s j
              have hE0 := EE_1 j
              obtain ⟨v, σ', τ', b1, b2, b3⟩ := addJob_lk (n := n) (by omega) hX ⟨by omega, by omega, by omega⟩ z hu ho he ht1 (by omega)
              obtain ⟨i1, i2⟩ := INV_c h b3 (by omega) (by omega)
              refine AgI_v (v := v) (σ' := mrg σ σ') (τ' := τ') ?_ ?_ i2 i1
              · unfold fX4_submit
                rw [e1, sb, if_neg i10, e3, sb, if_neg i10, e5, sb, if_neg i10, if_neg q, if_pos p, hX16, if_pos (show nI c < 24 from nI_lt (b := 24) z (by decide)), b1, b2s, sb]
              · unfold fX5_submit
                rw [wf_sf, sb, e2, sb, if_neg i10, e4, sb, if_neg i10, e6, sb, if_neg i10, in_eq, if_pos ⟨q, Int32.not_lt.mpr p⟩, sb, if_neg i10, g1, sb, hX1, if_neg (fun w => by have := (nI_eq (a := c) (b := 24) (by omega) (by decide)).mp w; omega), sb]
                rw [pt0 n _ _ z, sb, pt1 n _ _ z, sb, pt2 n _ _ z, sb, pt3 n _ _ z, sb, pt9 n _ _ z, sb, pt4 n _ _ z, sb, g0, sb]
                rw [st_ne _ (by omega), st_ne _ (by omega), st_ne _ (by omega), st_ne _ (by omega), st_ne _ (by omega), st_ne _ (by omega)]
                rw [pt8 n _ _ z, sb, pt10 n _ _ z, sb, pt11 n _ _ z, sb, pt12 n _ _ z, sb, pt13 n _ _ z, sb, g1, sb]
                rw [show st (st (st (st (st (st (st (st (st (st (st (sf τ 6 0) 0 (5 + 14 * c + 0) (nI u)) 0 (5 + 14 * c + 1) (nI o)) 0 (5 + 14 * c + 2) (nI e)) 0 (5 + 14 * c + 3) (nI t)) 0 (5 + 14 * c + 9) (nI t)) 0 (5 + 14 * c + 4) 4) 0 (5 + 14 * c + 8) (sf τ 6 0 0 0)) 0 (5 + 14 * c + 10) (-1)) 0 (5 + 14 * c + 11) 0) 0 (5 + 14 * c + 12) (-1)) 0 (5 + 14 * c + 13) 0 0 1 = nI c by
                  rw [st_ne _ (by omega), st_ne _ (by omega), st_ne _ (by omega), st_ne _ (by omega), st_ne _ (by omega), st_ne _ (by omega), st_ne _ (by omega), st_ne _ (by omega), st_ne _ (by omega), st_ne _ (by omega), st_ne _ (by omega), hX1]]
                rw [nI_1, gw1, sb]
                exact b2
            · have hz : c = 24 := by omega
              subst hz
              refine thr 2 xIS m2 (cd2 ne_SA _) ?_ ?_
              · unfold fX4_submit
                rw [e1, sb, if_neg i10, e3, sb, if_neg i10, e5, sb, if_neg i10, if_neg q, if_pos p, hX16, if_neg (by decide)]
              · unfold fX5_submit
                rw [wf_sf, sb, e2, sb, if_neg i10, e4, sb, if_neg i10, e6, sb, if_neg i10, in_eq, if_pos ⟨q, Int32.not_lt.mpr p⟩, sb, if_neg i10, g1, sb, hX1, if_pos (show nI 24 = 24 from rfl)]
                rfl
          · refine thr 1 xIA m1 (cd1 _ _) ?_ ?_
            · unfold fX4_submit
              rw [e1, sb, if_neg i10, e3, sb, if_neg i10, e5, sb, if_neg i10, if_neg q, if_neg p]
            · unfold fX5_submit
              rw [wf_sf, sb, e2, sb, if_neg i10, e4, sb, if_neg i10, e6, sb, if_neg i10, in_eq, if_neg (fun z => z.2 (Int32.not_le.mp p)), sb, if_pos rfl]
              rfl
      · refine thr 1 xIA m1 (cd1 _ _) ?_ ?_
        · unfold fX4_submit
          rw [e1, sb, if_neg i10, e3, sb, if_neg i10, e5, sb, if_pos rfl]
        · unfold fX5_submit
          rw [wf_sf, sb, e2, sb, if_neg i10, e4, sb, if_neg i10, e6, sb, if_pos rfl]
          rfl
    · refine thr 1 xIA m1 (cd1 _ _) ?_ ?_
      · unfold fX4_submit
        rw [e1, sb, if_neg i10, e3, sb, if_pos rfl]
      · unfold fX5_submit
        rw [wf_sf, sb, e2, sb, if_neg i10, e4, sb, if_pos rfl]
        rfl
  · refine thr 1 xIA m1 (cd1 _ _) ?_ ?_
    · unfold fX4_submit
      rw [e1, sb, if_pos rfl]
    · unfold fX5_submit
      rw [wf_sf, sb, e2, sb, if_pos rfl]
      rfl
/-- a job gives up its allocation -/
theorem leave_lk {β : St} {c r m m' E : Nat} {σ τ σ1 τ1 : St} (h : RX β c r DN m E σ τ) (hm : m ≤ m') {x s : Nat} (hx : x < c) (hs : 2 ≤ s) (hs' : s < 5)
    (s1 : ∀ k j, j ≠ x → σ1 k j = σ k j) (s2 : ∀ k, 16 ≤ k → σ1 k = σ k) (t1 : ∀ k, k ≠ 0 → τ1 k = τ k) (t2 : ∀ i, i < 5 + 14 * x ∨ 5 + 14 * x + 14 ≤ i → τ1 0 i = τ 0 i)
    (f : ∀ w, w < 14 → w ≠ 4 → τ1 0 (5 + 14 * x + w) = σ1 (cm w) x) (f4 : τ1 0 (5 + 14 * x + 4) = nI s) (f8 : σ1 8 x = nI s) (f0 : σ1 0 x = 0) (v4 : σ1 4 x = σ 4 x) (v5 : σ1 5 x = σ 5 x) (v9 : σ1 9 x = σ 9 x) (v12 : σ1 12 x = σ 12 x) (v6 : -(1000 * (m' : Int)) ≤ (σ1 6 x).toInt ∧ (σ1 6 x).toInt ≤ 40 + 9 * (m' : Int)) : RX β c r DN m' E σ1 τ1 := by
  obtain ⟨⟨k1, k4, k5, k6⟩, hQ, h0⟩ := h
  have hc : c ≤ 24 := h0.1.1
  have hx4 : x < 24 := by omega
  have h0' : R0 c r DN m' E σ (τ 0) := R0_mono hm (Nat.le_refl _) h0
  obtain ⟨hF, hV, hA, hN⟩ := h0.2.1 x hx4
  refine ⟨⟨by rw [t1 1 (by decide)]; exact k1, by rw [t1 4 (by decide)]; exact k4, by rw [t1 5 (by decide)]; exact k5, by rw [t1 6 (by decide)]; exact k6⟩, fun i hi => by rw [s2 23 (by decide), t1 2 (by decide)]; exact hQ i hi, R0_job (x := x) h0' (fun _ _ _ z => z) (fun k _ j hj => s1 k j hj) (fun k h1 _ _ _ _ => s2 k h1) (fun i _ hi => t2 i hi) (fun k hk => by rw [s2 22 (by decide), t2 _ (by omega)]; exact h0.2.2.2.2 k hk) hx4 ⟨fun w hw _ => ?_, fun _ => ?_, fun _ p => ?_, fun _ => f0⟩⟩
  · by_cases z : w = 4
    · subst z; rw [f4]; exact f8.symm
    · exact f w hw z
  · obtain ⟨w1, w2, w3, w4, w5, w6, w7⟩ := hV hx
    refine ⟨by rw [v4]; exact w1, by rw [v5]; exact w2, v6, ⟨s, hs', f8⟩, by rw [v12]; exact w5, by rw [v9]; exact w6, fun z => ?_⟩
    rw [f8] at z
    have := (nI_eq (a := s) (b := 1) (by omega) (by decide)).mp z
    omega
  · rw [f4] at p
    exact absurd (show (2 : Int32) ≤ nI s from nI_le (a := 2) hs (by omega)) p
theorem endRun_eq (n : Nat) (σ : St) {x : Nat} (hx : x < 24) (v : Int32) : fX0_endRun n σ (nI x) v = some (st (st σ 15 x (un σ x)) 8 x v) := by
  unfold fX0_endRun
  rw [units_eq n σ hx, sb, wr_st _ _ _ hx (by decide), sb, wr_st _ _ _ hx (by decide), sb]
theorem clearSlot_eq (n : Nat) (σ : St) {x : Nat} (hx : x < 30) : fX3_clearSlot n σ (nI x) = some (st σ 0 x 0) := by
  unfold fX3_clearSlot
  rw [wr_st _ _ _ hx (by decide), sb]
theorem add_sub3 (a b c : Int32) : a + b - c = a + (b - c) := by
  rw [Int32.sub_eq_add_neg, Int32.sub_eq_add_neg, Int32.add_assoc]
/-- log, replan and start behind a job that has gone -/
theorem tail_lk {n : Nat} (hn : 178 ≤ n) {β : St} {c r m E : Nat} {σ τ : St} (h : RX β c r DN m E σ τ) (hE0 : 1000 ≤ E) (hE : rmE m (E + 24 * (40 + 9 * m))) (k x : Int32) : ∃ σ3 σ4 σ5 τ3 τ4 τ5, fX1_note n σ (σ 25 0) k x = some σ3 ∧ fX0_replan n σ3 = some σ4 ∧ fX0_startJobs n σ4 = some σ5 ∧ fX5_records n τ k x = some τ3 ∧ fX5_replans n τ3 = some τ4 ∧ fX5_starts n τ4 = some τ5 ∧ RX β c r DN m (E + 24 * (40 + 9 * m)) σ5 τ5 := by
  obtain ⟨σ3, τ3, a1, a2, a3, a4, -, -⟩ := note_lk hn h k x
  obtain ⟨σ4, τ4, b1, b2, b3, b4⟩ := replan_lk hn a3 hE0 hE
  obtain ⟨σ5, τ5, c1, c2, c3, c4⟩ := start_lk hn b3
  exact ⟨σ3, σ4, σ5, τ3, τ4, τ5, a1, b1, c1, a2, b2, c2, c3⟩
theorem job_cs (n : Nat) {c : Nat} (hc : c ≤ 24) {σ τ : St} (h16 : σ 16 0 = nI c) (h1 : τ 0 1 = nI c) (x : Int32) : (∃ q, q < c ∧ x = nI q ∧ fX4_checkJob n σ x = some (.inr (0, σ)) ∧ fX5_isJob n τ x = some 1) ∨ (fX4_checkJob n σ x = some (.inl (xIO, σ)) ∧ fX5_isJob n τ x = some 0) := by
  have e : nI c - 1 < x ↔ ¬ x < nI c := by
    rw [pred_lt (by rw [nI_toInt (by omega)]; omega)]
    exact Int32.not_lt.symm
  unfold fX4_checkJob fX5_isJob
  rw [g1, sb, h16, h1, in_eq, sb]
  by_cases q : x < 0
  · rw [if_pos q, if_neg (fun z => z.1 q)]
    exact Or.inr ⟨rfl, rfl⟩
  · rw [if_neg q]
    by_cases p : x < nI c
    · rw [if_pos p, if_pos ⟨q, fun z => e.mp z p⟩]
      obtain ⟨k, hk, rfl⟩ := nI_of q
      exact Or.inl ⟨k, (nI_ltI hk (by omega)).mp p, rfl, rfl, rfl⟩
    · rw [if_neg p, if_neg (fun z => z.2 (e.mpr p))]
      exact Or.inr ⟨rfl, rfl⟩
theorem bx_r {α : Type} (v : Int32) (s : St) (K : Int32 → St → Option (XRg α)) : bx (some (.inr (v, s))) K = K v s := rfl
theorem bx_l {α : Type} (X : String) (s : St) (K : Int32 → St → Option (XRg α)) : bx (some (.inl (X, s))) K = some (.inl (X, s)) := rfl
theorem st_cs {c r m E : Nat} {D : Nat → Nat → Prop} {σ : St} {a : Nat → Int32} (h : R0 c r D m E σ a) {q : Nat} (hq : q < c) : σ 8 q = 0 ∨ σ 8 q = 1 ∨ (¬ σ 8 q = 0 ∧ ¬ σ 8 q = 1 ∧ ¬ σ 8 q ≤ 1 ∧ 2 ≤ σ 8 q) := by
  have hc : c ≤ 24 := h.1.1
  obtain ⟨-, -, -, ⟨s, hs, e⟩, -⟩ := (h.2.1 q (by omega)).2.1 hq
  rw [e]
  have key : ∀ s, s < 5 → (nI s = 0 ∨ nI s = 1 ∨ (¬ nI s = 0 ∧ ¬ nI s = 1 ∧ ¬ nI s ≤ 1 ∧ 2 ≤ nI s)) := by decide
  exact key s hs
