/-! MATHEMATICS 16: questions of one job, of the clock, of the log -/
theorem L_refusal {n : Nat} {j : Nat} {σ2 σ τ : St} (h : INV j σ2 σ τ) : ∃ v τ', fX4_refusal n σ = some v ∧ fX5_refusal n τ = some (v, τ') ∧ INV (j + 1) σ2 σ τ' := by
  refine ⟨σ 29 0, sf τ 6 0, rfl, ?_, INV_6 h 0⟩
  unfold fX5_refusal
  rw [wf_sf, sb, sf_row _ (by decide), h.2.2.2.1]
theorem L_clock {n : Nat} {j : Nat} {σ2 σ τ : St} (h : INV j σ2 σ τ) : ∃ v τ', fX4_clock n σ = some v ∧ fX5_clock n τ = some (v, τ') ∧ INV (j + 1) σ2 σ τ' := by
  obtain ⟨c, r, hX⟩ := INV_o h
  refine ⟨σ 25 0, sf τ 6 0, rfl, ?_, INV_6 h 0⟩
  unfold fX5_clock
  rw [wf_sf, sb, g0, sb, hX.2.2.1.2.2.2.2.2.2.1]
theorem L_jobCount {n : Nat} {j : Nat} {σ2 σ τ : St} (h : INV j σ2 σ τ) : ∃ v τ', fX4_jobCount n σ = some v ∧ fX5_jobCount n τ = some (v, τ') ∧ INV (j + 1) σ2 σ τ' := by
  obtain ⟨c, r, hX⟩ := INV_o h
  refine ⟨σ 16 0, sf τ 6 0, rfl, ?_, INV_6 h 0⟩
  unfold fX5_jobCount
  rw [wf_sf, sb, g1, sb, hX.2.2.1.2.2.1, hX.2.2.1.2.2.2.1]
theorem L_eventCount {n : Nat} {j : Nat} {σ2 σ τ : St} (h : INV j σ2 σ τ) : ∃ v τ', fX4_eventCount n σ = some v ∧ fX5_eventCount n τ = some (v, τ') ∧ INV (j + 1) σ2 σ τ' := by
  obtain ⟨c, r, hX⟩ := INV_o h
  obtain ⟨lc, lo, h1, h2, h3, h5, h6, h7, h8⟩ := hX.2.2.2.2.2.1
  refine ⟨σ 20 0, sf τ 6 0, rfl, ?_, INV_6 h 0⟩
  unfold fX5_eventCount
  rw [wf_sf, sb, g4, sb, h5, h6]
theorem L_state {n : Nat} {j : Nat} {σ2 σ τ : St} (h : INV j σ2 σ τ) (a1 : Int32) : AgI [xIO] (fX4_state n σ a1) (fX5_state n τ a1) (fun σ' τ' => INV (j + 1) σ2 σ' τ') := by
  obtain ⟨c, r, hX⟩ := INV_o h
  have h0 := hX.2.2
  have hc : c ≤ 24 := h0.1.1
  rcases job_cs n hc h0.1.2.2.1 h0.1.2.2.2.1 a1 with ⟨x, hx, rfl, e1, e2⟩ | ⟨e1, e2⟩
  · have hF : sf τ 6 0 0 (5 + 14 * x + 4) = σ 8 x := (h0.2.1 x (by omega)).1 4 (by decide) id
    refine AgI_v (v := σ 8 x) (σ' := σ) (τ' := sf τ 6 0) ?_ ?_ (sf6 _ _) (INV_6 h 0)
    · unfold fX4_state
      rw [e1, bx_r, rd_nI _ (by omega) (by decide), sb]
    · unfold fX5_state
      rw [wf_sf, sb, e2, sb, if_neg i10, of4 n _ (by omega), sb, hF]
  · refine AgI_t (X := xIO) (b := 0) (σ' := σ) (τ' := sf (sf τ 6 0) 6 1) ?_ ?_ (by simp) (by rw [sf6, cd1]) (INV_66 h 0 1)
    · unfold fX4_state
      rw [e1, bx_l]
    · unfold fX5_state
      rw [wf_sf, sb, e2, sb, if_pos rfl]
      rfl
theorem L_promise {n : Nat} {j : Nat} {σ2 σ τ : St} (h : INV j σ2 σ τ) (a1 : Int32) : AgI [xIO] (fX4_promise n σ a1) (fX5_promise n τ a1) (fun σ' τ' => INV (j + 1) σ2 σ' τ') := by
  obtain ⟨c, r, hX⟩ := INV_o h
  have h0 := hX.2.2
  have hc : c ≤ 24 := h0.1.1
  rcases job_cs n hc h0.1.2.2.1 h0.1.2.2.2.1 a1 with ⟨x, hx, rfl, e1, e2⟩ | ⟨e1, e2⟩
  · have hF : sf τ 6 0 0 (5 + 14 * x + 7) = σ 11 x := (h0.2.1 x (by omega)).1 7 (by decide) id
    refine AgI_v (v := σ 11 x) (σ' := σ) (τ' := sf τ 6 0) ?_ ?_ (sf6 _ _) (INV_6 h 0)
    · unfold fX4_promise
      rw [e1, bx_r, rd_nI _ (by omega) (by decide), sb]
    · unfold fX5_promise
      rw [wf_sf, sb, e2, sb, if_neg i10, of7 n _ (by omega), sb, hF]
  · refine AgI_t (X := xIO) (b := 0) (σ' := σ) (τ' := sf (sf τ 6 0) 6 1) ?_ ?_ (by simp) (by rw [sf6, cd1]) (INV_66 h 0 1)
    · unfold fX4_promise
      rw [e1, bx_l]
    · unfold fX5_promise
      rw [wf_sf, sb, e2, sb, if_pos rfl]
      rfl
theorem L_preemptions {n : Nat} {j : Nat} {σ2 σ τ : St} (h : INV j σ2 σ τ) (a1 : Int32) : AgI [xIO] (fX4_preemptions n σ a1) (fX5_preemptions n τ a1) (fun σ' τ' => INV (j + 1) σ2 σ' τ') := by
  obtain ⟨c, r, hX⟩ := INV_o h
  have h0 := hX.2.2
  have hc : c ≤ 24 := h0.1.1
  rcases job_cs n hc h0.1.2.2.1 h0.1.2.2.2.1 a1 with ⟨x, hx, rfl, e1, e2⟩ | ⟨e1, e2⟩
  · have hF : sf τ 6 0 0 (5 + 14 * x + 11) = σ 14 x := (h0.2.1 x (by omega)).1 11 (by decide) id
    refine AgI_v (v := σ 14 x) (σ' := σ) (τ' := sf τ 6 0) ?_ ?_ (sf6 _ _) (INV_6 h 0)
    · unfold fX4_preemptions
      rw [e1, bx_r, rd_nI _ (by omega) (by decide), sb]
    · unfold fX5_preemptions
      rw [wf_sf, sb, e2, sb, if_neg i10, of11 n _ (by omega), sb, hF]
  · refine AgI_t (X := xIO) (b := 0) (σ' := σ) (τ' := sf (sf τ 6 0) 6 1) ?_ ?_ (by simp) (by rw [sf6, cd1]) (INV_66 h 0 1)
    · unfold fX4_preemptions
      rw [e1, bx_l]
    · unfold fX5_preemptions
      rw [wf_sf, sb, e2, sb, if_pos rfl]
      rfl
theorem L_startTime {n : Nat} {j : Nat} {σ2 σ τ : St} (h : INV j σ2 σ τ) (a1 : Int32) : AgI [xIO, xIS] (fX4_startTime n σ a1) (fX5_startTime n τ a1) (fun σ' τ' => INV (j + 1) σ2 σ' τ') := by
  obtain ⟨c, r, hX⟩ := INV_o h
  have h0 := hX.2.2
  have hc : c ≤ 24 := h0.1.1
  rcases job_cs n hc h0.1.2.2.1 h0.1.2.2.2.1 a1 with ⟨x, hx, rfl, e1, e2⟩ | ⟨e1, e2⟩
  · have hF : sf τ 6 0 0 (5 + 14 * x + 6) = σ 2 x := (h0.2.1 x (by omega)).1 6 (by decide) id
    have hF4 : sf τ 6 0 0 (5 + 14 * x + 4) = σ 8 x := (h0.2.1 x (by omega)).1 4 (by decide) id
    have hx4 : x < 24 := by omega
    have good : fX4_checkAllocated n σ (nI x) = some (.inr (0, σ)) → ¬ (2 : Int32) ≤ σ 8 x → AgI [xIO, xIS] (fX4_startTime n σ (nI x)) (fX5_startTime n τ (nI x)) (fun σ' τ' => INV (j + 1) σ2 σ' τ') := fun e3 e4 => by
      refine AgI_v (v := σ 2 x) (σ' := σ) (τ' := sf τ 6 0) ?_ ?_ (sf6 _ _) (INV_6 h 0)
      · unfold fX4_startTime
        rw [e1, bx_r, e3, bx_r, rd_nI _ (by omega) (by decide), sb]
      · unfold fX5_startTime fX5_ofAllocated
        rw [wf_sf, sb, e2, sb, if_neg i10, isAlloc_eq n _ hx4, sb, hF4, if_neg e4, if_neg i10, of6 n _ hx4, sb, b2s, hF]
    rcases st_cs h0 hx with z | z | ⟨z1, z2, z3, z4⟩
    · refine good ?_ (by rw [z]; decide)
      unfold fX4_checkAllocated
      rw [rd_nI _ hx4 (by decide), sb, if_pos z]
    · refine good ?_ (by rw [z]; decide)
      unfold fX4_checkAllocated
      rw [rd_nI _ hx4 (by decide), sb, z, if_neg i10, if_pos rfl]
    · refine AgI_t (X := xIS) (b := 0) (σ' := σ) (τ' := sf (sf τ 6 0) 6 2) ?_ ?_ (by simp) (by rw [sf6, cd2 ne_SO]) (INV_66 h 0 2)
      · unfold fX4_startTime fX4_checkAllocated
        rw [e1, bx_r, rd_nI _ hx4 (by decide), sb, if_neg z1, if_neg z2, bx_l]
      · unfold fX5_startTime fX5_ofAllocated
        rw [wf_sf, sb, e2, sb, if_neg i10, isAlloc_eq n _ hx4, sb, hF4, if_pos z4, if_pos rfl]
        rfl
  · refine AgI_t (X := xIO) (b := 0) (σ' := σ) (τ' := sf (sf τ 6 0) 6 1) ?_ ?_ (by simp) (by rw [sf6, cd1]) (INV_66 h 0 1)
    · unfold fX4_startTime
      rw [e1, bx_l]
    · unfold fX5_startTime fX5_ofAllocated
      rw [wf_sf, sb, e2, sb, if_pos rfl]
      rfl
theorem L_firstProcessor {n : Nat} {j : Nat} {σ2 σ τ : St} (h : INV j σ2 σ τ) (a1 : Int32) : AgI [xIO, xIS] (fX4_firstProcessor n σ a1) (fX5_firstProcessor n τ a1) (fun σ' τ' => INV (j + 1) σ2 σ' τ') := by
  obtain ⟨c, r, hX⟩ := INV_o h
  have h0 := hX.2.2
  have hc : c ≤ 24 := h0.1.1
  rcases job_cs n hc h0.1.2.2.1 h0.1.2.2.2.1 a1 with ⟨x, hx, rfl, e1, e2⟩ | ⟨e1, e2⟩
  · have hF : sf τ 6 0 0 (5 + 14 * x + 5) = σ 1 x := (h0.2.1 x (by omega)).1 5 (by decide) id
    have hF4 : sf τ 6 0 0 (5 + 14 * x + 4) = σ 8 x := (h0.2.1 x (by omega)).1 4 (by decide) id
    have hx4 : x < 24 := by omega
    have good : fX4_checkAllocated n σ (nI x) = some (.inr (0, σ)) → ¬ (2 : Int32) ≤ σ 8 x → AgI [xIO, xIS] (fX4_firstProcessor n σ (nI x)) (fX5_firstProcessor n τ (nI x)) (fun σ' τ' => INV (j + 1) σ2 σ' τ') := fun e3 e4 => by
      refine AgI_v (v := σ 1 x) (σ' := σ) (τ' := sf τ 6 0) ?_ ?_ (sf6 _ _) (INV_6 h 0)
      · unfold fX4_firstProcessor
        rw [e1, bx_r, e3, bx_r, rd_nI _ (by omega) (by decide), sb]
      · unfold fX5_firstProcessor fX5_ofAllocated
        rw [wf_sf, sb, e2, sb, if_neg i10, isAlloc_eq n _ hx4, sb, hF4, if_neg e4, if_neg i10, of5 n _ hx4, sb, b2s, hF]
    rcases st_cs h0 hx with z | z | ⟨z1, z2, z3, z4⟩
    · refine good ?_ (by rw [z]; decide)
      unfold fX4_checkAllocated
      rw [rd_nI _ hx4 (by decide), sb, if_pos z]
    · refine good ?_ (by rw [z]; decide)
      unfold fX4_checkAllocated
      rw [rd_nI _ hx4 (by decide), sb, z, if_neg i10, if_pos rfl]
    · refine AgI_t (X := xIS) (b := 0) (σ' := σ) (τ' := sf (sf τ 6 0) 6 2) ?_ ?_ (by simp) (by rw [sf6, cd2 ne_SO]) (INV_66 h 0 2)
      · unfold fX4_firstProcessor fX4_checkAllocated
        rw [e1, bx_r, rd_nI _ hx4 (by decide), sb, if_neg z1, if_neg z2, bx_l]
      · unfold fX5_firstProcessor fX5_ofAllocated
        rw [wf_sf, sb, e2, sb, if_neg i10, isAlloc_eq n _ hx4, sb, hF4, if_pos z4, if_pos rfl]
        rfl
  · refine AgI_t (X := xIO) (b := 0) (σ' := σ) (τ' := sf (sf τ 6 0) 6 1) ?_ ?_ (by simp) (by rw [sf6, cd1]) (INV_66 h 0 1)
    · unfold fX4_firstProcessor
      rw [e1, bx_l]
    · unfold fX5_firstProcessor fX5_ofAllocated
      rw [wf_sf, sb, e2, sb, if_pos rfl]
      rfl
theorem L_finishTime {n : Nat} {j : Nat} {σ2 σ τ : St} (h : INV j σ2 σ τ) (a1 : Int32) : AgI [xIO, xIS] (fX4_finishTime n σ a1) (fX5_finishTime n τ a1) (fun σ' τ' => INV (j + 1) σ2 σ' τ') := by
  obtain ⟨c, r, hX⟩ := INV_o h
  have h0 := hX.2.2
  have hc : c ≤ 24 := h0.1.1
  rcases job_cs n hc h0.1.2.2.1 h0.1.2.2.2.1 a1 with ⟨x, hx, rfl, e1, e2⟩ | ⟨e1, e2⟩
  · have hF : sf τ 6 0 0 (5 + 14 * x + 10) = σ 13 x := (h0.2.1 x (by omega)).1 10 (by decide) id
    have hF4 : sf τ 6 0 0 (5 + 14 * x + 4) = σ 8 x := (h0.2.1 x (by omega)).1 4 (by decide) id
    have hx4 : x < 24 := by omega
    by_cases z : σ 8 x = 2
    · refine AgI_v (v := σ 13 x) (σ' := σ) (τ' := sf τ 6 0) ?_ ?_ (sf6 _ _) (INV_6 h 0)
      · unfold fX4_finishTime fX4_checkFinished
        rw [e1, bx_r, rd_nI _ hx4 (by decide), sb, if_pos z, bx_r, rd_nI _ hx4 (by decide), sb]
      · unfold fX5_finishTime
        rw [wf_sf, sb, e2, sb, if_neg i10, of4 n _ hx4, sb, hF4, if_pos z, of10 n _ hx4, sb, hF]
    · refine AgI_t (X := xIS) (b := 0) (σ' := σ) (τ' := sf (sf τ 6 0) 6 2) ?_ ?_ (by simp) (by rw [sf6, cd2 ne_SO]) (INV_66 h 0 2)
      · unfold fX4_finishTime fX4_checkFinished
        rw [e1, bx_r, rd_nI _ hx4 (by decide), sb, if_neg z, bx_l]
      · unfold fX5_finishTime
        rw [wf_sf, sb, e2, sb, if_neg i10, of4 n _ hx4, sb, hF4, if_neg z]
        rfl
  · refine AgI_t (X := xIO) (b := 0) (σ' := σ) (τ' := sf (sf τ 6 0) 6 1) ?_ ?_ (by simp) (by rw [sf6, cd1]) (INV_66 h 0 1)
    · unfold fX4_finishTime
      rw [e1, bx_l]
    · unfold fX5_finishTime
      rw [wf_sf, sb, e2, sb, if_pos rfl]
      rfl
theorem beg_cs {c r m E : Nat} {D : Nat → Nat → Prop} {σ : St} {a : Nat → Int32} (h : R0 c r D m E σ a) {q : Nat} (hq : q < c) : (σ 12 q = -1 ∧ ¬ 0 ≤ σ 12 q) ∨ (¬ σ 12 q = -1 ∧ 0 ≤ σ 12 q) := by
  have hc : c ≤ 24 := h.1.1
  obtain ⟨-, -, -, -, z, -⟩ := (h.2.1 q (by omega)).2.1 hq
  rcases z with z | z
  · exact Or.inl ⟨z, by rw [z]; decide⟩
  · exact Or.inr ⟨fun e => z (by rw [e]; decide), Int32.not_lt.mp z⟩
theorem L_waitTime {n : Nat} {j : Nat} {σ2 σ τ : St} (h : INV j σ2 σ τ) (a1 : Int32) : AgI [xIO, xIS] (fX4_waitTime n σ a1) (fX5_waitTime n τ a1) (fun σ' τ' => INV (j + 1) σ2 σ' τ') := by
  obtain ⟨c, r, hX⟩ := INV_o h
  have h0 := hX.2.2
  have hc : c ≤ 24 := h0.1.1
  rcases job_cs n hc h0.1.2.2.1 h0.1.2.2.2.1 a1 with ⟨x, hx, rfl, e1, e2⟩ | ⟨e1, e2⟩
  · have hF : sf τ 6 0 0 (5 + 14 * x + 12) = σ 12 x := (h0.2.1 x (by omega)).1 12 (by decide) id
    have hF8 : sf τ 6 0 0 (5 + 14 * x + 8) = σ 10 x := (h0.2.1 x (by omega)).1 8 (by decide) id
    have hx4 : x < 24 := by omega
    rcases beg_cs h0 hx with ⟨z1, z2⟩ | ⟨z1, z2⟩
    · refine AgI_t (X := xIS) (b := 0) (σ' := σ) (τ' := sf (sf τ 6 0) 6 2) ?_ ?_ (by simp) (by rw [sf6, cd2 ne_SO]) (INV_66 h 0 2)
      · unfold fX4_waitTime fX2_wasStarted
        rw [e1, bx_r, rd_nI _ hx4 (by decide), sb, if_pos z1, sb, if_pos rfl]
      · unfold fX5_waitTime
        rw [wf_sf, sb, e2, sb, if_neg i10, of12 n _ hx4, sb, hF, if_neg z2]
        rfl
    · refine AgI_v (v := σ 12 x - σ 10 x) (σ' := σ) (τ' := sf τ 6 0) ?_ ?_ (sf6 _ _) (INV_6 h 0)
      · unfold fX4_waitTime fX2_wasStarted fX2_waited
        rw [e1, bx_r, rd_nI _ hx4 (by decide), sb, if_neg z1, sb, if_neg i10, rd_nI _ hx4 (by decide), sb, sb, sb]
      · unfold fX5_waitTime
        rw [wf_sf, sb, e2, sb, if_neg i10, of12 n _ hx4, sb, hF, if_pos z2, sb, of8 n _ hx4, sb, hF8]
  · refine AgI_t (X := xIO) (b := 0) (σ' := σ) (τ' := sf (sf τ 6 0) 6 1) ?_ ?_ (by simp) (by rw [sf6, cd1]) (INV_66 h 0 1)
    · unfold fX4_waitTime
      rw [e1, bx_l]
    · unfold fX5_waitTime
      rw [wf_sf, sb, e2, sb, if_pos rfl]
      rfl
theorem L_usage {n : Nat} (hn : 700 ≤ n) {j : Nat} {σ2 σ τ : St} (h : INV j σ2 σ τ) (a1 : Int32) : AgI [xIO] (fX4_usage n σ a1) (fX5_usage n τ a1) (fun σ' τ' => INV (j + 1) σ2 σ' τ') := by
  obtain ⟨c, r, hX⟩ := INV_o h
  have h0 := hX.2.2
  rcases user_cs n a1 with ⟨u, hu, rfl, e1, e2⟩ | ⟨e1, e2⟩
  · refine AgI_v (v := us σ c (nI u)) (σ' := σ) (τ' := sf τ 6 0) ?_ ?_ (sf6 _ _) (INV_6 h 0)
    · unfold fX4_usage
      rw [e1, sb, if_neg i10, usage_c (by omega) h0.1.1 h0.1.2.2.1, sb]
    · unfold fX5_usage
      rw [wf_sf, sb, e2, sb, if_neg i10, usage_r (by omega) h0, sb]
  · refine AgI_t (X := xIO) (b := 0) (σ' := σ) (τ' := sf (sf τ 6 0) 6 1) ?_ ?_ (by simp) (by rw [sf6, cd1]) (INV_66 h 0 1)
    · unfold fX4_usage
      rw [e1, sb, if_pos rfl]
    · unfold fX5_usage
      rw [wf_sf, sb, e2, sb, if_pos rfl]
      rfl
theorem L_earliestStart {n : Nat} (hn : 700 ≤ n) {j : Nat} {σ2 σ τ : St} (hj : j < 512) (h : INV j σ2 σ τ) (a1 a2 : Int32) : AgI [xIA] (fX4_earliestStart n σ a1 a2) (fX5_earliestStart n τ a1 a2) (fun σ' τ' => INV (j + 1) σ2 σ' τ') := by
  obtain ⟨c, r, hX⟩ := INV_o h
  have h0 := hX.2.2
  have hb := EE_b hj
  have hs := EE_s j
  rcases order_cs n a1 with ⟨o, ho, rfl, e3, e4⟩ | ⟨e3, e4⟩
  · rcases length_cs n a2 with ⟨l, hl, hl', rfl, e5, e6⟩ | ⟨e5, e6⟩
    · refine AgI_v (v := erN σ o (nI l) 30 (σ 25 0)) (σ' := σ) (τ' := sf τ 6 0) ?_ ?_ (sf6 _ _) (INV_6 h 0)
      · unfold fX4_earliestStart
        rw [e3, sb, if_neg i10, e5, sb, if_neg i10, earliest_eq (by omega) σ ho, sb]
      · unfold fX5_earliestStart
        rw [wf_sf, sb, e4, sb, if_neg i10, e6, sb, if_neg i10, earl_eq (by omega) h0 ho (by
          refine ⟨?_, ?_, by omega, by omega⟩
          · rw [nI_toInt (by omega)]; omega
          · rw [nI_toInt (by omega)]; omega), sb]
    · refine AgI_t (X := xIA) (b := 0) (σ' := σ) (τ' := sf (sf τ 6 0) 6 1) ?_ ?_ (by simp) (by rw [sf6, cd1]) (INV_66 h 0 1)
      · unfold fX4_earliestStart
        rw [e3, sb, if_neg i10, e5, sb, if_pos rfl]
      · unfold fX5_earliestStart
        rw [wf_sf, sb, e4, sb, if_neg i10, e6, sb, if_pos rfl]
        rfl
  · refine AgI_t (X := xIA) (b := 0) (σ' := σ) (τ' := sf (sf τ 6 0) 6 1) ?_ ?_ (by simp) (by rw [sf6, cd1]) (INV_66 h 0 1)
    · unfold fX4_earliestStart
      rw [e3, sb, if_pos rfl]
    · unfold fX5_earliestStart
      rw [wf_sf, sb, e4, sb, if_pos rfl]
      rfl
theorem L_lowestBlock {n : Nat} (hn : 700 ≤ n) {j : Nat} {σ2 σ τ : St} (h : INV j σ2 σ τ) (a1 a2 a3 : Int32) : AgI [xIA, xNS] (fX4_lowestBlock n σ a1 a2 a3) (fX5_lowestBlock n τ a1 a2 a3) (fun σ' τ' => INV (j + 1) σ2 σ' τ') := by
  obtain ⟨c, r, hX⟩ := INV_o h
  have h0 := hX.2.2
  rcases intv_cs n σ a1 a2 a3 with ⟨o, f, l, ho, hf, hl, hl', rfl, rfl, rfl, e1, e2, e3, e4⟩ | ⟨e1, e2⟩
  · have hlow : -2147483648 < (nI f + nI l).toInt := by rw [nI_add, nI_toInt (by omega)]; omega
    cases hw : lw σ o (nI f) (nI l) with
    | none =>
      refine AgI_t (X := xNS) (b := 0) (σ' := σ) (τ' := sf (sf τ 6 0) 6 2) ?_ ?_ (by simp) (by rw [sf6, cd2 ne_NA]) (INV_66 h 0 2)
      · unfold fX4_lowestBlock
        rw [e1, bx_r, lowestFree_eq (by omega) σ ho, sb, hw, if_pos (show resB o none = -1 from rfl)]
      · unfold fX5_lowestBlock
        rw [wf_sf, sb, e2, sb, if_neg i10, e3, sb, if_neg i10, e4, sb, if_neg i10, lowest_eq (by omega) h0 ho hlow, sb, hw, if_neg (show ¬ 0 ≤ resB o none from by show ¬ (0 : Int32) ≤ -1; decide)]
        rfl
    | some i =>
      have hbl := blk_le (lw_lt hw)
      have hpw := Nat.two_pow_pos o
      refine AgI_v (v := nI (i * 2 ^ o)) (σ' := σ) (τ' := sf τ 6 0) ?_ ?_ (sf6 _ _) (INV_6 h 0)
      · unfold fX4_lowestBlock
        rw [e1, bx_r, lowestFree_eq (by omega) σ ho, sb, hw, if_neg (show ¬ resB o (some i) = -1 from fun z => nI_pos (n := i * 2 ^ o) (by omega) (by rw [show nI (i * 2 ^ o) = -1 from z]; decide))]
        rfl
      · unfold fX5_lowestBlock
        rw [wf_sf, sb, e2, sb, if_neg i10, e3, sb, if_neg i10, e4, sb, if_neg i10, lowest_eq (by omega) h0 ho hlow, sb, hw, if_pos (show 0 ≤ resB o (some i) from nI_pos' (n := i * 2 ^ o) (by omega))]
        rfl
  · refine AgI_t (X := xIA) (b := 0) (σ' := σ) (τ' := sf (sf τ 6 0) 6 1) ?_ ?_ (by simp) (by rw [sf6, cd1]) (INV_66 h 0 1)
    · unfold fX4_lowestBlock
      rw [e1, bx_l]
    · unfold fX5_lowestBlock
      rcases e2 with e2 | ⟨e2, e3⟩ | ⟨e2, e3, e4⟩
      · rw [wf_sf, sb, e2, sb, if_pos rfl]; rfl
      · rw [wf_sf, sb, e2, sb, if_neg i10, e3, sb, if_pos rfl]; rfl
      · rw [wf_sf, sb, e2, sb, if_neg i10, e3, sb, if_neg i10, e4, sb, if_pos rfl]; rfl
theorem L_event {n : Nat} {j : Nat} {σ2 σ τ : St} (h : INV j σ2 σ τ) (a1 a2 : Int32) : AgI [xIO] (fX4_event n σ a1 a2) (fX5_event n τ a1 a2) (fun σ' τ' => INV (j + 1) σ2 σ' τ') := by
  obtain ⟨c, r, hX⟩ := INV_o h
  obtain ⟨lc, lo, h1, h2, h3, h5, h6, h7, h8⟩ := hX.2.2.2.2.2.1
  have e : nI lc - 1 < a1 ↔ nI lc ≤ a1 := pred_lt (by rw [nI_toInt (by omega)]; omega)
  have bad : fX4_event n σ a1 a2 = some (.inl (xIO, σ)) → fX5_event n τ a1 a2 = some (0, sf (sf τ 6 0) 6 1) → AgI [xIO] (fX4_event n σ a1 a2) (fX5_event n τ a1 a2) (fun σ' τ' => INV (j + 1) σ2 σ' τ') := fun b1 b2 => AgI_t b1 b2 (by simp) (by rw [sf6, cd1]) (INV_66 h 0 1)
  by_cases q : a1 < 0
  · refine bad ?_ ?_
    · unfold fX4_event
      rw [if_pos q]
    · unfold fX5_event
      rw [wf_sf, sb, g4, sb, h6, in_eq, if_neg (fun z => z.1 q), sb, if_pos rfl]
      rfl
  · by_cases p : nI lc ≤ a1
    · refine bad ?_ ?_
      · unfold fX4_event
        rw [if_neg q, h5, if_pos p]
      · unfold fX5_event
        rw [wf_sf, sb, g4, sb, h6, in_eq, if_neg (fun z => z.2 (e.mpr p)), sb, if_pos rfl]
        rfl
    · have pin : fX5_in n a1 0 (nI lc - 1) = some 1 := by rw [in_eq, if_pos ⟨q, fun z => p (e.mp z)⟩]
      by_cases s : a2 < 0
      · refine bad ?_ ?_
        · unfold fX4_event
          rw [if_neg q, h5, if_neg p, if_pos s]
        · unfold fX5_event
          rw [wf_sf, sb, g4, sb, h6, pin, sb, if_neg i10, in_eq, if_neg (fun z => z.1 s), sb, if_pos rfl]
          rfl
      · by_cases t : a2 ≤ 2
        · obtain ⟨i, hi, rfl⟩ := nI_of q
          have hil : i < lc := by
            rcases Nat.lt_or_ge i lc with w | w
            · exact w
            · exact absurd (nI_le w hi) p
          obtain ⟨w, hw, rfl⟩ := nI_of2 (n := 2) rfl s t
          obtain ⟨f1, f2, f3⟩ := h8 i hil
          have hm : (lo + i) % 60 < 60 := Nat.mod_lt _ (by decide)
          have key : ∀ v, fX1_entry n σ (nI i) (nI w) = some v → sf τ 6 0 0 (365 + 3 * i + w) = v → AgI [xIO] (fX4_event n σ (nI i) (nI w)) (fX5_event n τ (nI i) (nI w)) (fun σ' τ' => INV (j + 1) σ2 σ' τ') := fun v k1 k2 => by
            refine AgI_v (v := v) (σ' := σ) (τ' := sf τ 6 0) ?_ ?_ (sf6 _ _) (INV_6 h 0)
            · unfold fX4_event
              rw [if_neg q, h5, if_neg p, if_neg s, if_pos t, k1, sb]
            · unfold fX5_event
              rw [wf_sf, sb, g4, sb, h6, pin, sb, if_neg i10, in_eq, if_pos ⟨s, Int32.not_lt.mpr t⟩, sb, if_neg i10]
              rw [show (365 : Int32) + (3 : Int32) * nI i + nI w = nI (365 + 3 * i + w) by rw [show (365 : Int32) = nI 365 from rfl, show (3 : Int32) = nI 3 from rfl, nI_mul, nI_add, nI_add], rd_nI _ (by omega) (by decide), sb, k2]
          rcases (by omega : w = 0 ∨ w = 1 ∨ w = 2) with rfl | rfl | rfl
          · refine key (σ 17 ((lo + i) % 60)) ?_ f1.symm
            unfold fX1_entry
            rw [h7, nI_add, orem60 _ (by omega), sb, if_pos (show nI 0 = 0 from rfl), rd_nI _ hm (by decide), sb]
          · refine key (σ 18 ((lo + i) % 60)) ?_ f2.symm
            unfold fX1_entry
            rw [h7, nI_add, orem60 _ (by omega), sb, if_neg (show ¬ nI 1 = 0 by decide), if_pos (show nI 1 = 1 from rfl), rd_nI _ hm (by decide), sb]
          · refine key (σ 19 ((lo + i) % 60)) ?_ f3.symm
            unfold fX1_entry
            rw [h7, nI_add, orem60 _ (by omega), sb, if_neg (show ¬ nI 2 = 0 by decide), if_neg (show ¬ nI 2 = 1 by decide), rd_nI _ hm (by decide), sb]
        · refine bad ?_ ?_
          · unfold fX4_event
            rw [if_neg q, h5, if_neg p, if_neg s, if_neg t]
          · unfold fX5_event
            rw [wf_sf, sb, g4, sb, h6, pin, sb, if_neg i10, in_eq, if_neg (fun z => z.2 (Int32.not_le.mp t)), sb, if_pos rfl]
            rfl
