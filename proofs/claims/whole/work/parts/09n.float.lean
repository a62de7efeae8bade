/-! MATHEMATICS 21: questions that answer doubles and floats -/
theorem dn_fin {a : UInt64} (h : Jvm.FP.Core.DFin a) : Jvm.FP.Core.dIsNaN a = false := (Jvm.FP.Core.notNaN_iff a).mpr (fun e => by
  obtain ⟨s, c, q, z⟩ := h
  rw [z] at e
  cases e)
theorem fn_fin {a : UInt32} (h : Jvm.FP.Core.FFin a) : Jvm.FP.Core.fIsNaN a = false := (Jvm.FP.Core.notNaN_iff32 a).mpr (fun e => by
  obtain ⟨s, c, q, z⟩ := h
  rw [z] at e
  cases e)
theorem n64_of {x : UInt64} (h : Jvm.FP.Core.dIsNaN x = false) : x &&& 0x7fffffffffffffff ≤ 0x7ff0000000000000 := by
  have h1 : ¬ 9218868437227405312 < x.toNat % 2 ^ 63 := fun q => by
    rw [(Jvm.FP.Core.isNaN_bits x).mpr q] at h
    cases h
  rw [UInt64.le_iff_toNat_le, UInt64.toNat_and, show (0x7fffffffffffffff : UInt64).toNat = 2 ^ 63 - 1 from rfl, Nat.and_two_pow_sub_one_eq_mod, show (0x7ff0000000000000 : UInt64).toNat = 9218868437227405312 from rfl]
  omega
theorem n32_of {x : UInt32} (h : Jvm.FP.Core.fIsNaN x = false) : x &&& 0x7fffffff ≤ 0x7f800000 := by
  have h1 : ¬ 2139095040 < x.toNat % 2 ^ 31 := fun q => by
    rw [(Jvm.FP.Core.isNaN_bits32 x).mpr q] at h
    cases h
  rw [UInt32.le_iff_toNat_le, UInt32.toNat_and, show (0x7fffffff : UInt32).toNat = 2 ^ 31 - 1 from rfl, Nat.and_two_pow_sub_one_eq_mod, show (0x7f800000 : UInt32).toNat = 2139095040 from rfl]
  omega
theorem od_of {x : UInt64} (h : Jvm.FP.Core.dIsNaN x = false) : od x = some x := if_pos (n64_of h)
theorem og_of {x : UInt32} (h : Jvm.FP.Core.fIsNaN x = false) : og x = some x := if_pos (n32_of h)
theorem cmp_of {v : UInt64} (h : Jvm.FP.Core.dIsNaN v = false) : Op.cmpValue (FP.dcmp v v) CmpOp.l = 0 := by
  rw [show FP.dcmp v v = some .eq from Jvm.FP.Core.dcmp_self ((Jvm.FP.Core.notNaN_iff v).mp h)]
  rfl
theorem dv_ok (a : Int32) {b : Int32} (hb : b ≠ 0) : Jvm.FP.Core.dIsNaN (FP.ddiv (FP.i2d a) (FP.i2d b)) = false :=
  Jvm.FP.Core.ddiv_out (dn_fin (Jvm.FP.Core.i2d_fin a)) (Jvm.FP.Core.i2d_fin b) (fun z => Jvm.FP.Core.i2d_ne_zero hb ((Jvm.FP.Core.zero_bits2 _).mp z))
theorem fv_ok (a : Int32) {b : Int32} (hb : b ≠ 0) : Jvm.FP.Core.fIsNaN (FP.fdiv (FP.i2f a) (FP.i2f b)) = false :=
  Jvm.FP.Core.fdiv_out (fn_fin (Jvm.FP.Core.i2f_fin a)) (Jvm.FP.Core.i2f_fin b) (fun z => Jvm.FP.Core.i2f_ne_zero hb ((Jvm.FP.Core.zero_bits232 _).mp z))
theorem sub_ok {v : UInt64} (h : Jvm.FP.Core.dIsNaN v = false) : Jvm.FP.Core.dIsNaN (FP.dsub FP.dconst1 v) = false :=
  Jvm.FP.Core.dsub_out' ((Jvm.FP.Core.fin_bits _).mpr (by decide)) h
theorem f2d_ok {v : UInt32} (h : Jvm.FP.Core.fIsNaN v = false) : Jvm.FP.Core.dIsNaN (FP.f2d v) = false := by
  unfold FP.f2d
  rw [h, if_neg (by decide)]
  exact Jvm.FP.Core.f2d_out h
theorem AgD_v {hs : List String} {fx : Option (XRg UInt64)} {fm : Option (UInt64 × St)} {P : St → St → Prop} {v : UInt64} {σ' τ' : St} (h1 : fx = some (.inr (v, σ'))) (h2 : fm = some (v, τ')) (h6 : τ' 6 0 = 0) (hv : Jvm.FP.Core.dIsNaN v = false) (hP : P σ' τ') : AgD hs fx fm P :=
  ⟨_, _, _, h1, h2, fun E u e => (by cases e), h6, fun w u e => (by cases e; exact ⟨rfl, cmp_of hv⟩), hP⟩
theorem AgD_t {hs : List String} {fx : Option (XRg UInt64)} {fm : Option (UInt64 × St)} {P : St → St → Prop} {X : String} {b : UInt64} {σ' τ' : St} (h1 : fx = some (.inl (X, σ'))) (h2 : fm = some (b, τ')) (hX : X ∈ hs) (h6 : τ' 6 0 = cdL hs 1 X) (hP : P σ' τ') : AgD hs fx fm P :=
  ⟨_, _, _, h1, h2, fun E u e => (by cases e; exact hX), h6, fun v u e => (by cases e), hP⟩
theorem AgF_v {hs : List String} {fx : Option (XRg UInt32)} {fm : Option (UInt32 × St)} {P : St → St → Prop} {v : UInt32} {σ' τ' : St} (h1 : fx = some (.inr (v, σ'))) (h2 : fm = some (v, τ')) (h6 : τ' 6 0 = 0) (hv : Jvm.FP.Core.fIsNaN v = false) (hP : P σ' τ') : AgF hs fx fm P :=
  ⟨_, _, _, h1, h2, fun E u e => (by cases e), h6, fun w u e => (by cases e; exact ⟨rfl, n64_of (f2d_ok hv), cmp_of (f2d_ok hv)⟩), hP⟩
theorem AgF_t {hs : List String} {fx : Option (XRg UInt32)} {fm : Option (UInt32 × St)} {P : St → St → Prop} {X : String} {b : UInt32} {σ' τ' : St} (h1 : fx = some (.inl (X, σ'))) (h2 : fm = some (b, τ')) (hX : X ∈ hs) (h6 : τ' 6 0 = cdL hs 1 X) (hP : P σ' τ') : AgF hs fx fm P :=
  ⟨_, _, _, h1, h2, fun E u e => (by cases e; exact hX), h6, fun v u e => (by cases e), hP⟩
theorem L_averageWait {n : Nat} (hn : 700 ≤ n) {j : Nat} {σ2 σ τ : St} (h : INV j σ2 σ τ) : AgD [xAE] (fX4_averageWait n σ) (fX5_averageWait n τ) (fun σ' τ' => INV (j + 1) σ2 σ' τ') := by
  obtain ⟨c, r, hX⟩ := INV_o h
  have h0 := hX.2.2
  have hc : c ≤ 24 := h0.1.1
  unfold fX4_averageWait fX5_averageWait
  rw [wf_sf, sb]
  refine lkP3 (b := fX4_averageWait_b6 n σ) (b' := fX5_averageWait_b11 n (sf τ 6 0)) (N := c) (I := fun i u x v y => u = v ∧ x = y) (P := fun A B => AgD [xAE] A B (fun σ' τ' => INV (j + 1) σ2 σ' τ')) (fun go go' u x v y hI => ?_) (fun i u x v y hi hI => ?_) c 0 0 0 0 0 n n (by omega) (by omega) (by omega) ⟨rfl, rfl⟩
  · obtain ⟨rfl, rfl⟩ := hI
    by_cases q : u = 0
    · refine AgD_t (X := xAE) (b := FP.i2d 0) (σ' := σ) (τ' := sf (sf τ 6 0) 6 1) ?_ ?_ (by simp) (by rw [sf6, cd1]) (INV_66 h 0 1)
      · unfold fX4_averageWait_b6
        rw [h0.1.2.2.1, if_pos (nI_le (Nat.le_refl _) (by omega)), if_pos q]
      · unfold fX5_averageWait_b11
        rw [g1, sb, h0.1.2.2.2.1, if_pos (nI_le (Nat.le_refl _) (by omega)), if_pos q]
        rfl
    · refine AgD_v (v := FP.ddiv (FP.i2d x) (FP.i2d u)) (σ' := σ) (τ' := sf τ 6 0) ?_ ?_ (sf6 _ _) (dv_ok x q) (INV_6 h 0)
      · unfold fX4_averageWait_b6
        rw [h0.1.2.2.1, if_pos (nI_le (Nat.le_refl _) (by omega)), if_neg q, od_of (dv_ok x q), sb]
      · unfold fX5_averageWait_b11
        rw [g1, sb, h0.1.2.2.2.1, if_pos (nI_le (Nat.le_refl _) (by omega)), if_neg q, od_of (dv_ok x q), sb]
  · obtain ⟨rfl, rfl⟩ := hI
    have hi4 : i < 24 := by omega
    have hF : sf τ 6 0 0 (5 + 14 * i + 12) = σ 12 i := (h0.2.1 i hi4).1 12 (by decide) id
    have hF8 : sf τ 6 0 0 (5 + 14 * i + 8) = σ 10 i := (h0.2.1 i hi4).1 8 (by decide) id
    rcases beg_cs h0 hi with ⟨z1, z2⟩ | ⟨z1, z2⟩
    · refine ⟨u, x, u, x, fun go => ?_, fun go' => ?_, rfl, rfl⟩
      · unfold fX4_averageWait_b6 fX2_wasStarted
        rw [h0.1.2.2.1, if_neg (nI_ge hi (by omega)), rd_nI _ hi4 (by decide), sb, if_pos z1, sb, if_pos rfl, nI_1]
      · unfold fX5_averageWait_b11
        rw [g1, sb, h0.1.2.2.2.1, if_neg (nI_ge hi (by omega)), of12 n _ hi4, sb, hF, if_neg z2, nI_1]
    · refine ⟨u + 1, x + (σ 12 i - σ 10 i), u + 1, x + (σ 12 i - σ 10 i), fun go => ?_, fun go' => ?_, rfl, rfl⟩
      · unfold fX4_averageWait_b6 fX2_wasStarted fX2_waited
        rw [h0.1.2.2.1, if_neg (nI_ge hi (by omega)), rd_nI _ hi4 (by decide), sb, if_neg z1, sb, if_neg i10, rd_nI _ hi4 (by decide), sb, sb, sb, nI_1]
      · unfold fX5_averageWait_b11
        rw [g1, sb, h0.1.2.2.2.1, if_neg (nI_ge hi (by omega)), of12 n _ hi4, sb, hF, if_pos z2, sb, of8 n _ hi4, sb, hF8, nI_1]
theorem L_slowdown {n : Nat} {j : Nat} {σ2 σ τ : St} (h : INV j σ2 σ τ) (a1 : Int32) : AgF [xIO, xIS] (fX4_slowdown n σ a1) (fX5_slowdown n τ a1) (fun σ' τ' => INV (j + 1) σ2 σ' τ') := by
  obtain ⟨c, r, hX⟩ := INV_o h
  have h0 := hX.2.2
  have hc : c ≤ 24 := h0.1.1
  rcases job_cs n hc h0.1.2.2.1 h0.1.2.2.2.1 a1 with ⟨x, hx, rfl, e1, e2⟩ | ⟨e1, e2⟩
  · have hx4 : x < 24 := by omega
    have hF : sf τ 6 0 0 (5 + 14 * x + 10) = σ 13 x := (h0.2.1 x hx4).1 10 (by decide) id
    have hF8 : sf τ 6 0 0 (5 + 14 * x + 8) = σ 10 x := (h0.2.1 x hx4).1 8 (by decide) id
    have hF9 : sf τ 6 0 0 (5 + 14 * x + 9) = σ 9 x := (h0.2.1 x hx4).1 9 (by decide) id
    have hF4 : sf τ 6 0 0 (5 + 14 * x + 4) = σ 8 x := (h0.2.1 x hx4).1 4 (by decide) id
    have h9 : σ 9 x ≠ 0 := fun e => ((h0.2.1 x hx4).2.1 hx).2.2.2.2.2.1 (by rw [e]; decide)
    by_cases z : σ 8 x = 2
    · refine AgF_v (v := FP.fdiv (FP.i2f (σ 13 x - σ 10 x)) (FP.i2f (σ 9 x))) (σ' := σ) (τ' := sf τ 6 0) ?_ ?_ (sf6 _ _) (fv_ok _ h9) (INV_6 h 0)
      · unfold fX4_slowdown fX4_checkFinished
        rw [e1, bx_r, rd_nI _ hx4 (by decide), sb, if_pos z, bx_r, rd_nI _ hx4 (by decide), sb, rd_nI _ hx4 (by decide), sb, rd_nI _ hx4 (by decide), sb, og_of (fv_ok _ h9), sb]
      · unfold fX5_slowdown
        rw [wf_sf, sb, e2, sb, if_neg i10, of4 n _ hx4, sb, hF4, if_pos z, of10 n _ hx4, sb, of8 n _ hx4, sb, of9 n _ hx4, sb, hF, hF8, hF9, og_of (fv_ok _ h9), sb]
    · refine AgF_t (X := xIS) (b := FP.i2f 0) (σ' := σ) (τ' := sf (sf τ 6 0) 6 2) ?_ ?_ (by simp) (by rw [sf6, cd2 ne_SO]) (INV_66 h 0 2)
      · unfold fX4_slowdown fX4_checkFinished
        rw [e1, bx_r, rd_nI _ hx4 (by decide), sb, if_neg z, bx_l]
      · unfold fX5_slowdown
        rw [wf_sf, sb, e2, sb, if_neg i10, of4 n _ hx4, sb, hF4, if_neg z]
        rfl
  · refine AgF_t (X := xIO) (b := FP.i2f 0) (σ' := σ) (τ' := sf (sf τ 6 0) 6 1) ?_ ?_ (by simp) (by rw [sf6, cd1]) (INV_66 h 0 1)
    · unfold fX4_slowdown
      rw [e1, bx_l]
    · unfold fX5_slowdown
      rw [wf_sf, sb, e2, sb, if_pos rfl]
      rfl
theorem L_utilization {n : Nat} (hn : 700 ≤ n) {j : Nat} {σ2 σ τ : St} (h : INV j σ2 σ τ) : AgD [xAE] (fX4_utilization n σ) (fX5_utilization n τ) (fun σ' τ' => INV (j + 1) σ2 σ' τ') := by
  obtain ⟨c, r, hX⟩ := INV_o h
  have h0 := hX.2.2
  have hcl : sf τ 6 0 0 0 = σ 25 0 := h0.1.2.2.2.2.2.2.1.symm
  unfold fX4_utilization fX5_utilization
  rw [wf_sf, sb, g0, sb, hcl]
  by_cases q : σ 25 0 = 0
  · rw [if_pos q, if_pos q]
    exact AgD_t (X := xAE) (b := FP.i2d 0) (σ' := σ) (τ' := sf (sf τ 6 0) 6 1) rfl rfl (by simp) (by rw [sf6, cd1]) (INV_66 h 0 1)
  · rw [if_neg q, if_neg q]
    have h32 : (32 : Int32) * σ 25 0 ≠ 0 := by
      obtain ⟨t, ht, et⟩ := h0.1.2.2.2.2.2.2.2.1
      rw [hcl] at et
      rw [et] at q ⊢
      rw [show (32 : Int32) = nI 32 from rfl, nI_mul]
      have : t ≠ 0 := fun e => q (by rw [e]; rfl)
      exact nI_ne0 (by omega) (by omega)
    refine lkP2 (b := fX4_utilization_b24 n σ) (b' := fX5_utilization_b25 n (sf τ 6 0)) (N := 4) (I := fun i x y => x = y) (P := fun A B => AgD [xAE] A B (fun σ' τ' => INV (j + 1) σ2 σ' τ')) (fun go go' x y hI => ?_) (fun i x y hi hI => ?_) 4 0 0 0 n n rfl (by omega) (by omega) rfl
    · subst hI
      refine AgD_v (v := FP.ddiv (FP.i2d x) (FP.i2d ((32 : Int32) * σ 25 0))) (σ' := σ) (τ' := sf τ 6 0) ?_ ?_ (sf6 _ _) (dv_ok x h32) (INV_6 h 0)
      · unfold fX4_utilization_b24
        rw [if_pos (by decide), od_of (dv_ok x h32), sb]
      · unfold fX5_utilization_b25
        rw [if_pos (by decide), g0, sb, hcl, od_of (dv_ok x h32), sb]
    · subst hI
      refine ⟨x + us σ c (nI i), x + us σ c (nI i), fun go => ?_, fun go' => ?_, rfl⟩
      · unfold fX4_utilization_b24
        rw [if_neg (show ¬ (4 : Int32) ≤ nI i from nI_ge (b := 4) hi (by decide)), usage_c (by omega) h0.1.1 h0.1.2.2.1, sb, nI_1]
      · unfold fX5_utilization_b25
        rw [if_neg (show ¬ (4 : Int32) ≤ nI i from nI_ge (b := 4) hi (by decide)), usage_r (by omega) h0, sb, nI_1]
theorem cnt_pos {P : Nat → Bool} {k : Nat} (hP : P k = true) : ∀ d, k < d → 1 ≤ cnt P d
  | 0, h => absurd h (Nat.not_lt_zero k)
  | d + 1, h => by
    show 1 ≤ cnt P d + (if P d = true then 1 else 0)
    by_cases q : k = d
    · rw [← q, if_pos hP]; omega
    · have := cnt_pos hP d (by omega)
      omega
theorem L_fragmentation {n : Nat} (hn : 700 ≤ n) {j : Nat} {σ2 σ τ : St} (hj : j < 512) (h : INV j σ2 σ τ) : AgD [xNS] (fX4_fragmentation n σ) (fX5_fragmentation n τ) (fun σ' τ' => INV (j + 1) σ2 σ' τ') := by
  have hb := EE_b hj
  have hs := EE_s j
  obtain ⟨c, r, hX⟩ := INV_o h
  have h0 := hX.2.2
  have hcl : sf τ 6 0 0 0 = σ 25 0 := h0.1.2.2.2.2.2.2.1.symm
  obtain ⟨k, k1, k2⟩ := bc_nf n (tk σ (σ 25 0) (σ 25 0))
  have hr := largestR_eq (n := n) (by omega) h0 (by omega) (by omega)
  have hf := frees_eq (n := n) (by omega) h0 (by omega) (by omega) (clk_nn h0.1)
  have hl := largestC_eq (n := n) (by omega) (tk σ (σ 25 0) (σ 25 0))
  rcases lg_cs (tk σ (σ 25 0) (σ 25 0)) with ⟨z1, z2⟩ | ⟨o, i, ho, hi, -, z1, z2, z3⟩
  · refine AgD_t (X := xNS) (b := FP.i2d 0) (σ' := σ) (τ' := sf (sf τ 6 0) 6 1) ?_ ?_ (by simp) (by rw [sf6, cd1]) (INV_66 h 0 1)
    · unfold fX4_fragmentation fX4_takenNow
      rw [takenIn_eq (by omega), sb, sb, hl, sb, k1, sb, if_pos z1]
    · unfold fX5_fragmentation
      rw [wf_sf, sb, hr, sb, if_neg z2]
      rfl
  · have hp : 1 ≤ nf (tk σ (σ 25 0) (σ 25 0)) := cnt_pos (k := i * 2 ^ o + 0) (decide_eq_true ((blk_and ho hi).mp z3 0 (Nat.two_pow_pos o))) 32 (by have := blk_le hi; have := Nat.two_pow_pos o; omega)
    have hle := nf_le (tk σ (σ 25 0) (σ 25 0))
    have hne : nI (nf (tk σ (σ 25 0) (σ 25 0))) ≠ 0 := nI_ne0 (by omega) (by omega)
    have d1 := dv_ok ((1 : Int32) <<< (lgV (lgO (tk σ (σ 25 0) (σ 25 0))) &&& 31)) hne
    refine AgD_v (v := FP.dsub FP.dconst1 (FP.ddiv (FP.i2d ((1 : Int32) <<< (lgV (lgO (tk σ (σ 25 0) (σ 25 0))) &&& 31))) (FP.i2d (nI (nf (tk σ (σ 25 0) (σ 25 0))))))) (σ' := σ) (τ' := sf τ 6 0) ?_ ?_ (sf6 _ _) (sub_ok d1) (INV_6 h 0)
    · unfold fX4_fragmentation fX4_takenNow
      rw [takenIn_eq (by omega), sb, sb, hl, sb, k1, sb, if_neg z1, k2, if_neg hne, od_of d1, sb, od_of (sub_ok d1), sb]
    · unfold fX5_fragmentation
      rw [wf_sf, sb, hr, sb, if_pos z2, g0, sb, hcl, hf, sb, od_of d1, sb, od_of (sub_ok d1), sb]
