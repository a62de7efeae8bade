/-! MATHEMATICS 17: setFair, save, restore -/
theorem L_setFair {n : Nat} {j : Nat} {σ2 σ τ : St} (h : INV j σ2 σ τ) (z : Int32) (hz : z = 0 ∨ z = 1) : ∃ v σ' τ', fX4_setFair n σ z = some (v, σ') ∧ fX5_setFair n τ z = some (v, τ') ∧ INV (j + 1) σ2 σ' τ' := by
  obtain ⟨⟨c, r, i1, i2⟩, i3, i4, i5, i6⟩ := h
  have hf : σ 27 0 = τ 0 3 := i2.1.2.2.2.2.2.2.2.2.1
  have hf' : τ 0 3 = 0 ∨ τ 0 3 = 1 := i2.1.2.2.2.2.2.2.2.2.2
  refine ⟨σ 27 0, sf σ 27 z, st (sf τ 6 0) 0 3 z, ?_, ?_, ?_⟩
  · unfold fX4_setFair
    rw [show wz σ 27 z = some (sf σ 27 z) from if_pos hz, sb, show gz (σ 27 0) = some (σ 27 0) from if_pos (by rw [hf]; exact hf'), sb]
  · unfold fX5_setFair
    rw [wf_sf, sb, g3, sb, sf_row _ (by decide), gw3, gw3, sb, sb, hf]
    rcases hz with rfl | rfl
    · rcases hf' with e | e
      · rw [e, if_neg (by decide), if_pos rfl, sb]
      · rw [e, if_pos rfl, if_pos rfl]
    · rcases hf' with e | e
      · rw [e, if_neg (by decide), if_neg (by decide), sb]
      · rw [e, if_pos rfl, if_neg (by decide)]
  · have g : ∀ k, k ≠ 0 → k ≠ 6 → st (sf τ 6 0) 0 3 z k = τ k := fun k a b => by rw [st_row _ a, sf_row _ b]
    have ga : ∀ i, i ≠ 3 → st (sf τ 6 0) 0 3 z 0 i = τ 0 i := fun i a => by rw [st_ne _ a, sf_row _ (by decide)]
    obtain ⟨hG, hJ, hR, hL, hB⟩ := R0_up i2
    obtain ⟨q1, q2, q3, q4, q5, q6, q7, q8, q9, q10⟩ := hG
    refine ⟨⟨c, r, fun i hi => by rw [sf_row _ (by decide), g 2 (by decide) (by decide)]; exact i1 i hi, ⟨q1, q2, by rw [sf_row _ (by decide)]; exact q3, by rw [ga 1 (by decide)]; exact q4, by rw [sf_row _ (by decide)]; exact q5, by rw [ga 2 (by decide)]; exact q6, by rw [sf_row _ (by decide), ga 0 (by decide)]; exact q7, by rw [ga 0 (by decide)]; exact q8, by rw [sf_ap, if_pos rfl, st_eq], by rw [st_eq]; exact hz⟩, fun j hj => JR_congr (fun i hi => by rw [sf_row _ (by omega)]) (by rw [sf_row _ (by decide)]) (fun w hw => ga _ (by omega)) (hJ j hj), fun q hq => RR_congr (fun i hi => by rw [sf_row _ (by omega)]) (fun w hw => ga _ (by omega)) (hR q hq), RL_congr (fun k h1 h2 => sf_row _ (by omega)) (ga 4 (by decide)) (fun i h1 h2 => ga _ (by omega)) hL, RB_congr (fun k hk => by rw [sf_row _ (by decide)]) (fun i h1 h2 => ga _ (by omega)) hB⟩, ?_, ?_, ?_, ?_⟩
    · rw [sf_row _ (by decide), g 4 (by decide) (by decide)]; exact i3
    · rw [g 4 (by decide) (by decide)]; exact i4
    · rw [sf_row _ (by decide), g 5 (by decide) (by decide)]; exact i5
    · rw [g 4 (by decide) (by decide), g 1 (by decide) (by decide)]
      exact fun q => by obtain ⟨c, r, h⟩ := i6 q; exact ⟨c, r, R0_up h⟩
def cp (σ : St) (k : Nat) (f : Nat → Int32) (N : Nat) : St := va_up σ k (va_cpy f (σ k) 0 0 N)
theorem cp_ap (σ : St) (k : Nat) (f : Nat → Int32) (N k' j : Nat) : cp σ k f N k' j = if k' = k then (if j < N then f j else σ k' j) else σ k' j := by
  unfold cp va_up va_cpy
  by_cases h : k' = k
  · subst h; simp
  · simp [h]
theorem ocp30 (σ : St) (k : Nat) (f : Nat → Int32) : ocp σ k 30 f 30 0 0 30 = some (cp σ k f 30) := by
  unfold ocp
  rw [if_pos (by decide)]
  rfl
theorem ocp24 (σ : St) (k : Nat) (f : Nat → Int32) : ocp σ k 24 f 24 0 0 24 = some (cp σ k f 24) := by
  unfold ocp
  rw [if_pos (by decide)]
  rfl
theorem ocp60 (σ : St) (k : Nat) (f : Nat → Int32) : ocp σ k 60 f 60 0 0 60 = some (cp σ k f 60) := by
  unfold ocp
  rw [if_pos (by decide)]
  rfl
theorem ocp64 (σ : St) (k : Nat) (f : Nat → Int32) : ocp σ k 64 f 64 0 0 64 = some (cp σ k f 64) := by
  unfold ocp
  rw [if_pos (by decide)]
  rfl
def cyS (a σ : St) : St := sf (sf (sf (cp (cp (cp (cp (sf (sf (cp (cp (cp (cp (cp (cp (cp (cp (cp (cp (cp (cp (sf (cp (cp (cp (cp σ 0 (a 0) 30) 1 (a 1) 30) 2 (a 2) 30) 3 (a 3) 30) 16 (a 16 0)) 4 (a 4) 24) 5 (a 5) 24) 6 (a 6) 24) 7 (a 7) 24) 8 (a 8) 24) 9 (a 9) 24) 10 (a 10) 24) 11 (a 11) 24) 12 (a 12) 24) 13 (a 13) 24) 14 (a 14) 24) 15 (a 15) 24) 20 (a 20 0)) 21 (a 21 0)) 17 (a 17) 60) 18 (a 18) 60) 19 (a 19) 60) 22 (a 22) 64) 25 (a 25 0)) 26 (a 26 0)) 27 (a 27 0)
theorem copy_eq (n : Nat) (a σ : St) (hz : a 27 0 = 0 ∨ a 27 0 = 1) : fX0_copyFrom n a σ = some (cyS a σ) := by
  unfold fX0_copyFrom fX3_copyFrom fX2_copyFrom fX1_copyFrom
  simp only [ocp30, ocp24, ocp60, ocp64, wf_sf, sb]
  rw [show ∀ s, wz s 27 (a 27 0) = some (sf s 27 (a 27 0)) from fun s => if_pos hz, sb]
  rfl
theorem cy_hi (a σ : St) {k : Nat} (h : k = 23 ∨ k = 24 ∨ 27 < k) : cyS a σ k = σ k := by
  funext j
  unfold cyS
  simp only [cp_ap, sf_ap]
  simp only [show ¬ k = 0 by omega, show ¬ k = 1 by omega, show ¬ k = 2 by omega, show ¬ k = 3 by omega, show ¬ k = 4 by omega, show ¬ k = 5 by omega, show ¬ k = 6 by omega, show ¬ k = 7 by omega, show ¬ k = 8 by omega, show ¬ k = 9 by omega, show ¬ k = 10 by omega, show ¬ k = 11 by omega, show ¬ k = 12 by omega, show ¬ k = 13 by omega, show ¬ k = 14 by omega, show ¬ k = 15 by omega, show ¬ k = 16 by omega, show ¬ k = 17 by omega, show ¬ k = 18 by omega, show ¬ k = 19 by omega, show ¬ k = 20 by omega, show ¬ k = 21 by omega, show ¬ k = 22 by omega, show ¬ k = 25 by omega, show ¬ k = 26 by omega, show ¬ k = 27 by omega, if_false]
theorem cy_a (a σ : St) {k j : Nat} (hk : k < 4) (hj : j < 30) : cyS a σ k j = a k j := by
  unfold cyS
  rcases (by omega : k = 0 ∨ k = 1 ∨ k = 2 ∨ k = 3) with rfl | rfl | rfl | rfl <;> simp [cp_ap, sf_ap, hj]
theorem cy_b (a σ : St) {k j : Nat} (hk : 4 ≤ k) (hk' : k < 16) (hj : j < 24) : cyS a σ k j = a k j := by
  unfold cyS
  rcases (by omega : k = 4 ∨ k = 5 ∨ k = 6 ∨ k = 7 ∨ k = 8 ∨ k = 9 ∨ k = 10 ∨ k = 11 ∨ k = 12 ∨ k = 13 ∨ k = 14 ∨ k = 15) with rfl | rfl | rfl | rfl | rfl | rfl | rfl | rfl | rfl | rfl | rfl | rfl <;> simp [cp_ap, sf_ap, hj]
theorem cy_c (a σ : St) {k j : Nat} (hk : 17 ≤ k) (hk' : k ≤ 19) (hj : j < 60) : cyS a σ k j = a k j := by
  unfold cyS
  rcases (by omega : k = 17 ∨ k = 18 ∨ k = 19) with rfl | rfl | rfl <;> simp [cp_ap, sf_ap, hj]
theorem cy_d (a σ : St) {j : Nat} (hj : j < 64) : cyS a σ 22 j = a 22 j := by
  unfold cyS
  simp [cp_ap, sf_ap, hj]
theorem cy_e (a σ : St) {k : Nat} (hk : k = 16 ∨ k = 20 ∨ k = 21 ∨ k = 25 ∨ k = 26 ∨ k = 27) : cyS a σ k 0 = a k 0 := by
  unfold cyS
  rcases hk with rfl | rfl | rfl | rfl | rfl | rfl <;> simp [cp_ap, sf_ap]
/-- a copy stands in the same relation -/
theorem R0_copy {c r m E : Nat} {σ σ' : St} {a b : Nat → Int32} (h : R0 c r DN m E σ a) (hb : ∀ i, i < 609 → b i = a i) : R0 c r DN m E (cyS σ σ') b := by
  obtain ⟨hG, hJ, hR, ⟨lc, lo, h1, h2, h3, h5, h6, h7, h8⟩, hB⟩ := h
  refine ⟨RG_congr (cy_e _ _ (by omega)) (cy_e _ _ (by omega)) (cy_e _ _ (by omega)) (cy_e _ _ (by omega)) (fun i hi => hb i (by omega)) hG, fun j hj => JR_congr (fun i hi => ?_) (cy_e _ _ (by omega)) (fun w hw => hb _ (by omega)) (hJ j hj), fun q hq => RR_congr (fun i hi => cy_a _ _ hi (by omega)) (fun w hw => hb _ (by omega)) (hR q hq), ⟨lc, lo, h1, h2, h3, ?_, ?_, ?_, fun i hi => ?_⟩, fun k hk => ?_⟩
  · rcases Nat.lt_or_ge i 4 with q | q
    · exact cy_a _ _ q (by omega)
    · exact cy_b _ _ q hi hj
  · rw [cy_e _ _ (by omega)]; exact h5
  · rw [hb 4 (by omega)]; exact h6
  · rw [cy_e _ _ (by omega)]; exact h7
  · have hm : (lo + i) % 60 < 60 := Nat.mod_lt _ (by decide)
    rw [cy_c _ _ (by omega) (by omega) hm, cy_c _ _ (by omega) (by omega) hm, cy_c _ _ (by omega) (by omega) hm, hb _ (by omega), hb _ (by omega), hb _ (by omega)]
    exact h8 i hi
  · rw [cy_d _ _ hk, hb _ (by omega)]
    exact hB k hk
def cpF (p q : Nat) (i : Nat) (s : St) : St := st s q i (s p i)
theorem cpF_it {p q : Nat} (hpq : p ≠ q) (τ : St) : ∀ d k i, itF (cpF p q) 0 d τ k i = if k = q ∧ i < d then τ p i else τ k i := by
  intro d
  induction d with
  | zero =>
    intro k i
    rw [if_neg (by omega)]
    rfl
  | succ d ih =>
    intro k i
    rw [itF_last, Nat.zero_add, cpF, st_ap, ih, ih]
    by_cases z : k = q
    · subst z
      by_cases w : i = d
      · subst w
        rw [if_pos rfl, if_pos rfl, if_neg (fun e => hpq e.1), if_pos ⟨rfl, by omega⟩]
      · rw [if_pos rfl, if_neg w]
        by_cases v : i < d
        · rw [if_pos ⟨rfl, v⟩, if_pos ⟨rfl, by omega⟩]
        · rw [if_neg (fun e => v e.2), if_neg (by omega)]
    · rw [if_neg z, if_neg (fun e => z e.1), if_neg (fun e => z e.1)]
theorem L_save {n : Nat} (hn : 700 ≤ n) {j : Nat} {σ2 σ τ : St} (h : INV j σ2 σ τ) : ∃ σ2' σ' τ', fX4_save n σ2 σ = some (σ2', σ') ∧ fX5_save n τ = some τ' ∧ INV (j + 1) σ2' σ' τ' := by
  obtain ⟨⟨c, r, i1, i2⟩, i3, i4, i5, i6⟩ := h
  have hf : σ 27 0 = τ 0 3 := i2.1.2.2.2.2.2.2.2.2.1
  have hf' : τ 0 3 = 0 ∨ τ 0 3 = 1 := i2.1.2.2.2.2.2.2.2.2.2
  refine ⟨cyS σ σ2, sf σ 28 1, itF (cpF 0 1) 0 609 (sf (sf τ 6 0) 4 1), ?_, ?_, ?_⟩
  · unfold fX4_save
    rw [copy_eq n σ σ2 (by rw [hf]; exact hf'), sb, show wz σ 28 1 = some (sf σ 28 1) from if_pos (Or.inr rfl), sb]
  · unfold fX5_save
    rw [wf_sf, sb, show wz (sf τ 6 0) 4 1 = some (sf (sf τ 6 0) 4 1) from if_pos (Or.inr rfl), sb]
    refine lz2_for (N := 609) (F := cpF 0 1) (k := some) (fun go a => ?_) (fun go i a hi => ?_) 609 0 _ n (by omega) (by omega)
    · unfold fX5_save_b12
      rw [if_pos (by decide)]
    · unfold fX5_save_b12
      rw [if_neg (show ¬ (609 : Int32) ≤ nI i from nI_ge (b := 609) hi (by decide)), rd_nI _ hi (by decide), sb, wr_st _ _ _ hi (by decide), sb, nI_1]
      rfl
  · have g : ∀ k, k ≠ 1 → k ≠ 4 → k ≠ 6 → ∀ i, itF (cpF 0 1) 0 609 (sf (sf τ 6 0) 4 1) k i = τ k i := fun k a b d i => by
      rw [cpF_it (by decide), if_neg (fun e => a e.1), sf_row _ b, sf_row _ d]
    have g1 : ∀ i, i < 609 → itF (cpF 0 1) 0 609 (sf (sf τ 6 0) 4 1) 1 i = τ 0 i := fun i hi => by
      rw [cpF_it (by decide), if_pos ⟨rfl, hi⟩, sf_row _ (by decide), sf_row _ (by decide)]
    have g4 : itF (cpF 0 1) 0 609 (sf (sf τ 6 0) 4 1) 4 0 = 1 := by
      rw [cpF_it (by decide), if_neg (by decide), sf_ap, if_pos rfl]
    have g0 : itF (cpF 0 1) 0 609 (sf (sf τ 6 0) 4 1) 0 = τ 0 := funext (fun i => g 0 (by decide) (by decide) (by decide) i)
    refine ⟨⟨c, r, ?_, ?_⟩, ?_, ?_, ?_, fun _ => ⟨c, r, R0_copy (R0_up i2) g1⟩⟩
    · intro i hi
      rw [sf_row _ (by decide), g 2 (by decide) (by decide) (by decide)]
      exact i1 i hi
    · rw [g0]
      exact R0_cells (fun k hk _ _ => sf_row _ (by omega)) (R0_up i2)
    · rw [g4, sf_ap, if_pos rfl]
    · rw [g4]; exact Or.inr rfl
    · rw [sf_row _ (by decide), g 5 (by decide) (by decide) (by decide)]
      exact i5
theorem L_restore {n : Nat} (hn : 700 ≤ n) {j : Nat} {σ2 σ τ : St} (h : INV j σ2 σ τ) : AgI [xIS] (fX4_restore n σ2 σ) (fX5_restore n τ) (fun σ' τ' => INV (j + 1) σ2 σ' τ') := by
  have h' := h
  obtain ⟨⟨c, r, i1, i2⟩, i3, i4, i5, i6⟩ := h
  by_cases z : τ 4 0 = 0
  · refine AgI_t (X := xIS) (b := 0) (σ' := σ) (τ' := sf (sf τ 6 0) 6 1) ?_ ?_ (by simp) (by rw [sf6, cd1]) (INV_66 h' 0 1)
    · unfold fX4_restore
      rw [i3, if_pos z]
    · unfold fX5_restore
      rw [wf_sf, sb, sf_row _ (by decide), if_pos z]
      rfl
  · have z1 := i4.resolve_left z
    obtain ⟨c', r', s2⟩ := i6 z1
    have hf : σ2 27 0 = τ 1 3 := s2.1.2.2.2.2.2.2.2.2.1
    have hf' : τ 1 3 = 0 ∨ τ 1 3 = 1 := s2.1.2.2.2.2.2.2.2.2.2
    have g : ∀ k, k ≠ 0 → k ≠ 6 → ∀ i, itF (cpF 1 0) 0 609 (sf τ 6 0) k i = τ k i := fun k a b i => by
      rw [cpF_it (by decide), if_neg (fun e => a e.1), sf_row _ b]
    have g1 : ∀ i, i < 609 → itF (cpF 1 0) 0 609 (sf τ 6 0) 0 i = τ 1 i := fun i hi => by
      rw [cpF_it (by decide), if_pos ⟨rfl, hi⟩, sf_row _ (by decide)]
    have gr1 : itF (cpF 1 0) 0 609 (sf τ 6 0) 1 = τ 1 := funext (fun i => g 1 (by decide) (by decide) i)
    refine AgI_v (v := σ2 25 0) (σ' := mrg σ (cyS σ2 σ)) (τ' := itF (cpF 1 0) 0 609 (sf τ 6 0)) ?_ ?_ ?_ ?_
    · unfold fX4_restore
      rw [i3, if_neg z, copy_eq n σ2 σ (by rw [hf]; exact hf'), sb, sb, mrg_lo _ _ (by decide), cy_e _ _ (by omega)]
    · unfold fX5_restore
      rw [wf_sf, sb, sf_row _ (by decide), if_neg z]
      refine (lz2_for (b := fX5_restore_b20) (N := 609) (F := cpF 1 0) (k := fun s => some (s 0 0, s)) (fun go a => ?_) (fun go i a hi => ?_) 609 0 _ n (by omega) (by omega)).trans ?_
      · unfold fX5_restore_b20
        rw [if_pos (by decide), g0, sb]
      · unfold fX5_restore_b20
        rw [if_neg (show ¬ (609 : Int32) ≤ nI i from nI_ge (b := 609) hi (by decide)), rd_nI _ hi (by decide), sb, wr_st _ _ _ hi (by decide), sb, nI_1]
        rfl
      · show some (itF (cpF 1 0) 0 609 (sf τ 6 0) 0 0, itF (cpF 1 0) 0 609 (sf τ 6 0)) = _
        rw [g1 0 (by decide), s2.1.2.2.2.2.2.2.1]
    · rw [cpF_it (by decide), if_neg (by decide), sf6]
    · refine ⟨⟨c', r', ?_, R0_cells (fun k hk _ _ => mrg_lo _ _ hk) (R0_copy (R0_up s2) g1)⟩, ?_, ?_, ?_, ?_⟩
      · intro i hi
        rw [mrg_lo _ _ (by decide), cy_hi _ _ (by omega), g 2 (by decide) (by decide)]
        exact i1 i hi
      · rw [mrg_hi _ _ (by decide), g 4 (by decide) (by decide)]; exact i3
      · rw [g 4 (by decide) (by decide)]; exact i4
      · rw [mrg_hi _ _ (by decide), g 5 (by decide) (by decide)]; exact i5
      · rw [g 4 (by decide) (by decide), gr1]
        exact fun q => by obtain ⟨c, r, h⟩ := i6 q; exact ⟨c, r, R0_up h⟩
