/-! MATHEMATICS 15: reservations -/
theorem from_cs (n : Nat) (x : Int32) : (∃ f, f ≤ 1000 ∧ x = nI f ∧ ¬ x < 0 ∧ ¬ 1000 < x ∧ fX5_in n x 0 1000 = some 1) ∨ ((x < 0 ∨ 1000 < x) ∧ fX5_in n x 0 1000 = some 0) := by
  unfold fX5_in
  by_cases q : x < 0
  · rw [if_pos q]; exact Or.inr ⟨Or.inl q, rfl⟩
  · rw [if_neg q]
    by_cases p : 1000 < x
    · rw [if_pos p]; exact Or.inr ⟨Or.inr p, rfl⟩
    · rw [if_neg p]
      obtain ⟨u, hu, eu⟩ := nI_of2 (n := 1000) (M := 1000) rfl q (Int32.not_lt.mp p)
      exact Or.inl ⟨u, hu, eu, q, p, rfl⟩
theorem intv_cs (n : Nat) (σ : St) (x1 x2 x3 : Int32) : (∃ o f l, o < 6 ∧ f ≤ 1000 ∧ 1 ≤ l ∧ l ≤ 40 ∧ x1 = nI o ∧ x2 = nI f ∧ x3 = nI l ∧ fX4_checkInterval n σ x1 x2 x3 = some (.inr (0, σ)) ∧ fX5_in n x1 0 5 = some 1 ∧ fX5_in n x2 0 1000 = some 1 ∧ fX5_in n x3 1 40 = some 1) ∨ (fX4_checkInterval n σ x1 x2 x3 = some (.inl (xIA, σ)) ∧ (fX5_in n x1 0 5 = some 0 ∨ (fX5_in n x1 0 5 = some 1 ∧ fX5_in n x2 0 1000 = some 0) ∨ (fX5_in n x1 0 5 = some 1 ∧ fX5_in n x2 0 1000 = some 1 ∧ fX5_in n x3 1 40 = some 0))) := by
  unfold fX4_checkInterval
  rcases order_cs n x1 with ⟨o, ho, e1, e3, e4⟩ | ⟨e3, e4⟩
  · rcases from_cs n x2 with ⟨f, hf, e5, e6, e7, e8⟩ | ⟨e5, e8⟩
    · rcases length_cs n x3 with ⟨l, hl, hl', e9, e10, e11⟩ | ⟨e10, e11⟩
      · refine Or.inl ⟨o, f, l, ho, hf, hl, hl', e1, e5, e9, ?_, e4, e8, e11⟩
        rw [e3, sb, if_neg i10, if_neg e6, if_neg e7, e10, sb, if_neg i10]
      · refine Or.inr ⟨?_, Or.inr (Or.inr ⟨e4, e8, e11⟩)⟩
        rw [e3, sb, if_neg i10, if_neg e6, if_neg e7, e10, sb, if_pos rfl]
    · refine Or.inr ⟨?_, Or.inr (Or.inl ⟨e4, e8⟩)⟩
      rw [e3, sb, if_neg i10]
      by_cases q : x2 < 0
      · rw [if_pos q]
      · rw [if_neg q, if_pos (e5.resolve_left q)]
  · refine Or.inr ⟨?_, Or.inl e4⟩
    rw [e3, sb, if_pos rfl]
theorem RR_c {r E : Nat} {σ : St} {a : Nat → Int32} {q : Nat} (hq : q ≠ r) (h : RR r E σ a q) : RR (r + 1) E σ a q :=
  ⟨h.1, fun p s => h.2.1 (by omega) s, fun p => h.2.2 (fun s => p ⟨by omega, s.2⟩)⟩
def rvS (σ : St) (r o i f l : Nat) : St := sf (st (st (st (st σ 0 (24 + r) (mk o (i * 2 ^ o))) 1 (24 + r) (nI (i * 2 ^ o))) 2 (24 + r) (nI f)) 3 (24 + r) (nI f + nI l)) 26 (nI (r + 1))
def rvR (τ : St) (r o i f l : Nat) : St := st (st (st (st (st τ 0 (341 + 4 * r + 0) (nI o)) 0 (341 + 4 * r + 1) (nI (i * 2 ^ o))) 0 (341 + 4 * r + 2) (nI f)) 0 (341 + 4 * r + 3) (nI l)) 0 2 (nI (r + 1))
theorem rvS_hi (σ : St) (r o i f l : Nat) {k : Nat} (h : 4 ≤ k) (h' : k ≠ 26) : rvS σ r o i f l k = σ k := by
  unfold rvS
  rw [sf_row _ h', st_row _ (by omega), st_row _ (by omega), st_row _ (by omega), st_row _ (by omega)]
theorem rvS_ne (σ : St) (r o i f l : Nat) {k j : Nat} (h : j ≠ 24 + r) (h' : k ≠ 26) : rvS σ r o i f l k j = σ k j := by
  unfold rvS
  rw [sf_row _ h', st_ne _ h, st_ne _ h, st_ne _ h, st_ne _ h]
theorem rvR_ne (τ : St) {r : Nat} (o i f l : Nat) {x : Nat} (h : x < 341 + 4 * r ∨ 341 + 4 * r + 4 ≤ x) (h' : x ≠ 2) : rvR τ r o i f l 0 x = τ 0 x := by
  unfold rvR
  rw [st_ne _ h', st_ne _ (by omega), st_ne _ (by omega), st_ne _ (by omega), st_ne _ (by omega)]
theorem resv_lk {c r m E : Nat} {σ τ : St} (h : R0 c r DN m E σ (τ 0)) (hr : r < 6) {o i f l : Nat} (ho : o < 6) (hi : i < 32 / 2 ^ o) (hf : f ≤ 1000) (hl : 1 ≤ l) (hl' : l ≤ 40) (hE : 1040 ≤ E) : R0 c (r + 1) DN m E (rvS σ r o i f l) (rvR τ r o i f l 0) := by
  obtain ⟨hG, hJ, hR, hL, hB⟩ := h
  obtain ⟨q1, q2, q3, q4, q5, q6, q7, q8, q9, q10⟩ := hG
  refine ⟨⟨q1, by omega, ?_, ?_, ?_, ?_, ?_, ?_, ?_, ?_⟩, fun j hj => JR_congr (fun k hk => rvS_ne _ _ _ _ _ _ (by omega) (by omega)) (by rw [rvS_hi _ _ _ _ _ _ (by decide) (by decide)]) (fun w hw => rvR_ne _ _ _ _ _ (by omega) (by omega)) (hJ j hj), fun q hq => ?_, RL_congr (fun k h1 h2 => rvS_hi _ _ _ _ _ _ (by omega) (by omega)) (rvR_ne _ _ _ _ _ (by omega) (by omega)) (fun x h1 h2 => rvR_ne _ _ _ _ _ (by omega) (by omega)) hL, RB_congr (fun k hk => by rw [rvS_hi _ _ _ _ _ _ (by omega) (by omega)]) (fun x h1 h2 => rvR_ne _ _ _ _ _ (by omega) (by omega)) hB⟩
  · rw [rvS_hi _ _ _ _ _ _ (by decide) (by decide)]; exact q3
  · rw [rvR_ne _ _ _ _ _ (by omega) (by omega)]; exact q4
  · unfold rvS; rw [sf_ap, if_pos rfl]
  · unfold rvR; rw [st_eq]
  · rw [rvS_hi _ _ _ _ _ _ (by decide) (by decide), rvR_ne _ _ _ _ _ (by omega) (by omega)]; exact q7
  · rw [rvR_ne _ _ _ _ _ (by omega) (by omega)]; exact q8
  · rw [rvS_hi _ _ _ _ _ _ (by decide) (by decide), rvR_ne _ _ _ _ _ (by omega) (by omega)]; exact q9
  · rw [rvR_ne _ _ _ _ _ (by omega) (by omega)]; exact q10
  · by_cases z : q = r
    · subst z
      have e0 : rvR τ q o i f l 0 (341 + 4 * q + 0) = nI o := by unfold rvR; rw [st_ne _ (by omega), st_ne _ (by omega), st_ne _ (by omega), st_ne _ (by omega), st_eq]
      have e1 : rvR τ q o i f l 0 (341 + 4 * q + 1) = nI (i * 2 ^ o) := by unfold rvR; rw [st_ne _ (by omega), st_ne _ (by omega), st_ne _ (by omega), st_eq]
      have e2 : rvR τ q o i f l 0 (341 + 4 * q + 2) = nI f := by unfold rvR; rw [st_ne _ (by omega), st_ne _ (by omega), st_eq]
      have e3 : rvR τ q o i f l 0 (341 + 4 * q + 3) = nI l := by unfold rvR; rw [st_ne _ (by omega), st_eq]
      refine ⟨⟨l, hl', e3, by rw [e2]; exact nI_pos (by omega)⟩, fun _ _ => ?_, fun p => ?_⟩
      · rw [e0, e1, e2, e3]
        refine ⟨o, i, ho, hi, rfl, rfl, ?_, ?_, ?_, ?_, ?_⟩
        · unfold rvS; rw [sf_row _ (by decide), st_row _ (by decide), st_row _ (by decide), st_row _ (by decide), st_eq]
        · unfold rvS; rw [sf_row _ (by decide), st_row _ (by decide), st_row _ (by decide), st_eq]
        · unfold rvS; rw [sf_row _ (by decide), st_row _ (by decide), st_eq]
        · unfold rvS; rw [sf_row _ (by decide), st_eq]
        · rw [nI_add, nI_toInt (by omega), nI_toInt (by omega)]; omega
      · exfalso
        apply p
        refine ⟨by omega, ?_⟩
        rw [e3]
        exact nI_ne0 (by omega) (by omega)
    · exact RR_c z (RR_congr (fun k hk => rvS_ne _ _ _ _ _ _ (by omega) (by omega)) (fun w hw => rvR_ne _ _ _ _ _ (by omega) (by omega)) (hR q hq))
theorem INV_rf {j : Nat} {σ2 σ τ : St} (h : INV j σ2 σ τ) (u k v : Int32) : INV (j + 1) σ2 (sf σ 29 k) (sf (sf (sf τ 6 u) 5 k) 6 v) := by
  obtain ⟨⟨c, r, h1, h2⟩, h3, h4, h5, h6⟩ := h
  have g : ∀ k', k' ≠ 6 → k' ≠ 5 → sf (sf (sf τ 6 u) 5 k) 6 v k' = τ k' := fun k' a b => by rw [sf_row _ a, sf_row _ b, sf_row _ a]
  have g5 : sf (sf (sf τ 6 u) 5 k) 6 v 5 0 = k := by rw [sf_row _ (by decide), sf_ap, if_pos rfl]
  unfold INV RQ
  rw [g 0 (by decide) (by decide), g 2 (by decide) (by decide), g 4 (by decide) (by decide), g 1 (by decide) (by decide), g5, sf_row _ (by decide), sf_row _ (by decide)]
  refine ⟨⟨c, r, h1, R0_cells (fun k' hk _ _ => sf_row _ (by omega)) (R0_up h2)⟩, h3, h4, by rw [sf_ap, if_pos rfl], fun q => ?_⟩
  obtain ⟨c, r, h⟩ := h6 q
  exact ⟨c, r, R0_up h⟩
theorem L_reserve {n : Nat} (hn : 700 ≤ n) {j : Nat} {σ2 σ τ : St} (hj : j < 512) (h : INV j σ2 σ τ) (a1 a2 a3 : Int32) : AgI [xIA, xIS] (fX4_reserve n σ a1 a2 a3) (fX5_reserve n τ a1 a2 a3) (fun σ' τ' => INV (j + 1) σ2 σ' τ') := by
  rcases intv_cs n σ a1 a2 a3 with ⟨o, f, l, ho, hf, hl, hl', rfl, rfl, rfl, e1, e2, e3, e4⟩ | ⟨e1, e2⟩
  · obtain ⟨c, r, hX⟩ := INV_o h
    have h0 := hX.2.2
    have hr6 : r ≤ 6 := h0.1.2.1
    have h26 : σ 26 0 = nI r := h0.1.2.2.2.2.1
    have hr2 : sf τ 6 0 0 2 = nI r := h0.1.2.2.2.2.2.1
    have hcl : sf τ 6 0 0 0 = σ 25 0 := h0.1.2.2.2.2.2.2.1.symm
    have refs : ∀ k : Int32, ¬ k = 0 → fX4_reasonToRefuse n σ (nI o) (nI f) (nI l) = some k → fX5_reserve n τ (nI o) (nI f) (nI l) = (b2 (fX5_refuses n (sf τ 6 0) k) fun v s => some (v, s)) → AgI [xIA, xIS] (fX4_reserve n σ (nI o) (nI f) (nI l)) (fX5_reserve n τ (nI o) (nI f) (nI l)) (fun σ' τ' => INV (j + 1) σ2 σ' τ') := fun k hk h1 h2 => by
      refine AgI_t (X := xIS) (b := 0) (σ' := sf σ 29 k) (τ' := sf (sf (sf τ 6 0) 5 k) 6 2) ?_ ?_ (by simp) (by rw [sf6, cd2 ne_SA]) (INV_rf h 0 k 2)
      · unfold fX4_reserve
        rw [e1, bx_r, h1, sb, wf_sf, sb, if_neg (by rw [sf_ap, if_pos rfl]; exact hk)]
      · rw [h2]
        rfl
    by_cases q : σ 25 0 ≤ nI f
    · by_cases p : r < 6
      · have hlow : -2147483648 < (nI f + nI l).toInt := by rw [nI_add, nI_toInt (by omega)]; omega
        cases hw : lw σ o (nI f) (nI l) with
        | none =>
          refine refs 3 (by decide) ?_ ?_
          · unfold fX4_reasonToRefuse
            rw [if_pos q, h26, if_pos (show nI r < 6 from nI_lt (b := 6) p (by decide)), lowestFree_eq (by omega) σ ho, sb, hw, if_pos (show resB o none = -1 from rfl)]
          · unfold fX5_reserve
            rw [wf_sf, sb, e2, sb, if_neg i10, e3, sb, if_neg i10, e4, sb, if_neg i10, g0, sb, hcl, if_pos q, g2, sb, hr2, if_neg (fun w => by have := (nI_eq (a := r) (b := 6) (by omega) (by decide)).mp w; omega), lowest_eq (by omega) h0 ho hlow, sb, hw, if_neg (show ¬ 0 ≤ resB o none from by show ¬ (0 : Int32) ≤ -1; decide)]
        | some i =>
          have hi := lw_lt hw
          have hbl := blk_le hi
          have hpw := Nat.two_pow_pos o
          obtain ⟨⟨c', r', i1, i2⟩, i3, i4, i5, i6⟩ := h
          have hs : fX4_reasonToRefuse n σ (nI o) (nI f) (nI l) = some 0 := by
            unfold fX4_reasonToRefuse
            rw [if_pos q, h26, if_pos (show nI r < 6 from nI_lt (b := 6) p (by decide)), lowestFree_eq (by omega) σ ho, sb, hw, if_neg (show ¬ resB o (some i) = -1 from fun z => nI_pos (n := i * 2 ^ o) (by omega) (by rw [show nI (i * 2 ^ o) = -1 from z]; decide))]
          have hA : R0 c r DN (j + 1) (EE (j + 1)) (sf σ 29 0) (sf (sf τ 6 0) 5 0 0) := by
            rw [sf_row _ (by decide)]
            exact R0_cells (fun k hk _ _ => sf_row _ (by omega)) (R0_up h0)
          have hlw : lw (sf σ 29 0) o (nI f) (nI l) = some i := by
            have : tk (sf σ 29 0) = tk σ := by
              unfold tk tkF
              rw [sf_row _ (by decide), sf_row _ (by decide), sf_row _ (by decide)]
            unfold lw at hw ⊢
            rw [this]; exact hw
          refine AgI_v (v := nI r) (σ' := mrg (sf σ 29 0) (rvS (sf σ 29 0) r o i f l)) (τ' := rvR (sf (sf τ 6 0) 5 0) r o i f l) ?_ ?_ ?_ ?_
          · unfold fX4_reserve
            rw [e1, bx_r, hs, sb, wf_sf, sb, if_pos (by rw [sf_ap, if_pos rfl])]
            unfold fX0_addReservation
            rw [lowestFree_eq (by omega) _ ho, sb, hlw, sf_row σ (show 26 ≠ 29 by decide), h26]
            rw [show (24 : Int32) + nI r = nI (24 + r) from nI_add 24 r]
            show b2 (Option.bind (fX3_give n (sf σ 29 0) (nI (24 + r)) (nI o) (nI (i * 2 ^ o)) (nI f) (nI l)) _) _ = _
            rw [give_eq n _ (by omega), sb, wf_sf, sb, b2s, sb]
            rw [st_row _ (by decide), st_row _ (by decide), st_row _ (by decide), st_row _ (by decide), sf_row σ (show 26 ≠ 29 by decide), h26, nI_1]
            rfl
          · unfold fX5_reserve
            rw [wf_sf, sb, e2, sb, if_neg i10, e3, sb, if_neg i10, e4, sb, if_neg i10, g0, sb, hcl, if_pos q, g2, sb, hr2, if_neg (fun w => by have := (nI_eq (a := r) (b := 6) (by omega) (by decide)).mp w; omega), lowest_eq (by omega) h0 ho hlow, sb, hw, if_pos (show 0 ≤ resB o (some i) from nI_pos' (n := i * 2 ^ o) (by omega)), wf_sf, sb, g2, sb]
            rw [show sf (sf τ 6 0) 5 0 0 2 = nI r by rw [sf_row _ (by decide)]; exact hr2]
            rw [show (341 : Int32) + (4 : Int32) * nI r = nI (341 + 4 * r + 0) by rw [show (341 : Int32) = nI 341 from rfl, show (4 : Int32) = nI 4 from rfl, nI_mul, nI_add]; rfl]
            rw [wr_st _ _ _ (by omega) (by decide), sb, nI_1, wr_st _ _ _ (by omega) (by decide), sb, show nI (341 + 4 * r + 0) + (2 : Int32) = nI (341 + 4 * r + 2) from nI_add _ 2, wr_st _ _ _ (by omega) (by decide), sb, show nI (341 + 4 * r + 0) + (3 : Int32) = nI (341 + 4 * r + 3) from nI_add _ 3, wr_st _ _ _ (by omega) (by decide), sb, g2, sb]
            rw [st_ne _ (by omega), st_ne _ (by omega), st_ne _ (by omega), st_ne _ (by omega)]
            rw [show sf (sf τ 6 0) 5 0 0 2 = nI r by rw [sf_row _ (by decide)]; exact hr2, nI_1, gw2, sb]
            rfl
          · unfold rvR
            rw [st_row _ (by decide), st_row _ (by decide), st_row _ (by decide), st_row _ (by decide), st_row _ (by decide), sf_row _ (by decide), sf6]
          · have hrow : ∀ k, k ≠ 0 → rvR (sf (sf τ 6 0) 5 0) r o i f l k = sf (sf τ 6 0) 5 0 k := fun k hk => by
              unfold rvR
              rw [st_row _ hk, st_row _ hk, st_row _ hk, st_row _ hk, st_row _ hk]
            have hn := resv_lk hA p ho hi hf hl hl' (by rw [EE_s]; have := EE_1 j; omega)
            refine ⟨⟨c, r + 1, ?_, R0_cells (fun k hk _ _ => mrg_lo _ _ hk) hn⟩, ?_, ?_, ?_, ?_⟩
            · intro k hk
              rw [mrg_lo _ _ (by decide), rvS_hi _ _ _ _ _ _ (by decide) (by decide), sf_row _ (by decide), hrow 2 (by decide), sf_row _ (by decide), sf_row _ (by decide)]
              exact i1 k hk
            · rw [mrg_hi _ _ (by decide), sf_row _ (by decide), hrow 4 (by decide), sf_row _ (by decide), sf_row _ (by decide)]; exact i3
            · rw [hrow 4 (by decide), sf_row _ (by decide), sf_row _ (by decide)]; exact i4
            · rw [mrg_hi _ _ (by decide), hrow 5 (by decide), sf_ap, if_pos rfl, sf_ap, if_pos rfl]
            · rw [hrow 4 (by decide), sf_row _ (by decide), sf_row _ (by decide), hrow 1 (by decide), sf_row _ (by decide), sf_row _ (by decide)]
              exact fun q => by obtain ⟨c, r, h⟩ := i6 q; exact ⟨c, r, R0_up h⟩
      · have hz : r = 6 := by omega
        subst hz
        refine refs 2 (by decide) ?_ ?_
        · unfold fX4_reasonToRefuse
          rw [if_pos q, h26, if_neg (by decide)]
        · unfold fX5_reserve
          rw [wf_sf, sb, e2, sb, if_neg i10, e3, sb, if_neg i10, e4, sb, if_neg i10, g0, sb, hcl, if_pos q, g2, sb, hr2, if_pos (show nI 6 = 6 from rfl)]
    · refine refs 1 (by decide) ?_ ?_
      · unfold fX4_reasonToRefuse
        rw [if_neg q]
      · unfold fX5_reserve
        rw [wf_sf, sb, e2, sb, if_neg i10, e3, sb, if_neg i10, e4, sb, if_neg i10, g0, sb, hcl, if_neg q]
  · refine AgI_t (X := xIA) (b := 0) (σ' := σ) (τ' := sf (sf τ 6 0) 6 1) ?_ ?_ (by simp) (by rw [sf6, cd1]) (INV_66 h 0 1)
    · unfold fX4_reserve
      rw [e1, bx_l]
    · unfold fX5_reserve
      rcases e2 with e2 | ⟨e2, e3⟩ | ⟨e2, e3, e4⟩
      · rw [wf_sf, sb, e2, sb, if_pos rfl]; rfl
      · rw [wf_sf, sb, e2, sb, if_neg i10, e3, sb, if_pos rfl]; rfl
      · rw [wf_sf, sb, e2, sb, if_neg i10, e3, sb, if_neg i10, e4, sb, if_pos rfl]; rfl
theorem resv_cs (n : Nat) {c r : Nat} {D : Nat → Nat → Prop} {m E : Nat} {σ τ : St} (h : R0 c r D m E σ (τ 0)) (x : Int32) : (∃ q, q < r ∧ x = nI q ∧ fX5_isReservation n τ x = some 1 ∧ ((τ 0 (341 + 4 * q + 3) = 0 ∧ fX4_checkReservation n σ x = some (.inl (xIS, σ))) ∨ (¬ τ 0 (341 + 4 * q + 3) = 0 ∧ fX4_checkReservation n σ x = some (.inr (0, σ))))) ∨ (fX4_checkReservation n σ x = some (.inl (xIO, σ)) ∧ fX5_isReservation n τ x = some 0) := by
  have hr : r ≤ 6 := h.1.2.1
  have h26 : σ 26 0 = nI r := h.1.2.2.2.2.1
  have hr2 : τ 0 2 = nI r := h.1.2.2.2.2.2.1
  have e : nI r - 1 < x ↔ ¬ x < nI r := by
    rw [pred_lt (by rw [nI_toInt (by omega)]; omega)]
    exact Int32.not_lt.symm
  unfold fX4_checkReservation fX5_isReservation
  rw [g2, sb, h26, hr2, in_eq, sb]
  by_cases q : x < 0
  · rw [if_pos q, if_neg (fun z => z.1 q)]
    exact Or.inr ⟨rfl, rfl⟩
  · rw [if_neg q]
    by_cases p : x < nI r
    · rw [if_pos p, if_pos ⟨q, fun z => e.mp z p⟩]
      obtain ⟨k, hk, rfl⟩ := nI_of q
      have hk' := (nI_ltI hk (by omega)).mp p
      refine Or.inl ⟨k, hk', rfl, rfl, ?_⟩
      obtain ⟨-, hA, hN⟩ := h.2.2.1 k (by omega)
      unfold fX3_isUsed
      rw [show (24 : Int32) + nI k = nI (24 + k) from nI_add 24 k, rd_nI _ (by omega) (by decide), sb]
      by_cases z : τ 0 (341 + 4 * k + 3) = 0
      · rw [hN (fun w => w.2 z), if_pos rfl, sb, if_pos rfl]
        exact Or.inl ⟨z, rfl⟩
      · obtain ⟨o2, i2, h1, h2, h3, h4, h5, -⟩ := hA hk' z
        rw [h5, if_neg (mk_ne o2 h1 i2 h2), sb, if_neg i10]
        exact Or.inr ⟨z, rfl⟩
    · rw [if_neg p, if_neg (fun z => z.2 (e.mpr p))]
      exact Or.inr ⟨rfl, rfl⟩
theorem drop_lk {β : St} {c r m E : Nat} {σ τ : St} (h : RX β c r DN m E σ τ) {q : Nat} (hq : q < r) : RX β c r DN m E (st σ 0 (24 + q) 0) (st τ 0 (341 + 4 * q + 3) 0) := by
  obtain ⟨hK, hQ, hG, hJ, hR, hL, hB⟩ := h
  have hr : r ≤ 6 := hG.2.1
  refine ⟨RK_st hK, fun i hi => by rw [st_row _ (by decide), st_row _ (by decide)]; exact hQ i hi, RG_congr (by rw [st_row _ (by decide)]) (by rw [st_row _ (by decide)]) (by rw [st_row _ (by decide)]) (by rw [st_row _ (by decide)]) (fun i hi => st_ne _ (by omega)) hG, fun j hj => JR_congr (fun i hi => st_ne _ (by omega)) (by rw [st_row _ (by decide)]) (fun w hw => st_ne _ (by omega)) (hJ j hj), fun k hk => ?_, RL_congr (fun k h1 h2 => st_row _ (by omega)) (st_ne _ (by omega)) (fun i h1 h2 => st_ne _ (by omega)) hL, RB_congr (fun k hk => by rw [st_row _ (by decide)]) (fun i h1 h2 => st_ne _ (by omega)) hB⟩
  by_cases z : k = q
  · subst z
    obtain ⟨-, -, -, hp⟩ := (hR k hk).1
    refine ⟨⟨0, by omega, st_eq _, by rw [st_ne _ (by omega)]; exact hp⟩, fun _ w => absurd (st_eq _) w, fun _ => st_eq _⟩
  · exact RR_congr (fun i hi => st_ne _ (by omega)) (fun w hw => st_ne _ (by omega)) (hR k hk)
theorem AgV_v {hs : List String} {fx : Option (XRg Int32)} {fm : Option St} {P : St → St → Prop} {v : Int32} {σ' τ' : St} (h1 : fx = some (.inr (v, σ'))) (h2 : fm = some τ') (h6 : τ' 6 0 = 0) (hP : P σ' τ') : AgV hs fx fm P :=
  ⟨_, _, h1, h2, fun E u e => (by cases e), h6, hP⟩
theorem AgV_t {hs : List String} {fx : Option (XRg Int32)} {fm : Option St} {P : St → St → Prop} {X : String} {σ' τ' : St} (h1 : fx = some (.inl (X, σ'))) (h2 : fm = some τ') (hX : X ∈ hs) (h6 : τ' 6 0 = cdL hs 1 X) (hP : P σ' τ') : AgV hs fx fm P :=
  ⟨_, _, h1, h2, fun E u e => (by cases e; exact hX), h6, hP⟩
theorem L_cancelReservation {n : Nat} (hn : 700 ≤ n) {j : Nat} {σ2 σ τ : St} (hj : j < 512) (h : INV j σ2 σ τ) (a1 : Int32) : AgV [xIO, xIS] (fX4_cancelReservation n σ a1) (fX5_cancelReservation n τ a1) (fun σ' τ' => INV (j + 1) σ2 σ' τ') := by
  have hb := EE_b hj
  have hs := EE_s j
  have hE0 := EE_1 j
  obtain ⟨c, r, hX⟩ := INV_o h
  have hr : r ≤ 6 := hX.2.2.1.2.1
  rcases resv_cs n hX.2.2 a1 with ⟨q, hq, rfl, e2, ⟨e3, e1⟩ | ⟨e3, e1⟩⟩ | ⟨e1, e2⟩
  · refine AgV_t (X := xIS) (σ' := σ) (τ' := sf (sf τ 6 0) 6 2) ?_ ?_ (by simp) (by rw [sf6, cd2 ne_SO]) (INV_66 h 0 2)
    · unfold fX4_cancelReservation
      rw [e1, bx_l]
    · unfold fX5_cancelReservation
      rw [wf_sf, sb, e2, sb, if_neg i10, rs3 n _ (by omega), sb, if_pos e3]
      rfl
  · obtain ⟨σ4, τ4, b1, b2, b3, b4⟩ := replan_lk (n := n) (by omega) (drop_lk hX hq) hE0 ⟨by omega, by omega, by omega⟩
    obtain ⟨σ5, τ5, c1, c2, c3, c4⟩ := start_lk (n := n) (by omega) b3
    obtain ⟨i1, i2⟩ := INV_c h c3 (by omega) (by omega)
    refine AgV_v (v := 0) (σ' := mrg σ σ5) (τ' := τ5) ?_ ?_ i2 i1
    · unfold fX4_cancelReservation fX0_dropReservation
      rw [e1, bx_r, show (24 : Int32) + nI q = nI (24 + q) from nI_add 24 q, clearSlot_eq n _ (by omega), sb, b1, sb, c1, sb, sb, sb]
    · unfold fX5_cancelReservation
      rw [wf_sf, sb, e2, sb, if_neg i10, rs3 n _ (by omega), sb, if_neg e3, ixR q 3 (x := 3) rfl, wr_st _ _ _ (by omega) (by decide), sb, b2, sb, c2, sb]
  · refine AgV_t (X := xIO) (σ' := σ) (τ' := sf (sf τ 6 0) 6 1) ?_ ?_ (by simp) (by rw [sf6, cd1]) (INV_66 h 0 1)
    · unfold fX4_cancelReservation
      rw [e1, bx_l]
    · unfold fX5_cancelReservation
      rw [wf_sf, sb, e2, sb, if_pos rfl]
      rfl
theorem L_reservedProcessor {n : Nat} {j : Nat} {σ2 σ τ : St} (h : INV j σ2 σ τ) (a1 : Int32) : AgI [xIO, xIS] (fX4_reservedProcessor n σ a1) (fX5_reservedProcessor n τ a1) (fun σ' τ' => INV (j + 1) σ2 σ' τ') := by
  obtain ⟨c, r, hX⟩ := INV_o h
  have hr : r ≤ 6 := hX.2.2.1.2.1
  rcases resv_cs n hX.2.2 a1 with ⟨q, hq, rfl, e2, ⟨e3, e1⟩ | ⟨e3, e1⟩⟩ | ⟨e1, e2⟩
  · refine AgI_t (X := xIS) (b := 0) (σ' := σ) (τ' := sf (sf τ 6 0) 6 2) ?_ ?_ (by simp) (by rw [sf6, cd2 ne_SO]) (INV_66 h 0 2)
    · unfold fX4_reservedProcessor
      rw [e1, bx_l]
    · unfold fX5_reservedProcessor
      rw [wf_sf, sb, e2, sb, if_neg i10, rs3 n _ (by omega), sb, if_pos e3]
      rfl
  · obtain ⟨o2, i2, h1, h2, h3, h4, h5, h6, -⟩ := (hX.2.2.2.2.1 q (by omega)).2.1 hq e3
    refine AgI_v (v := σ 1 (24 + q)) (σ' := σ) (τ' := sf τ 6 0) ?_ ?_ (sf6 _ _) (INV_6 h 0)
    · unfold fX4_reservedProcessor
      rw [e1, bx_r, show (24 : Int32) + nI q = nI (24 + q) from nI_add 24 q, rd_nI _ (by omega) (by decide), sb]
    · unfold fX5_reservedProcessor
      rw [wf_sf, sb, e2, sb, if_neg i10, rs3 n _ (by omega), sb, if_neg e3, rs1 n _ (by omega), sb, h6]
  · refine AgI_t (X := xIO) (b := 0) (σ' := σ) (τ' := sf (sf τ 6 0) 6 1) ?_ ?_ (by simp) (by rw [sf6, cd1]) (INV_66 h 0 1)
    · unfold fX4_reservedProcessor
      rw [e1, bx_l]
    · unfold fX5_reservedProcessor
      rw [wf_sf, sb, e2, sb, if_pos rfl]
      rfl
