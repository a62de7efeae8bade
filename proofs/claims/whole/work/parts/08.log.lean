/-! MATHEMATICS 6: loops side by side; the log -/
/-- a loop that counts along e and only gathers -/
theorem lz2_fe {β ρ : Type} {b : (Int32 → β → Option ρ) → Int32 → β → Option ρ} {e : Nat → Int32} {N : Nat} {F : Nat → β → β} {k : β → Option ρ} (hend : ∀ go a, b go (e N) a = k a) (hstep : ∀ go i a, i < N → b go (e i) a = go (e (i + 1)) (F i a)) : ∀ (d i : Nat) (a : β) (fu : Nat), i + d = N → d < fu → lz2 b fu (e i) a = k (itF F i d a) := by
  intro d
  induction d with
  | zero =>
    intro i a fu h hf
    obtain ⟨fu, rfl⟩ : ∃ z, fu = z + 1 := ⟨fu - 1, by omega⟩
    have : i = N := by omega
    subst this
    exact hend _ a
  | succ d ih =>
    intro i a fu h hf
    obtain ⟨fu, rfl⟩ : ∃ z, fu = z + 1 := ⟨fu - 1, by omega⟩
    show b (lz2 b fu) (e i) a = _
    rw [hstep _ i a (by omega)]
    exact ih (i + 1) (F i a) fu (by omega) (by omega)
/-- a loop that counts along e and looks for a place -/
theorem lz1_fe {ρ : Type} {b : (Int32 → Option ρ) → Int32 → Option ρ} {e : Nat → Int32} {N : Nat} {P : Nat → Bool} {X : Nat → Option ρ} {Z : Option ρ} (hend : ∀ go, b go (e N) = Z) (hstep : ∀ go i, i < N → b go (e i) = if P i = true then X i else go (e (i + 1))) : ∀ (d i : Nat) (fu : Nat), i + d = N → d < fu → lz1 b fu (e i) = match ffd P i d with | some k => X k | none => Z := by
  intro d
  induction d with
  | zero =>
    intro i fu h hf
    obtain ⟨fu, rfl⟩ : ∃ z, fu = z + 1 := ⟨fu - 1, by omega⟩
    have : i = N := by omega
    subst this
    exact hend _
  | succ d ih =>
    intro i fu h hf
    obtain ⟨fu, rfl⟩ : ∃ z, fu = z + 1 := ⟨fu - 1, by omega⟩
    show b (lz1 b fu) (e i) = match (if P i = true then some i else ffd P (i + 1) d) with | some k => X k | none => Z
    rw [hstep _ i (by omega)]
    by_cases c : P i = true
    · rw [if_pos c, if_pos c]
    · rw [if_neg c, if_neg c]
      exact ih (i + 1) fu (by omega) (by omega)
/-- two loops side by side -/
theorem lk2 {β β' ρ ρ' : Type} {b : (Int32 → β → Option ρ) → Int32 → β → Option ρ} {b' : (Int32 → β' → Option ρ') → Int32 → β' → Option ρ'} {N : Nat} {I : Nat → β → β' → Prop} {P : ρ → ρ' → Prop} (hend : ∀ go go' x y, I N x y → ∃ r r', b go (nI N) x = some r ∧ b' go' (nI N) y = some r' ∧ P r r') (hstep : ∀ i x y, i < N → I i x y → ∃ x' y', (∀ go, b go (nI i) x = go (nI (i + 1)) x') ∧ (∀ go', b' go' (nI i) y = go' (nI (i + 1)) y') ∧ I (i + 1) x' y') : ∀ (d i : Nat) (x : β) (y : β') (fu fu' : Nat), i + d = N → d < fu → d < fu' → I i x y → ∃ r r', lz2 b fu (nI i) x = some r ∧ lz2 b' fu' (nI i) y = some r' ∧ P r r' := by
  intro d
  induction d with
  | zero =>
    intro i x y fu fu' h hf hf' hI
    obtain ⟨fu, rfl⟩ : ∃ z, fu = z + 1 := ⟨fu - 1, by omega⟩
    obtain ⟨fu', rfl⟩ : ∃ z, fu' = z + 1 := ⟨fu' - 1, by omega⟩
    have : i = N := by omega
    subst this
    exact hend _ _ x y hI
  | succ d ih =>
    intro i x y fu fu' h hf hf' hI
    obtain ⟨fu, rfl⟩ : ∃ z, fu = z + 1 := ⟨fu - 1, by omega⟩
    obtain ⟨fu', rfl⟩ : ∃ z, fu' = z + 1 := ⟨fu' - 1, by omega⟩
    obtain ⟨x', y', h1, h2, h3⟩ := hstep i x y (by omega) hI
    rw [lz2_s, lz2_s, h1, h2]
    exact ih (i + 1) x' y' fu fu' (by omega) (by omega) (by omega) h3
theorem lk3 {β β' γ γ' ρ ρ' : Type} {b : (Int32 → γ → β → Option ρ) → Int32 → γ → β → Option ρ} {b' : (Int32 → γ' → β' → Option ρ') → Int32 → γ' → β' → Option ρ'} {N : Nat} {I : Nat → γ → β → γ' → β' → Prop} {P : ρ → ρ' → Prop} (hend : ∀ go go' u x v y, I N u x v y → ∃ r r', b go (nI N) u x = some r ∧ b' go' (nI N) v y = some r' ∧ P r r') (hstep : ∀ i u x v y, i < N → I i u x v y → ∃ u' x' v' y', (∀ go, b go (nI i) u x = go (nI (i + 1)) u' x') ∧ (∀ go', b' go' (nI i) v y = go' (nI (i + 1)) v' y') ∧ I (i + 1) u' x' v' y') : ∀ (d i : Nat) (u : γ) (x : β) (v : γ') (y : β') (fu fu' : Nat), i + d = N → d < fu → d < fu' → I i u x v y → ∃ r r', lz3 b fu (nI i) u x = some r ∧ lz3 b' fu' (nI i) v y = some r' ∧ P r r' := by
  intro d
  induction d with
  | zero =>
    intro i u x v y fu fu' h hf hf' hI
    obtain ⟨fu, rfl⟩ : ∃ z, fu = z + 1 := ⟨fu - 1, by omega⟩
    obtain ⟨fu', rfl⟩ : ∃ z, fu' = z + 1 := ⟨fu' - 1, by omega⟩
    have : i = N := by omega
    subst this
    exact hend _ _ u x v y hI
  | succ d ih =>
    intro i u x v y fu fu' h hf hf' hI
    obtain ⟨fu, rfl⟩ : ∃ z, fu = z + 1 := ⟨fu - 1, by omega⟩
    obtain ⟨fu', rfl⟩ : ∃ z, fu' = z + 1 := ⟨fu' - 1, by omega⟩
    obtain ⟨u', x', v', y', h1, h2, h3⟩ := hstep i u x v y (by omega) hI
    rw [lz3_s, lz3_s, h1, h2]
    exact ih (i + 1) u' x' v' y' fu fu' (by omega) (by omega) (by omega) h3
theorem orem60 : ∀ a, a < 121 → orem (nI a) 60 = some (nI (a % 60)) := by decide +kernel
/-- the class' log takes an entry -/
def ntS (σ : St) (lc lo : Nat) (x1 x2 x3 : Int32) : St := if lc < 60 then sf (st (st (st σ 17 ((lo + lc) % 60) x1) 18 ((lo + lc) % 60) x2) 19 ((lo + lc) % 60) x3) 20 (nI (lc + 1)) else sf (st (st (st σ 17 ((lo + lc) % 60) x1) 18 ((lo + lc) % 60) x2) 19 ((lo + lc) % 60) x3) 21 (nI ((lo + 1) % 60))
theorem note_eq (n : Nat) (σ : St) {lc lo : Nat} (h1 : lc ≤ 60) (h2 : lo < 60) (h5 : σ 20 0 = nI lc) (h7 : σ 21 0 = nI lo) (x1 x2 x3 : Int32) : fX1_note n σ x1 x2 x3 = some (ntS σ lc lo x1 x2 x3) := by
  have hm : (lo + lc) % 60 < 60 := Nat.mod_lt _ (by decide)
  unfold fX1_note ntS
  rw [h5, h7, nI_add, orem60 _ (by omega), sb, wr_st _ _ _ hm (by decide), sb, wr_st _ _ _ hm (by decide), sb, wr_st _ _ _ hm (by decide), sb]
  rw [show st (st (st σ 17 ((lo + lc) % 60) x1) 18 ((lo + lc) % 60) x2) 19 ((lo + lc) % 60) x3 20 0 = nI lc by rw [st_row _ (by decide), st_row _ (by decide), st_row _ (by decide), h5]]
  rw [show st (st (st σ 17 ((lo + lc) % 60) x1) 18 ((lo + lc) % 60) x2) 19 ((lo + lc) % 60) x3 21 0 = nI lo by rw [st_row _ (by decide), st_row _ (by decide), st_row _ (by decide), h7]]
  by_cases q : lc < 60
  · rw [if_neg (show ¬ (60 : Int32) ≤ nI lc from nI_ge (b := 60) q (by decide)), if_pos q, nI_1]
    rfl
  · have e : lc = 60 := by omega
    subst e
    rw [if_pos (by decide), if_neg q, nI_1, orem60 _ (by omega), sb]
    rfl
def shF (i : Nat) (s : St) : St := st s 0 (365 + i) (s 0 (365 + i + 3))
theorem shF_it (τ : St) : ∀ d, d ≤ 177 → ∀ k i, itF shF 0 d τ k i = if k = 0 ∧ 365 ≤ i ∧ i < 365 + d then τ 0 (i + 3) else τ k i := by
  intro d
  induction d with
  | zero =>
    intro _ k i
    rw [if_neg (by omega)]
    rfl
  | succ d ih =>
    intro hd k i
    rw [itF_last, Nat.zero_add, shF, st_ap, ih (by omega), ih (by omega)]
    by_cases q : k = 0
    · subst q
      by_cases p : i = 365 + d
      · subst p
        rw [if_pos rfl, if_pos rfl, if_neg (by omega), if_pos (by omega)]
      · rw [if_pos rfl, if_neg p]
        by_cases s : 365 ≤ i ∧ i < 365 + d
        · rw [if_pos ⟨rfl, s⟩, if_pos (by omega)]
        · rw [if_neg (fun h => s h.2), if_neg (by omega)]
    · rw [if_neg q, if_neg (fun h => q h.1), if_neg (fun h => q h.1)]
/-- the reference's log takes an entry -/
def rcS (τ : St) (lc : Nat) (x1 x2 : Int32) : St := if lc < 60 then st (st (st (st τ 0 4 (nI (lc + 1))) 0 (365 + 3 * lc + 0) (τ 0 0)) 0 (365 + 3 * lc + 1) x1) 0 (365 + 3 * lc + 2) x2 else st (st (st (st (st (itF shF 0 177 τ) 0 4 (nI 59)) 0 4 (nI 60)) 0 542 (τ 0 0)) 0 543 x1) 0 544 x2
theorem records_eq {n : Nat} (hn : 178 ≤ n) (τ : St) {lc : Nat} (h1 : lc ≤ 60) (h5 : τ 0 4 = nI lc) (x1 x2 : Int32) : fX5_records n τ x1 x2 = some (rcS τ lc x1 x2) := by
  unfold fX5_records rcS
  rw [g4, sb, h5]
  by_cases q : lc < 60
  · rw [if_neg (fun h => by have := (nI_eq (a := lc) (b := 60) (by omega) (by decide)).mp h; omega), if_pos q, sb, gw4, sb, g0, sb, nI_1]
    rw [show (365 : Int32) + (3 : Int32) * nI lc = nI (365 + 3 * lc + 0) by rw [show (365 : Int32) = nI 365 from rfl, show (3 : Int32) = nI 3 from rfl, nI_mul, nI_add]; rfl]
    rw [wr_st _ _ _ (by omega) (by decide), sb, nI_1, show (2 : Int32) = nI 2 from rfl, nI_add, wr_st _ _ _ (by omega) (by decide), sb, wr_st _ _ _ (by omega) (by decide), sb]
    rw [show st τ 0 4 (nI (lc + 1)) 0 0 = τ 0 0 from st_ne _ (by decide)]
  · have e : lc = 60 := by omega
    subst e
    rw [if_pos (show nI 60 = 60 from rfl), if_neg q]
    have c1 : (177 : Int32) ≤ nI 177 := by decide
    refine (lz2_fe (e := nI) (N := 177) (F := shF) (k := fun s => fX5_records_b13 x1 x2 (fun _ _ => none) (nI 177) s) ?_ ?_ 177 0 τ n rfl (by omega)).trans ?_
    · intro go a
      unfold fX5_records_b13
      rw [if_pos c1, if_pos c1]
    · intro go i a hi
      unfold fX5_records_b13
      rw [if_neg (show ¬ (177 : Int32) ≤ nI i from nI_ge (b := 177) hi (by decide))]
      rw [show (365 : Int32) + nI i = nI (365 + i) from nI_add 365 i, show nI (365 + i) + (3 : Int32) = nI (365 + i + 3) from nI_add _ 3, rd_nI _ (by omega) (by decide), sb, wr_st _ _ _ (by omega) (by decide), sb, nI_1]
      rfl
    · have e4 : itF shF 0 177 τ 0 4 = nI 60 := by rw [shF_it τ 177 (by omega), if_neg (by omega), h5]
      have e0 : itF shF 0 177 τ 0 0 = τ 0 0 := by rw [shF_it τ 177 (by omega), if_neg (by omega)]
      generalize itF shF 0 177 τ = s at e4 e0
      unfold fX5_records_b13
      rw [if_pos c1, g4, sb, e4, show nI 60 - 1 = nI 59 by decide, gw4, sb, g4, sb, st_eq, gw4, sb, g0, sb, st_ne _ (by decide), st_ne _ (by decide), e0]
      rw [show (365 : Int32) + (3 : Int32) * nI 59 = nI 542 by decide, show nI 59 + 1 = nI 60 by decide, wr_st _ _ _ (by decide) (by decide), sb, show nI 542 + 1 = nI 543 by decide, wr_st _ _ _ (by decide) (by decide), sb, show nI 542 + 2 = nI 544 by decide, wr_st _ _ _ (by decide) (by decide), sb]
theorem rc_fr (τ : St) (lc : Nat) (h1 : lc ≤ 60) (x1 x2 : Int32) {i : Nat} (h : i < 365 ∨ 545 ≤ i) (h4 : i ≠ 4) : rcS τ lc x1 x2 0 i = τ 0 i := by
  unfold rcS
  split
  · rw [st_ne _ (by omega), st_ne _ (by omega), st_ne _ (by omega), st_ne _ (by omega)]
  · rw [st_ne _ (by omega), st_ne _ (by omega), st_ne _ (by omega), st_ne _ (by omega), st_ne _ (by omega), shF_it τ 177 (by omega), if_neg (by omega)]
theorem rc_row (τ : St) (lc : Nat) (x1 x2 : Int32) {k : Nat} (h : k ≠ 0) : rcS τ lc x1 x2 k = τ k := by
  funext i
  unfold rcS
  split
  · rw [st_row _ h, st_row _ h, st_row _ h, st_row _ h]
  · rw [st_row _ h, st_row _ h, st_row _ h, st_row _ h, st_row _ h, shF_it τ 177 (by omega), if_neg (fun q => h q.1)]
theorem nt_row (σ : St) (lc lo : Nat) (x1 x2 x3 : Int32) {k : Nat} (h : k < 17 ∨ 21 < k) : ntS σ lc lo x1 x2 x3 k = σ k := by
  unfold ntS
  split
  · rw [sf_row _ (by omega), st_row _ (by omega), st_row _ (by omega), st_row _ (by omega)]
  · rw [sf_row _ (by omega), st_row _ (by omega), st_row _ (by omega), st_row _ (by omega)]
theorem RL_note {σ τ : St} {lc lo : Nat} (h1 : lc ≤ 60) (h2 : lo < 60) (h3 : lc < 60 → lo = 0) (h5 : σ 20 0 = nI lc) (h6 : τ 0 4 = nI lc) (h7 : σ 21 0 = nI lo) (h8 : ∀ i, i < lc → σ 17 ((lo + i) % 60) = τ 0 (365 + 3 * i + 0) ∧ σ 18 ((lo + i) % 60) = τ 0 (365 + 3 * i + 1) ∧ σ 19 ((lo + i) % 60) = τ 0 (365 + 3 * i + 2)) (x2 x3 : Int32) : RLg (ntS σ lc lo (τ 0 0) x2 x3) (rcS τ lc x2 x3 0) := by
  unfold ntS rcS
  by_cases q : lc < 60
  · have h3 := h3 q
    subst h3
    rw [if_pos q, if_pos q]
    refine ⟨lc + 1, 0, by omega, by omega, fun _ => rfl, ?_, ?_, ?_, fun i hi => ?_⟩
    · simp [sf_ap]
    · rw [st_ne _ (by omega), st_ne _ (by omega), st_ne _ (by omega), st_eq]
    · simp [sf_ap, st_ap, h7]
    · rcases Nat.lt_or_ge i lc with p | p
      · obtain ⟨e1, e2, e3⟩ := h8 i p
        have m1 : ¬ (0 + i) % 60 = (0 + lc) % 60 := by omega
        simp only [sf_ap, st_ap, m1]
        simp only [show ¬ 365 + 3 * i + 0 = 365 + 3 * lc + 2 by omega, show ¬ 365 + 3 * i + 0 = 365 + 3 * lc + 1 by omega, show ¬ 365 + 3 * i + 0 = 365 + 3 * lc + 0 by omega, show ¬ 365 + 3 * i + 0 = 4 by omega, show ¬ 365 + 3 * i + 1 = 365 + 3 * lc + 2 by omega, show ¬ 365 + 3 * i + 1 = 365 + 3 * lc + 1 by omega, show ¬ 365 + 3 * i + 1 = 365 + 3 * lc + 0 by omega, show ¬ 365 + 3 * i + 1 = 4 by omega, show ¬ 365 + 3 * i + 2 = 365 + 3 * lc + 2 by omega, show ¬ 365 + 3 * i + 2 = 365 + 3 * lc + 1 by omega, show ¬ 365 + 3 * i + 2 = 365 + 3 * lc + 0 by omega, show ¬ 365 + 3 * i + 2 = 4 by omega]
        simpa using And.intro e1 (And.intro e2 e3)
      · have p : i = lc := by omega
        subst p
        simp [sf_ap, st_ap]
  · have e : lc = 60 := by omega
    subst e
    rw [if_neg q, if_neg q]
    refine ⟨60, (lo + 1) % 60, by omega, Nat.mod_lt _ (by decide), fun h => absurd h (by omega), ?_, ?_, ?_, fun i hi => ?_⟩
    · simp [sf_ap, st_ap, h5]
    · rw [st_ne _ (by omega), st_ne _ (by omega), st_ne _ (by omega), st_eq]
    · simp [sf_ap]
    · rcases Nat.lt_or_ge i 59 with p | p
      · obtain ⟨e1, e2, e3⟩ := h8 (i + 1) (by omega)
        have m1 : ¬ ((lo + 1) % 60 + i) % 60 = (lo + 60) % 60 := by omega
        have m2 : ((lo + 1) % 60 + i) % 60 = (lo + (i + 1)) % 60 := by omega
        have f : ∀ w, w < 3 → st (st (st (st (st (itF shF 0 177 τ) 0 4 (nI 59)) 0 4 (nI 60)) 0 542 (τ 0 0)) 0 543 x2) 0 544 x3 0 (365 + 3 * i + w) = τ 0 (365 + 3 * (i + 1) + w) := by
          intro w hw
          rw [st_ne _ (by omega), st_ne _ (by omega), st_ne _ (by omega), st_ne _ (by omega), st_ne _ (by omega), shF_it τ 177 (by omega), if_pos (by omega)]
          congr 1
          omega
        rw [f 0 (by omega), f 1 (by omega), f 2 (by omega), ← e1, ← e2, ← e3]
        simp only [sf_ap, st_ap, m1]
        simp [m2]
      · have p : i = 59 := by omega
        subst p
        have m1 : ((lo + 1) % 60 + 59) % 60 = (lo + 60) % 60 := by omega
        simp only [sf_ap, st_ap, m1]
        simp
/-- an event goes into both logs -/
theorem note_lk {n : Nat} (hn : 178 ≤ n) {β : St} {c r : Nat} {D : Nat → Nat → Prop} {m E : Nat} {σ τ : St} (h : RX β c r D m E σ τ) (k x : Int32) : ∃ σ' τ', fX1_note n σ (σ 25 0) k x = some σ' ∧ fX5_records n τ k x = some τ' ∧ RX β c r D m E σ' τ' ∧ (∀ k, k < 17 ∨ 21 < k → σ' k = σ k) ∧ (∀ i, i < 365 → i ≠ 4 → τ' 0 i = τ 0 i) ∧ (∀ k, k ≠ 0 → τ' k = τ k) := by
  obtain ⟨⟨k1, k4, k5, k6⟩, hQ, hG, hJ, hR, ⟨lc, lo, h1, h2, h3, h5, h6, h7, h8⟩, hB⟩ := h
  have hcl : σ 25 0 = τ 0 0 := hG.2.2.2.2.2.2.1
  refine ⟨ntS σ lc lo (τ 0 0) k x, rcS τ lc k x, by rw [hcl]; exact note_eq n σ h1 h2 h5 h7 _ _ _, records_eq hn τ h1 h6 _ _, ⟨?_, ?_, ?_⟩, fun k hk => nt_row σ lc lo _ _ _ hk, fun i hi h4 => rc_fr τ lc h1 _ _ (Or.inl hi) h4, fun k hk => rc_row τ lc _ _ hk⟩
  · exact ⟨by rw [rc_row _ _ _ _ (by decide)]; exact k1, by rw [rc_row _ _ _ _ (by decide)]; exact k4, by rw [rc_row _ _ _ _ (by decide)]; exact k5, by rw [rc_row _ _ _ _ (by decide)]; exact k6⟩
  · intro i hi
    rw [nt_row σ lc lo _ _ _ (by omega), rc_row _ _ _ _ (by decide)]
    exact hQ i hi
  · refine ⟨RG_congr (by rw [nt_row σ lc lo _ _ _ (by omega)]) (by rw [nt_row σ lc lo _ _ _ (by omega)]) (by rw [nt_row σ lc lo _ _ _ (by omega)]) (by rw [nt_row σ lc lo _ _ _ (by omega)]) (fun i hi => rc_fr τ lc h1 _ _ (by omega) (by omega)) hG, fun j hj => JR_congr (fun i hi => by rw [nt_row σ lc lo _ _ _ (by omega)]) (by rw [nt_row σ lc lo _ _ _ (by omega)]) (fun w hw => rc_fr τ lc h1 _ _ (by omega) (by omega)) (hJ j hj), fun q hq => RR_congr (fun i hi => by rw [nt_row σ lc lo _ _ _ (by omega)]) (fun w hw => rc_fr τ lc h1 _ _ (by omega) (by omega)) (hR q hq), RL_note h1 h2 h3 h5 h6 h7 h8 k x, RB_congr (fun k hk => by rw [nt_row σ lc lo _ _ _ (by omega)]) (fun i h1' h2' => rc_fr τ lc h1 _ _ (by omega) (by omega)) hB⟩
