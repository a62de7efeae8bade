/-! MATHEMATICS 11: the invariant of the law's loop; submit -/
def EE (j : Nat) : Nat := 1000 + 1200 * (49 * j + 5 * (j * j))
theorem EE_s (j : Nat) : EE (j + 1) = EE j + 1200 * (54 + 10 * j) := by
  unfold EE
  rw [show (j + 1) * (j + 1) = j * j + 2 * j + 1 by rw [Nat.add_mul, Nat.mul_add]; omega]
  omega
theorem EE_b {j : Nat} (h : j < 512) : EE (j + 1) ≤ 1602970600 := by
  unfold EE
  have : (j + 1) * (j + 1) ≤ 512 * 512 := Nat.mul_le_mul (by omega) (by omega)
  omega
theorem EE_1 (j : Nat) : 1000 ≤ EE j := by unfold EE; omega
def INV (j : Nat) (σ2 σ τ : St) : Prop := (∃ c r, RQ σ τ ∧ R0 c r DN j (EE j) σ (τ 0)) ∧ σ 28 0 = τ 4 0 ∧ (τ 4 0 = 0 ∨ τ 4 0 = 1) ∧ σ 29 0 = τ 5 0 ∧ (τ 4 0 = 1 → ∃ c r, R0 c r DN j (EE j) σ2 (τ 1))
theorem R0_up {c r : Nat} {j : Nat} {σ : St} {a : Nat → Int32} (h : R0 c r DN j (EE j) σ a) : R0 c r DN (j + 1) (EE (j + 1)) σ a := R0_mono (by omega) (by rw [EE_s]; omega) h
theorem INV_6 {j : Nat} {σ2 σ τ : St} (h : INV j σ2 σ τ) (v : Int32) : INV (j + 1) σ2 σ (sf τ 6 v) := by
  obtain ⟨⟨c, r, h1, h2⟩, h3, h4, h5, h6⟩ := h
  unfold INV RQ
  rw [sf_row _ (by decide), sf_row _ (by decide), sf_row _ (by decide), sf_row _ (by decide), sf_row _ (by decide)]
  exact ⟨⟨c, r, h1, R0_up h2⟩, h3, h4, h5, fun q => by obtain ⟨c, r, h⟩ := h6 q; exact ⟨c, r, R0_up h⟩⟩
theorem INV_66 {j : Nat} {σ2 σ τ : St} (h : INV j σ2 σ τ) (u v : Int32) : INV (j + 1) σ2 σ (sf (sf τ 6 u) 6 v) := by
  have e : sf (sf τ 6 u) 6 v = sf τ 6 v := by
    funext k i
    rw [sf_ap, sf_ap, sf_ap]
    by_cases q : k = 6
    · rw [if_pos q, if_pos q]
    · rw [if_neg q, if_neg q, if_neg q]
  rw [e]; exact INV_6 h v
theorem INV_n {j : Nat} {σ2 σ τ : St} (h : INV j σ2 σ τ) : INV (j + 1) σ2 σ τ := by
  obtain ⟨⟨c, r, h1, h2⟩, h3, h4, h5, h6⟩ := h
  exact ⟨⟨c, r, h1, R0_up h2⟩, h3, h4, h5, fun q => by obtain ⟨c, r, h⟩ := h6 q; exact ⟨c, r, R0_up h⟩⟩
/-- the invariant opened for a call that changes something -/
theorem INV_o {j : Nat} {σ2 σ τ : St} (h : INV j σ2 σ τ) : ∃ c r, RX (sf τ 6 0) c r DN j (EE j) σ (sf τ 6 0) := by
  obtain ⟨⟨c, r, h1, h2⟩, -⟩ := h
  refine ⟨c, r, ⟨rfl, rfl, rfl, rfl⟩, ?_, ?_⟩
  · intro i hi
    rw [sf_row _ (by decide)]; exact h1 i hi
  · rw [sf_row _ (by decide)]; exact h2
theorem mrg_lo (σ s : St) {k : Nat} (h : k < 28) : mrg σ s k = s k := if_pos h
theorem mrg_hi (σ s : St) {k : Nat} (h : 28 ≤ k) : mrg σ s k = σ k := if_neg (by omega)
theorem INV_c {j : Nat} {σ2 σ σ' τ τ' : St} {c r m E : Nat} (h : INV j σ2 σ τ) (hX : RX (sf τ 6 0) c r DN m E σ' τ') (hm : m ≤ j + 1) (hE : E ≤ EE (j + 1)) : INV (j + 1) σ2 (mrg σ σ') τ' ∧ τ' 6 0 = 0 := by
  obtain ⟨-, h3, h4, h5, h6⟩ := h
  obtain ⟨⟨k1, k4, k5, k6⟩, hQ, h0⟩ := hX
  refine ⟨⟨⟨c, r, ?_, R0_mono hm hE (R0_cells (fun k hk _ _ => mrg_lo σ σ' hk) h0)⟩, ?_, ?_, ?_, ?_⟩, ?_⟩
  · intro i hi
    rw [mrg_lo _ _ (by decide)]; exact hQ i hi
  · rw [mrg_hi _ _ (by decide), k4, sf_row _ (by decide)]; exact h3
  · rw [k4, sf_row _ (by decide)]; exact h4
  · rw [mrg_hi _ _ (by decide), k5, sf_row _ (by decide)]; exact h5
  · rw [k4, sf_row _ (by decide), k1, sf_row _ (by decide)]
    exact fun q => by obtain ⟨c, r, h⟩ := h6 q; exact ⟨c, r, R0_up h⟩
  · rw [k6, sf_ap, if_pos rfl]
theorem AgI_v {hs : List String} {fx : Option (XRg Int32)} {fm : Option (Int32 × St)} {P : St → St → Prop} {v : Int32} {σ' τ' : St} (h1 : fx = some (.inr (v, σ'))) (h2 : fm = some (v, τ')) (h6 : τ' 6 0 = 0) (hP : P σ' τ') : AgI hs fx fm P :=
  ⟨_, _, _, h1, h2, fun E u e => (by cases e), h6, fun v u e => (by cases e; rfl), hP⟩
theorem AgI_t {hs : List String} {fx : Option (XRg Int32)} {fm : Option (Int32 × St)} {P : St → St → Prop} {X : String} {b : Int32} {σ' τ' : St} (h1 : fx = some (.inl (X, σ'))) (h2 : fm = some (b, τ')) (hX : X ∈ hs) (h6 : τ' 6 0 = cdL hs 1 X) (hP : P σ' τ') : AgI hs fx fm P :=
  ⟨_, _, _, h1, h2, fun E u e => (by cases e; exact hX), h6, fun v u e => (by cases e), hP⟩
theorem raises_eq (n : Nat) (σ : St) (x : Int32) : fX5_raises n σ x = some (0, sf σ 6 x) := rfl
theorem in_eq (n : Nat) (x a b : Int32) : fX5_in n x a b = some (if ¬ x < a ∧ ¬ b < x then 1 else 0) := by
  unfold fX5_in
  by_cases q : x < a
  · rw [if_pos q, if_neg (fun z => z.1 q)]
  · rw [if_neg q]
    by_cases p : b < x
    · rw [if_pos p, if_neg (fun z => z.2 p)]
    · rw [if_neg p, if_pos ⟨q, p⟩]
theorem user_cs (n : Nat) (x : Int32) : (∃ u, u < 4 ∧ x = nI u ∧ fX4_isUser n x = some 1 ∧ fX5_in n x 0 3 = some 1) ∨ (fX4_isUser n x = some 0 ∧ fX5_in n x 0 3 = some 0) := by
  have e : (4 : Int32) ≤ x ↔ 3 < x := by rw [le_int, lt_int, show (4 : Int32).toInt = 4 from rfl, show (3 : Int32).toInt = 3 from rfl]; omega
  unfold fX4_isUser fX5_in
  by_cases q : x < 0
  · rw [if_pos q, if_pos q]; exact Or.inr ⟨rfl, rfl⟩
  · rw [if_neg q, if_neg q]
    by_cases p : 3 < x
    · rw [if_pos (e.mpr p), if_pos p]; exact Or.inr ⟨rfl, rfl⟩
    · rw [if_neg (fun z => p (e.mp z)), if_neg p]
      obtain ⟨u, hu, eu⟩ := nI_of2 (n := 3) (M := 3) rfl q (Int32.not_lt.mp p)
      exact Or.inl ⟨u, by omega, eu, rfl, rfl⟩
theorem order_cs (n : Nat) (x : Int32) : (∃ u, u < 6 ∧ x = nI u ∧ fX4_isOrder n x = some 1 ∧ fX5_in n x 0 5 = some 1) ∨ (fX4_isOrder n x = some 0 ∧ fX5_in n x 0 5 = some 0) := by
  unfold fX4_isOrder fX5_in
  by_cases q : x < 0
  · rw [if_pos q]; exact Or.inr ⟨rfl, rfl⟩
  · rw [if_neg q]
    by_cases p : 5 < x
    · rw [if_pos p]; exact Or.inr ⟨rfl, rfl⟩
    · rw [if_neg p]
      obtain ⟨u, hu, eu⟩ := nI_of2 (n := 5) (M := 5) rfl q (Int32.not_lt.mp p)
      exact Or.inl ⟨u, by omega, eu, rfl, rfl⟩
theorem length_cs (n : Nat) (x : Int32) : (∃ u, 1 ≤ u ∧ u ≤ 40 ∧ x = nI u ∧ fX4_isLength n x = some 1 ∧ fX5_in n x 1 40 = some 1) ∨ (fX4_isLength n x = some 0 ∧ fX5_in n x 1 40 = some 0) := by
  unfold fX4_isLength fX5_in
  by_cases q : x < 1
  · rw [if_pos q]; exact Or.inr ⟨rfl, rfl⟩
  · rw [if_neg q]
    by_cases p : 40 < x
    · rw [if_pos p]; exact Or.inr ⟨rfl, rfl⟩
    · rw [if_neg p]
      have q' : ¬ x < 0 := by rw [lt_int] at q ⊢; have : (1 : Int32).toInt = 1 := rfl; have : (0 : Int32).toInt = 0 := rfl; omega
      obtain ⟨u, hu, eu⟩ := nI_of2 (n := 40) (M := 40) rfl q' (Int32.not_lt.mp p)
      refine Or.inl ⟨u, ?_, hu, eu, rfl, rfl⟩
      rw [lt_int, eu, nI_toInt (by omega)] at q
      have : (1 : Int32).toInt = 1 := rfl
      omega
theorem cd1 (a : String) (hs : List String) : cdL (a :: hs) 1 a = 1 := if_pos rfl
theorem cd2 {a b : String} (h : b ≠ a) (hs : List String) : cdL (a :: b :: hs) 1 b = 2 := by
  unfold cdL
  rw [if_neg h]
  unfold cdL
  rw [if_pos rfl]
  rfl
theorem cd3 {a b c : String} (h : c ≠ a) (h' : c ≠ b) (hs : List String) : cdL (a :: b :: c :: hs) 1 c = 3 := by
  unfold cdL
  rw [if_neg h]
  unfold cdL
  rw [if_neg h']
  unfold cdL
  rw [if_pos rfl]
  rfl
theorem ne_SA : xIS ≠ xIA := by simp [xIS, xIA]
theorem ne_SO : xIS ≠ xIO := by simp [xIS, xIO]
theorem ne_AO : xIA ≠ xIO := by simp [xIA, xIO]
theorem ne_NA : xNS ≠ xIA := by simp [xNS, xIA]
theorem sf6 (τ : St) (v : Int32) : sf τ 6 v 6 0 = v := by rw [sf_ap, if_pos rfl]
def DP (x : Nat) : Nat → Nat → Prop := fun j w => j = x ∧ (w = 4 ∨ w = 7)
def DR (x : Nat) : Nat → Nat → Prop := fun j w => j = x ∧ w = 7
theorem JR_c {c : Nat} {D D' : Nat → Nat → Prop} {m E : Nat} {σ : St} {a : Nat → Int32} {j : Nat} (hj : j ≠ c) (hD : ∀ w, D j w → D' j w) (h : JR c D m E σ a j) : JR (c + 1) D' m E σ a j :=
  ⟨fun w hw hd => h.1 w hw (fun e => hd (hD w e)), fun q => h.2.1 (by omega), fun q p => h.2.2.1 (by omega) p, fun q => h.2.2.2 (fun p => q ⟨by omega, p.2⟩)⟩
def apS (σ : St) (c : Nat) (x1 x2 x3 x4 x5 : Int32) : St := sf (st (st (st (st (st (st (st (st (st (st (st (st σ 4 c x1) 5 c x2) 6 c x3) 7 c x4) 8 c 0) 9 c x4) 10 c x5) 11 c (-1)) 12 c (-1)) 13 c (-1)) 14 c 0) 15 c 0) 16 (nI (c + 1))
def apR (τ : St) (c : Nat) (x1 x2 x3 x4 x5 : Int32) : St := st (st (st (st (st (st (st (st (st (st (st (st τ 0 (5 + 14 * c + 0) x1) 0 (5 + 14 * c + 1) x2) 0 (5 + 14 * c + 2) x3) 0 (5 + 14 * c + 3) x4) 0 (5 + 14 * c + 9) x4) 0 (5 + 14 * c + 4) 4) 0 (5 + 14 * c + 8) x5) 0 (5 + 14 * c + 10) (-1)) 0 (5 + 14 * c + 11) 0) 0 (5 + 14 * c + 12) (-1)) 0 (5 + 14 * c + 13) 0) 0 1 (nI (c + 1))
theorem append_eq (n : Nat) {σ : St} {c : Nat} (hc : c < 24) (h16 : σ 16 0 = nI c) (x1 x2 x3 x4 x5 : Int32) : fX2_append n σ x1 x2 x3 x4 x5 = some (nI c, apS σ c x1 x2 x3 x4 x5) := by
  unfold fX2_append
  rw [h16]
  simp only [wr_st _ _ _ hc (show 24 < 2 ^ 31 by decide), sb, wf_sf]
  simp only [st_ap]
  simp [h16, nI_1, apS]
theorem ap_lo (σ : St) (c : Nat) (x1 x2 x3 x4 x5 : Int32) {k : Nat} (h : k < 4 ∨ 16 < k) : apS σ c x1 x2 x3 x4 x5 k = σ k := by
  unfold apS
  rw [sf_row _ (by omega), st_row _ (by omega), st_row _ (by omega), st_row _ (by omega), st_row _ (by omega), st_row _ (by omega), st_row _ (by omega), st_row _ (by omega), st_row _ (by omega), st_row _ (by omega), st_row _ (by omega), st_row _ (by omega), st_row _ (by omega)]
theorem ap_ne (σ : St) (c : Nat) (x1 x2 x3 x4 x5 : Int32) {k j : Nat} (hk : k ≠ 16) (h : j ≠ c) : apS σ c x1 x2 x3 x4 x5 k j = σ k j := by
  unfold apS
  rw [sf_row _ hk, st_ne _ h, st_ne _ h, st_ne _ h, st_ne _ h, st_ne _ h, st_ne _ h, st_ne _ h, st_ne _ h, st_ne _ h, st_ne _ h, st_ne _ h, st_ne _ h]
theorem apR_ne (τ : St) {c : Nat} (x1 x2 x3 x4 x5 : Int32) {i : Nat} (h : i < 5 + 14 * c ∨ 5 + 14 * c + 14 ≤ i) (h1 : i ≠ 1) : apR τ c x1 x2 x3 x4 x5 0 i = τ 0 i := by
  unfold apR
  rw [st_ne _ h1, st_ne _ (by omega), st_ne _ (by omega), st_ne _ (by omega), st_ne _ (by omega), st_ne _ (by omega), st_ne _ (by omega), st_ne _ (by omega), st_ne _ (by omega), st_ne _ (by omega), st_ne _ (by omega), st_ne _ (by omega)]
theorem apR_row (τ : St) {c : Nat} (x1 x2 x3 x4 x5 : Int32) {k : Nat} (h : k ≠ 0) : apR τ c x1 x2 x3 x4 x5 k = τ k := by
  unfold apR
  rw [st_row _ h, st_row _ h, st_row _ h, st_row _ h, st_row _ h, st_row _ h, st_row _ h, st_row _ h, st_row _ h, st_row _ h, st_row _ h, st_row _ h]
theorem append_lk {β : St} {c r m E : Nat} {σ τ : St} (h : RX β c r DN m E σ τ) (hc : c < 24) {u o e t : Nat} (hu : u < 4) (ho : o < 6) (he : e ≤ 40) (ht : 1 ≤ t) (ht' : t ≤ 40) : RX β (c + 1) r (DP c) m E (apS σ c (nI u) (nI o) (nI e) (nI t) (τ 0 0)) (apR τ c (nI u) (nI o) (nI e) (nI t) (τ 0 0)) := by
  obtain ⟨⟨k1, k4, k5, k6⟩, hQ, hG, hJ, hR, hL, hB⟩ := h
  obtain ⟨q1, q2, q3, q4, q5, q6, q7, q8, q9, q10⟩ := hG
  refine ⟨⟨?_, ?_, ?_, ?_⟩, ?_, ⟨by omega, q2, ?_, ?_, ?_, ?_, ?_, ?_, ?_, ?_⟩, fun j hj => ?_, fun q hq => RR_congr (fun i hi => by rw [ap_lo _ _ _ _ _ _ _ (by omega)]) (fun w hw => apR_ne _ _ _ _ _ _ (by omega) (by omega)) (hR q hq), RL_congr (fun k h1 h2 => ap_lo _ _ _ _ _ _ _ (by omega)) (apR_ne _ _ _ _ _ _ (by omega) (by omega)) (fun i h1 h2 => apR_ne _ _ _ _ _ _ (by omega) (by omega)) hL, RB_congr (fun k hk => by rw [ap_lo _ _ _ _ _ _ _ (by omega)]) (fun i h1 h2 => apR_ne _ _ _ _ _ _ (by omega) (by omega)) hB⟩
  · rw [apR_row _ _ _ _ _ _ (by decide)]; exact k1
  · rw [apR_row _ _ _ _ _ _ (by decide)]; exact k4
  · rw [apR_row _ _ _ _ _ _ (by decide)]; exact k5
  · rw [apR_row _ _ _ _ _ _ (by decide)]; exact k6
  · intro i hi
    rw [apR_row _ _ _ _ _ _ (by decide), ap_lo _ _ _ _ _ _ _ (by omega)]
    exact hQ i hi
  · unfold apS; rw [sf_ap, if_pos rfl]
  · unfold apR; rw [st_eq]
  · rw [ap_lo _ _ _ _ _ _ _ (by omega)]; exact q5
  · rw [apR_ne _ _ _ _ _ _ (by omega) (by omega)]; exact q6
  · rw [ap_lo _ _ _ _ _ _ _ (by omega), apR_ne _ _ _ _ _ _ (by omega) (by omega)]; exact q7
  · rw [apR_ne _ _ _ _ _ _ (by omega) (by omega)]; exact q8
  · rw [ap_lo _ _ _ _ _ _ _ (by omega), apR_ne _ _ _ _ _ _ (by omega) (by omega)]; exact q9
  · rw [apR_ne _ _ _ _ _ _ (by omega) (by omega)]; exact q10
  · by_cases z : j = c
    · subst z
      obtain ⟨hF, hV, hA, hN⟩ := hJ j hj
      have hF5 : τ 0 (5 + 14 * j + 5) = σ 1 j := hF 5 (by decide) id
      have hF6 : τ 0 (5 + 14 * j + 6) = σ 2 j := hF 6 (by decide) id
      have h4 : apR τ j (nI u) (nI o) (nI e) (nI t) (τ 0 0) 0 (5 + 14 * j + 4) = 4 := by
        simp [apR, st_ap]
      refine ⟨?_, fun _ => ?_, fun _ q => ?_, fun _ => ?_⟩
      · refine w14 ?_ ?_ ?_ ?_ (fun q => absurd ⟨rfl, Or.inl rfl⟩ q) ?_ ?_ (fun q => absurd ⟨rfl, Or.inr rfl⟩ q) ?_ ?_ ?_ ?_ ?_ ?_
        all_goals (intro _; simp [apR, apS, st_ap, sf_ap, cm, hF5, hF6]; try (intro h; exact absurd h (by omega)))
      · refine ⟨⟨u, hu, by simp [apS, sf_ap, st_ap]⟩, ⟨o, ho, by simp [apS, sf_ap, st_ap]⟩, ?_, ⟨0, by decide, by simp [apS, sf_ap, st_ap]; rfl⟩, Or.inl (by simp [apS, sf_ap, st_ap]), ?_, ?_⟩
        · rw [show apS σ j (nI u) (nI o) (nI e) (nI t) (τ 0 0) 6 j = nI e by simp [apS, sf_ap, st_ap], nI_toInt (by omega)]
          omega
        · rw [show apS σ j (nI u) (nI o) (nI e) (nI t) (τ 0 0) 9 j = nI t by simp [apS, sf_ap, st_ap], lt_int, nI_toInt (by omega), one_int]
          omega
        · rw [show apS σ j (nI u) (nI o) (nI e) (nI t) (τ 0 0) 8 j = 0 by simp [apS, sf_ap, st_ap]]
          intro z; cases z
      · rw [h4] at q
        exact absurd (by decide) q
      · rw [ap_lo _ _ _ _ _ _ _ (by omega)]
        exact hN (fun z => absurd z.1 (by omega))
    · refine JR_c z (fun w d => d.elim) (JR_congr (fun i hi => ap_ne _ _ _ _ _ _ _ (by omega) z) ?_ (fun w hw => apR_ne _ _ _ _ _ _ (by omega) (by omega)) (hJ j hj))
      rw [ap_lo _ _ _ _ _ _ _ (by omega)]
