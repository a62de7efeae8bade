set_option maxHeartbeats 4000000 in
set_option maxRecDepth 100000 in
theorem mL_submit (l : Launch) (hT : l.stackTraces = false) (D : va_G) (cy cl cd : ClassId) (h : Nat → Nat) (kp : Nat) (ao : Nat) (sz n : Nat) (σ : St) (f : Nat → Int64) (x1 : Int32) (x2 : Int32) (x3 : Int32) (x4 : Int32) {o : XRg Int32} (hf : fX4_submit n σ x1 x2 x3 x4 = some o) (hE : ∀ E u, o = .inl (E, u) → E = xIA ∨ E = xIS) : Met l yL_submit (Cond.codeWith yL_submit cL_submit 7 (some .int) [(0, 14, 17, 13), (0, 14, 21, 15)] :: wA) { frames := 7, cells := 1, slots := 6, locals := 144 } (KPL D cy cl cd ((ao, .inl (cl, 1, .inr (.inl f))) :: wB cy h kp σ) sz [.ref (h 104), .int x1, .int x2, .int x3, .int x4, .ref ao]) (va_Qi (fun (r' : Int32) (_ : Unit) => r' = wcd [xIA, xIS] o) (fun _ => KB D (va_A ((ao, .inl (cl, 1, .inr (.inl f))) :: wB cy h kp σ) sz) ((ao, .inl (cl, 1, .inr (.inl (woL o f)))) :: wB cy h kp (wst o))) (va_A ((ao, .inl (cl, 1, .inr (.inl f))) :: wB cy h kp σ) sz)) 1 6 (va_A ((ao, .inl (cl, 1, .inr (.inl f))) :: wB cy h kp σ) sz) := by
  refine va_MetW (cc := cL_submit) (maxL := 7) (ret := (some .int)) (hh := [(0, 14, 17, 13), (0, 14, 21, 15)]) (by decide) rfl ?_
  intro p e s m args below meth c s₁ B hml hv
  obtain ⟨rfl, hsz, hP, hKL, hD0, hX⟩ := hv
  subst hsz
  have hts := atoms_spec (ws := Cond.codeWith yL_submit cL_submit 7 (some .int) [(0, 14, 17, 13), (0, 14, 21, 15)] :: wA) B.pre
  have htab := vx_table (x := yL_submit) B (hts _ List.mem_cons_self)
  have G : CallFix p m c cL_submit 7 s _ wA RL := ⟨B.exec, B.bytes, hml, findClass_of_methodNamed B.named, fun w h => hts w (List.mem_cons_of_mem _ h)⟩
  have hr := B.returns
  have hlk := B.notSynchronized
  have hK := hKL.KK
  have hW : KW D (va_A ((ao, .inl (cl, 1, .inr (.inl f))) :: wB cy h kp σ) s.heap.size) s.heap ((ao, .inl (cl, 1, .inr (.inl f))) :: wB cy h kp σ) s.heap [] := ⟨hP, hD0.self, va_S.rf⟩
  have hA : ∀ q, s.heap.size ≤ q → va_A ((ao, .inl (cl, 1, .inr (.inl f))) :: wB cy h kp σ) s.heap.size q := fun q h => Or.inr h
  have hl := lv_entry ([.ref (h 104), .int x1, .int x2, .int x3, .int x4, .ref ao]) (n := 7) (Nat.le_of_ble_eq_true rfl)
  rw [lg_entry_eq]
  generalize (lg_sl ([.ref (h 104), .int x1, .int x2, .int x3, .int x4, .ref ao]) ++ List.replicate (7 - (lg_sl ([.ref (h 104), .int x1, .int x2, .int x3, .int x4, .ref ao])).length) Slot.unset).toArray = ls at hl ⊢
  have hl : lv_has ls 7 [(0, .ref (h 104)), (1, .int x1), (2, .int x2), (3, .int x3), (4, .int x4), (5, .ref ao)] := hl
  refine lv_aload G.1 G.2.1 dL_submit_0 (lv_at hl 5 rfl) ?_
  refine lv_iconst (v := (0 : Int32)) G.1 G.2.1 dL_submit_2 (by decide) ?_
  refine lv_aload_n G.1 G.2.1 dL_submit_3 rfl (lv_at hl 0 rfl) ?_
  refine lv_iload_n G.1 G.2.1 dL_submit_4 rfl (lv_at hl 1 rfl) ?_
  refine lv_iload_n G.1 G.2.1 dL_submit_5 rfl (lv_at hl 2 rfl) ?_
  refine lv_iload_n G.1 G.2.1 dL_submit_6 rfl (lv_at hl 3 rfl) ?_
  refine lv_iload G.1 G.2.1 dL_submit_7 (lv_at hl 4 rfl) ?_
  refine kxl_i (w := wB cy h kp) (wr := [(ao, .inl (cl, 1, .inr (.inl f)))]) (rest := [.int (0 : Int32), .ref ao]) (n := 4) (As := [.int x1, .int x2, .int x3, .int x4]) (C := RX4) G hK hX hA hW (mX4_submit l hT D cy h kp _ n σ x1 x2 x3 x4 hf) (gV q_4_16 q_4_17 q_4_18 q_1_2 q_4_19) ⟨rfl, rfl⟩ (by decide +kernel) ⟨Nat.le_of_ble_eq_true rfl, Nat.le_of_ble_eq_true rfl⟩ (va_recv hK.1 hW.1 (ci := 6) (q0 := 1) rfl rfl) rfl hl.1 rfl (Nat.le_of_ble_eq_true rfl) dL_submit_9 ⟨Nat.le_of_ble_eq_true rfl, Nat.le_of_ble_eq_true rfl⟩ (fun E u ce q9 H locs ho hW hc1 hv1 hcl => ?_) (fun v u H locs ho hW => ?_)
  · subst ho
    rcases hE E u rfl with rfl | rfl
    · refine vx_catch (own := RL) (name := xIA) G.2.2.2.1 [] ⟨0, 14, 17, 13⟩ [⟨0, 14, 21, 15⟩] htab (fun z hz => nomatch hz) rfl (by decide) (G.2.2.2.2 _ q_4_14) (va_Nw.use rfl (hX.1.1 (41, xIA) (List.mem_of_getElem? (i := 0) rfl))) hc1 hv1 hcl ?_
      refine lv_astore (lv' := [(6, .ref q9), (0, .ref (h 104)), (1, .int x1), (2, .int x2), (3, .int x3), (4, .int x4), (5, .ref ao)]) G.1 G.2.1 dL_submit_17 hl (by decide) rfl (fun ls hl => ?_)
      refine lv_iconst (v := (1 : Int32)) G.1 G.2.1 dL_submit_19 (by decide) ?_
      exact k_lret G hr hlk hW (show (1 : Int32) = cdL [xIA, xIS] 1 xIA by decide +kernel) rfl dL_submit_20
    · refine vx_catch (own := RL) (name := xIS) G.2.2.2.1 [⟨0, 14, 17, 13⟩] ⟨0, 14, 21, 15⟩ [] htab (fun z hz => by
        simp only [List.mem_cons, List.not_mem_nil, or_false] at hz
        subst hz
        exact Or.inr ⟨by decide, xIA, G.2.2.2.2 _ q_4_14, hKL.2.2.1⟩) rfl (by decide) (G.2.2.2.2 _ q_4_15) (va_Nw.use rfl (hX.1.1 (57, xIS) (List.mem_of_getElem? (i := 1) rfl))) hc1 hv1 hcl ?_
      refine lv_astore (lv' := [(6, .ref q9), (0, .ref (h 104)), (1, .int x1), (2, .int x2), (3, .int x3), (4, .int x4), (5, .ref ao)]) G.1 G.2.1 dL_submit_21 hl (by decide) rfl (fun ls hl => ?_)
      refine lv_iconst (v := (2 : Int32)) G.1 G.2.1 dL_submit_23 (by decide) ?_
      exact k_lret G hr hlk hW (show (2 : Int32) = cdL [xIA, xIS] 1 xIS by decide +kernel) rfl dL_submit_24
  · subst ho
    refine lv_i2l (v := v.toInt64) G.1 G.2.1 dL_submit_12 rfl ?_
    refine va_last G.1 G.2.1 hKL.1 hW.1 hW.2.1 hW.2.2 0 1 rfl rfl k_in01 dL_submit_13 (fun H locs hP hD hS => ?_)
    have hW9 : KW D (va_A ((ao, .inl (cl, 1, .inr (.inl f))) :: wB cy h kp σ) s.heap.size) s.heap ((ao, .inl (cl, 1, .inr (.inl (woL (.inr (v, u)) f)))) :: wB cy h kp u) H locs := ⟨hP, hD, hS⟩
    refine lv_goto (tgt := 25) G.1 G.2.1 dL_submit_14 (by decide) ?_
    refine lv_iconst (v := (0 : Int32)) G.1 G.2.1 dL_submit_25 (by decide) ?_
    exact k_lret G hr hlk hW9 rfl rfl dL_submit_26
set_option maxHeartbeats 4000000 in
set_option maxRecDepth 100000 in
theorem mL_advance (l : Launch) (hT : l.stackTraces = false) (D : va_G) (cy cl cd : ClassId) (h : Nat → Nat) (kp : Nat) (ao : Nat) (sz n : Nat) (σ : St) (f : Nat → Int64) (x1 : Int32) {o : XRg Int32} (hf : fX4_advance n σ x1 = some o) (hE : ∀ E u, o = .inl (E, u) → E = xIA ∨ E = xIS) : Met l yL_advance (Cond.codeWith yL_advance cL_advance 4 (some .int) [(0, 9, 12, 13), (0, 9, 15, 15)] :: wA) { frames := 7, cells := 1, slots := 6, locals := 163 } (KPL D cy cl cd ((ao, .inl (cl, 1, .inr (.inl f))) :: wB cy h kp σ) sz [.ref (h 104), .int x1, .ref ao]) (va_Qi (fun (r' : Int32) (_ : Unit) => r' = wcd [xIA, xIS] o) (fun _ => KB D (va_A ((ao, .inl (cl, 1, .inr (.inl f))) :: wB cy h kp σ) sz) ((ao, .inl (cl, 1, .inr (.inl (woL o f)))) :: wB cy h kp (wst o))) (va_A ((ao, .inl (cl, 1, .inr (.inl f))) :: wB cy h kp σ) sz)) 1 6 (va_A ((ao, .inl (cl, 1, .inr (.inl f))) :: wB cy h kp σ) sz) := by
  refine va_MetW (cc := cL_advance) (maxL := 4) (ret := (some .int)) (hh := [(0, 9, 12, 13), (0, 9, 15, 15)]) (by decide) rfl ?_
  intro p e s m args below meth c s₁ B hml hv
  obtain ⟨rfl, hsz, hP, hKL, hD0, hX⟩ := hv
  subst hsz
  have hts := atoms_spec (ws := Cond.codeWith yL_advance cL_advance 4 (some .int) [(0, 9, 12, 13), (0, 9, 15, 15)] :: wA) B.pre
  have htab := vx_table (x := yL_advance) B (hts _ List.mem_cons_self)
  have G : CallFix p m c cL_advance 4 s _ wA RL := ⟨B.exec, B.bytes, hml, findClass_of_methodNamed B.named, fun w h => hts w (List.mem_cons_of_mem _ h)⟩
  have hr := B.returns
  have hlk := B.notSynchronized
  have hK := hKL.KK
  have hW : KW D (va_A ((ao, .inl (cl, 1, .inr (.inl f))) :: wB cy h kp σ) s.heap.size) s.heap ((ao, .inl (cl, 1, .inr (.inl f))) :: wB cy h kp σ) s.heap [] := ⟨hP, hD0.self, va_S.rf⟩
  have hA : ∀ q, s.heap.size ≤ q → va_A ((ao, .inl (cl, 1, .inr (.inl f))) :: wB cy h kp σ) s.heap.size q := fun q h => Or.inr h
  have hl := lv_entry ([.ref (h 104), .int x1, .ref ao]) (n := 4) (Nat.le_of_ble_eq_true rfl)
  rw [lg_entry_eq]
  generalize (lg_sl ([.ref (h 104), .int x1, .ref ao]) ++ List.replicate (4 - (lg_sl ([.ref (h 104), .int x1, .ref ao])).length) Slot.unset).toArray = ls at hl ⊢
  have hl : lv_has ls 4 [(0, .ref (h 104)), (1, .int x1), (2, .ref ao)] := hl
  refine lv_aload_n G.1 G.2.1 dL_advance_0 rfl (lv_at hl 2 rfl) ?_
  refine lv_iconst (v := (0 : Int32)) G.1 G.2.1 dL_advance_1 (by decide) ?_
  refine lv_aload_n G.1 G.2.1 dL_advance_2 rfl (lv_at hl 0 rfl) ?_
  refine lv_iload_n G.1 G.2.1 dL_advance_3 rfl (lv_at hl 1 rfl) ?_
  refine kxl_i (w := wB cy h kp) (wr := [(ao, .inl (cl, 1, .inr (.inl f)))]) (rest := [.int (0 : Int32), .ref ao]) (n := 1) (As := [.int x1]) (C := RX4) G hK hX hA hW (mX4_advance l hT D cy h kp _ n σ x1 hf) (gV q_10_16 q_10_17 q_10_18 q_1_2 q_10_19) ⟨rfl, rfl⟩ (by decide +kernel) ⟨Nat.le_of_ble_eq_true rfl, Nat.le_of_ble_eq_true rfl⟩ (va_recv hK.1 hW.1 (ci := 6) (q0 := 1) rfl rfl) rfl hl.1 rfl (Nat.le_of_ble_eq_true rfl) dL_advance_4 ⟨Nat.le_of_ble_eq_true rfl, Nat.le_of_ble_eq_true rfl⟩ (fun E u ce q9 H locs ho hW hc1 hv1 hcl => ?_) (fun v u H locs ho hW => ?_)
  · subst ho
    rcases hE E u rfl with rfl | rfl
    · refine vx_catch (own := RL) (name := xIA) G.2.2.2.1 [] ⟨0, 9, 12, 13⟩ [⟨0, 9, 15, 15⟩] htab (fun z hz => nomatch hz) rfl (by decide) (G.2.2.2.2 _ q_4_14) (va_Nw.use rfl (hX.1.1 (41, xIA) (List.mem_of_getElem? (i := 0) rfl))) hc1 hv1 hcl ?_
      refine lv_astore_n (lv' := [(3, .ref q9), (0, .ref (h 104)), (1, .int x1), (2, .ref ao)]) G.1 G.2.1 dL_advance_12 rfl hl (by decide) rfl (fun ls hl => ?_)
      refine lv_iconst (v := (1 : Int32)) G.1 G.2.1 dL_advance_13 (by decide) ?_
      exact k_lret G hr hlk hW (show (1 : Int32) = cdL [xIA, xIS] 1 xIA by decide +kernel) rfl dL_advance_14
    · refine vx_catch (own := RL) (name := xIS) G.2.2.2.1 [⟨0, 9, 12, 13⟩] ⟨0, 9, 15, 15⟩ [] htab (fun z hz => by
        simp only [List.mem_cons, List.not_mem_nil, or_false] at hz
        subst hz
        exact Or.inr ⟨by decide, xIA, G.2.2.2.2 _ q_4_14, hKL.2.2.1⟩) rfl (by decide) (G.2.2.2.2 _ q_4_15) (va_Nw.use rfl (hX.1.1 (57, xIS) (List.mem_of_getElem? (i := 1) rfl))) hc1 hv1 hcl ?_
      refine lv_astore_n (lv' := [(3, .ref q9), (0, .ref (h 104)), (1, .int x1), (2, .ref ao)]) G.1 G.2.1 dL_advance_15 rfl hl (by decide) rfl (fun ls hl => ?_)
      refine lv_iconst (v := (2 : Int32)) G.1 G.2.1 dL_advance_16 (by decide) ?_
      exact k_lret G hr hlk hW (show (2 : Int32) = cdL [xIA, xIS] 1 xIS by decide +kernel) rfl dL_advance_17
  · subst ho
    refine lv_i2l (v := v.toInt64) G.1 G.2.1 dL_advance_7 rfl ?_
    refine va_last G.1 G.2.1 hKL.1 hW.1 hW.2.1 hW.2.2 0 1 rfl rfl k_in01 dL_advance_8 (fun H locs hP hD hS => ?_)
    have hW9 : KW D (va_A ((ao, .inl (cl, 1, .inr (.inl f))) :: wB cy h kp σ) s.heap.size) s.heap ((ao, .inl (cl, 1, .inr (.inl (woL (.inr (v, u)) f)))) :: wB cy h kp u) H locs := ⟨hP, hD, hS⟩
    refine lv_goto (tgt := 18) G.1 G.2.1 dL_advance_9 (by decide) ?_
    refine lv_iconst (v := (0 : Int32)) G.1 G.2.1 dL_advance_18 (by decide) ?_
    exact k_lret G hr hlk hW9 rfl rfl dL_advance_19
set_option maxHeartbeats 4000000 in
set_option maxRecDepth 100000 in
theorem mL_cancel (l : Launch) (hT : l.stackTraces = false) (D : va_G) (cy cl cd : ClassId) (h : Nat → Nat) (kp : Nat) (ao : Nat) (sz n : Nat) (σ : St) (f : Nat → Int64) (x1 : Int32) {o : XRg Int32} (hf : fX4_cancel n σ x1 = some o) (hE : ∀ E u, o = .inl (E, u) → E = xIO ∨ E = xIS) : Met l yL_cancel (Cond.codeWith yL_cancel cL_cancel 4 (some .int) [(0, 9, 12, 24), (0, 9, 15, 15)] :: wA) { frames := 8, cells := 2, slots := 12, locals := 162 } (KPL D cy cl cd ((ao, .inl (cl, 1, .inr (.inl f))) :: wB cy h kp σ) sz [.ref (h 104), .int x1, .ref ao]) (va_Qi (fun (r' : Int32) (_ : Unit) => r' = wcd [xIO, xIS] o) (fun _ => KB D (va_A ((ao, .inl (cl, 1, .inr (.inl f))) :: wB cy h kp σ) sz) ((ao, .inl (cl, 1, .inr (.inl (woL o f)))) :: wB cy h kp (wst o))) (va_A ((ao, .inl (cl, 1, .inr (.inl f))) :: wB cy h kp σ) sz)) 2 12 (va_A ((ao, .inl (cl, 1, .inr (.inl f))) :: wB cy h kp σ) sz) := by
  refine va_MetW (cc := cL_cancel) (maxL := 4) (ret := (some .int)) (hh := [(0, 9, 12, 24), (0, 9, 15, 15)]) (by decide) rfl ?_
  intro p e s m args below meth c s₁ B hml hv
  obtain ⟨rfl, hsz, hP, hKL, hD0, hX⟩ := hv
  subst hsz
  have hts := atoms_spec (ws := Cond.codeWith yL_cancel cL_cancel 4 (some .int) [(0, 9, 12, 24), (0, 9, 15, 15)] :: wA) B.pre
  have htab := vx_table (x := yL_cancel) B (hts _ List.mem_cons_self)
  have G : CallFix p m c cL_cancel 4 s _ wA RL := ⟨B.exec, B.bytes, hml, findClass_of_methodNamed B.named, fun w h => hts w (List.mem_cons_of_mem _ h)⟩
  have hr := B.returns
  have hlk := B.notSynchronized
  have hK := hKL.KK
  have hW : KW D (va_A ((ao, .inl (cl, 1, .inr (.inl f))) :: wB cy h kp σ) s.heap.size) s.heap ((ao, .inl (cl, 1, .inr (.inl f))) :: wB cy h kp σ) s.heap [] := ⟨hP, hD0.self, va_S.rf⟩
  have hA : ∀ q, s.heap.size ≤ q → va_A ((ao, .inl (cl, 1, .inr (.inl f))) :: wB cy h kp σ) s.heap.size q := fun q h => Or.inr h
  have hl := lv_entry ([.ref (h 104), .int x1, .ref ao]) (n := 4) (Nat.le_of_ble_eq_true rfl)
  rw [lg_entry_eq]
  generalize (lg_sl ([.ref (h 104), .int x1, .ref ao]) ++ List.replicate (4 - (lg_sl ([.ref (h 104), .int x1, .ref ao])).length) Slot.unset).toArray = ls at hl ⊢
  have hl : lv_has ls 4 [(0, .ref (h 104)), (1, .int x1), (2, .ref ao)] := hl
  refine lv_aload_n G.1 G.2.1 dL_cancel_0 rfl (lv_at hl 2 rfl) ?_
  refine lv_iconst (v := (0 : Int32)) G.1 G.2.1 dL_cancel_1 (by decide) ?_
  refine lv_aload_n G.1 G.2.1 dL_cancel_2 rfl (lv_at hl 0 rfl) ?_
  refine lv_iload_n G.1 G.2.1 dL_cancel_3 rfl (lv_at hl 1 rfl) ?_
  refine kxl_i (w := wB cy h kp) (wr := [(ao, .inl (cl, 1, .inr (.inl f)))]) (rest := [.int (0 : Int32), .ref ao]) (n := 1) (As := [.int x1]) (C := RX4) G hK hX hA hW (mX4_cancel l hT D cy h kp _ n σ x1 hf) (gV q_13_21 q_13_22 q_13_23 q_1_2 q_14_0) ⟨rfl, rfl⟩ (by decide +kernel) ⟨Nat.le_of_ble_eq_true rfl, Nat.le_of_ble_eq_true rfl⟩ (va_recv hK.1 hW.1 (ci := 6) (q0 := 1) rfl rfl) rfl hl.1 rfl (Nat.le_of_ble_eq_true rfl) dL_cancel_4 ⟨Nat.le_of_ble_eq_true rfl, Nat.le_of_ble_eq_true rfl⟩ (fun E u ce q9 H locs ho hW hc1 hv1 hcl => ?_) (fun v u H locs ho hW => ?_)
  · subst ho
    rcases hE E u rfl with rfl | rfl
    · refine vx_catch (own := RL) (name := xIO) G.2.2.2.1 [] ⟨0, 9, 12, 24⟩ [⟨0, 9, 15, 15⟩] htab (fun z hz => nomatch hz) rfl (by decide) (G.2.2.2.2 _ q_13_20) (va_Nw.use rfl (hX.1.1 (165, xIO) (List.mem_of_getElem? (i := 2) rfl))) hc1 hv1 hcl ?_
      refine lv_astore_n (lv' := [(3, .ref q9), (0, .ref (h 104)), (1, .int x1), (2, .ref ao)]) G.1 G.2.1 dL_cancel_12 rfl hl (by decide) rfl (fun ls hl => ?_)
      refine lv_iconst (v := (1 : Int32)) G.1 G.2.1 dL_cancel_13 (by decide) ?_
      exact k_lret G hr hlk hW (show (1 : Int32) = cdL [xIO, xIS] 1 xIO by decide +kernel) rfl dL_cancel_14
    · refine vx_catch (own := RL) (name := xIS) G.2.2.2.1 [⟨0, 9, 12, 24⟩] ⟨0, 9, 15, 15⟩ [] htab (fun z hz => by
        simp only [List.mem_cons, List.not_mem_nil, or_false] at hz
        subst hz
        exact Or.inr ⟨by decide, xIO, G.2.2.2.2 _ q_13_20, hKL.2.2.2.1⟩) rfl (by decide) (G.2.2.2.2 _ q_4_15) (va_Nw.use rfl (hX.1.1 (57, xIS) (List.mem_of_getElem? (i := 1) rfl))) hc1 hv1 hcl ?_
      refine lv_astore_n (lv' := [(3, .ref q9), (0, .ref (h 104)), (1, .int x1), (2, .ref ao)]) G.1 G.2.1 dL_cancel_15 rfl hl (by decide) rfl (fun ls hl => ?_)
      refine lv_iconst (v := (2 : Int32)) G.1 G.2.1 dL_cancel_16 (by decide) ?_
      exact k_lret G hr hlk hW (show (2 : Int32) = cdL [xIO, xIS] 1 xIS by decide +kernel) rfl dL_cancel_17
  · subst ho
    refine lv_i2l (v := v.toInt64) G.1 G.2.1 dL_cancel_7 rfl ?_
    refine va_last G.1 G.2.1 hKL.1 hW.1 hW.2.1 hW.2.2 0 1 rfl rfl k_in01 dL_cancel_8 (fun H locs hP hD hS => ?_)
    have hW9 : KW D (va_A ((ao, .inl (cl, 1, .inr (.inl f))) :: wB cy h kp σ) s.heap.size) s.heap ((ao, .inl (cl, 1, .inr (.inl (woL (.inr (v, u)) f)))) :: wB cy h kp u) H locs := ⟨hP, hD, hS⟩
    refine lv_goto (tgt := 18) G.1 G.2.1 dL_cancel_9 (by decide) ?_
    refine lv_iconst (v := (0 : Int32)) G.1 G.2.1 dL_cancel_18 (by decide) ?_
    exact k_lret G hr hlk hW9 rfl rfl dL_cancel_19
set_option maxHeartbeats 4000000 in
set_option maxRecDepth 100000 in
theorem mL_preempt (l : Launch) (hT : l.stackTraces = false) (D : va_G) (cy cl cd : ClassId) (h : Nat → Nat) (kp : Nat) (ao : Nat) (sz n : Nat) (σ : St) (f : Nat → Int64) (x1 : Int32) (x2 : Int32) {o : XRg Int32} (hf : fX4_preempt n σ x1 x2 = some o) (hE : ∀ E u, o = .inl (E, u) → E = xIO ∨ E = xIA ∨ E = xIS) : Met l yL_preempt (Cond.codeWith yL_preempt cL_preempt 5 (some .int) [(0, 10, 13, 24), (0, 10, 17, 13), (0, 10, 21, 15)] :: wA) { frames := 8, cells := 2, slots := 12, locals := 165 } (KPL D cy cl cd ((ao, .inl (cl, 1, .inr (.inl f))) :: wB cy h kp σ) sz [.ref (h 104), .int x1, .int x2, .ref ao]) (va_Qi (fun (r' : Int32) (_ : Unit) => r' = wcd [xIO, xIA, xIS] o) (fun _ => KB D (va_A ((ao, .inl (cl, 1, .inr (.inl f))) :: wB cy h kp σ) sz) ((ao, .inl (cl, 1, .inr (.inl (woL o f)))) :: wB cy h kp (wst o))) (va_A ((ao, .inl (cl, 1, .inr (.inl f))) :: wB cy h kp σ) sz)) 2 12 (va_A ((ao, .inl (cl, 1, .inr (.inl f))) :: wB cy h kp σ) sz) := by
  refine va_MetW (cc := cL_preempt) (maxL := 5) (ret := (some .int)) (hh := [(0, 10, 13, 24), (0, 10, 17, 13), (0, 10, 21, 15)]) (by decide) rfl ?_
  intro p e s m args below meth c s₁ B hml hv
  obtain ⟨rfl, hsz, hP, hKL, hD0, hX⟩ := hv
  subst hsz
  have hts := atoms_spec (ws := Cond.codeWith yL_preempt cL_preempt 5 (some .int) [(0, 10, 13, 24), (0, 10, 17, 13), (0, 10, 21, 15)] :: wA) B.pre
  have htab := vx_table (x := yL_preempt) B (hts _ List.mem_cons_self)
  have G : CallFix p m c cL_preempt 5 s _ wA RL := ⟨B.exec, B.bytes, hml, findClass_of_methodNamed B.named, fun w h => hts w (List.mem_cons_of_mem _ h)⟩
  have hr := B.returns
  have hlk := B.notSynchronized
  have hK := hKL.KK
  have hW : KW D (va_A ((ao, .inl (cl, 1, .inr (.inl f))) :: wB cy h kp σ) s.heap.size) s.heap ((ao, .inl (cl, 1, .inr (.inl f))) :: wB cy h kp σ) s.heap [] := ⟨hP, hD0.self, va_S.rf⟩
  have hA : ∀ q, s.heap.size ≤ q → va_A ((ao, .inl (cl, 1, .inr (.inl f))) :: wB cy h kp σ) s.heap.size q := fun q h => Or.inr h
  have hl := lv_entry ([.ref (h 104), .int x1, .int x2, .ref ao]) (n := 5) (Nat.le_of_ble_eq_true rfl)
  rw [lg_entry_eq]
  generalize (lg_sl ([.ref (h 104), .int x1, .int x2, .ref ao]) ++ List.replicate (5 - (lg_sl ([.ref (h 104), .int x1, .int x2, .ref ao])).length) Slot.unset).toArray = ls at hl ⊢
  have hl : lv_has ls 5 [(0, .ref (h 104)), (1, .int x1), (2, .int x2), (3, .ref ao)] := hl
  refine lv_aload_n G.1 G.2.1 dL_preempt_0 rfl (lv_at hl 3 rfl) ?_
  refine lv_iconst (v := (0 : Int32)) G.1 G.2.1 dL_preempt_1 (by decide) ?_
  refine lv_aload_n G.1 G.2.1 dL_preempt_2 rfl (lv_at hl 0 rfl) ?_
  refine lv_iload_n G.1 G.2.1 dL_preempt_3 rfl (lv_at hl 1 rfl) ?_
  refine lv_iload_n G.1 G.2.1 dL_preempt_4 rfl (lv_at hl 2 rfl) ?_
  refine kxl_i (w := wB cy h kp) (wr := [(ao, .inl (cl, 1, .inr (.inl f)))]) (rest := [.int (0 : Int32), .ref ao]) (n := 2) (As := [.int x1, .int x2]) (C := RX4) G hK hX hA hW (mX4_preempt l hT D cy h kp _ n σ x1 x2 hf) (gV q_15_3 q_15_4 q_15_5 q_1_2 q_15_6) ⟨rfl, rfl⟩ (by decide +kernel) ⟨Nat.le_of_ble_eq_true rfl, Nat.le_of_ble_eq_true rfl⟩ (va_recv hK.1 hW.1 (ci := 6) (q0 := 1) rfl rfl) rfl hl.1 rfl (Nat.le_of_ble_eq_true rfl) dL_preempt_5 ⟨Nat.le_of_ble_eq_true rfl, Nat.le_of_ble_eq_true rfl⟩ (fun E u ce q9 H locs ho hW hc1 hv1 hcl => ?_) (fun v u H locs ho hW => ?_)
  · subst ho
    rcases hE E u rfl with rfl | rfl | rfl
    · refine vx_catch (own := RL) (name := xIO) G.2.2.2.1 [] ⟨0, 10, 13, 24⟩ [⟨0, 10, 17, 13⟩, ⟨0, 10, 21, 15⟩] htab (fun z hz => nomatch hz) rfl (by decide) (G.2.2.2.2 _ q_13_20) (va_Nw.use rfl (hX.1.1 (165, xIO) (List.mem_of_getElem? (i := 2) rfl))) hc1 hv1 hcl ?_
      refine lv_astore (lv' := [(4, .ref q9), (0, .ref (h 104)), (1, .int x1), (2, .int x2), (3, .ref ao)]) G.1 G.2.1 dL_preempt_13 hl (by decide) rfl (fun ls hl => ?_)
      refine lv_iconst (v := (1 : Int32)) G.1 G.2.1 dL_preempt_15 (by decide) ?_
      exact k_lret G hr hlk hW (show (1 : Int32) = cdL [xIO, xIA, xIS] 1 xIO by decide +kernel) rfl dL_preempt_16
    · refine vx_catch (own := RL) (name := xIA) G.2.2.2.1 [⟨0, 10, 13, 24⟩] ⟨0, 10, 17, 13⟩ [⟨0, 10, 21, 15⟩] htab (fun z hz => by
        simp only [List.mem_cons, List.not_mem_nil, or_false] at hz
        subst hz
        exact Or.inr ⟨by decide, xIO, G.2.2.2.2 _ q_13_20, hKL.2.2.2.2.1⟩) rfl (by decide) (G.2.2.2.2 _ q_4_14) (va_Nw.use rfl (hX.1.1 (41, xIA) (List.mem_of_getElem? (i := 0) rfl))) hc1 hv1 hcl ?_
      refine lv_astore (lv' := [(4, .ref q9), (0, .ref (h 104)), (1, .int x1), (2, .int x2), (3, .ref ao)]) G.1 G.2.1 dL_preempt_17 hl (by decide) rfl (fun ls hl => ?_)
      refine lv_iconst (v := (2 : Int32)) G.1 G.2.1 dL_preempt_19 (by decide) ?_
      exact k_lret G hr hlk hW (show (2 : Int32) = cdL [xIO, xIA, xIS] 1 xIA by decide +kernel) rfl dL_preempt_20
    · refine vx_catch (own := RL) (name := xIS) G.2.2.2.1 [⟨0, 10, 13, 24⟩, ⟨0, 10, 17, 13⟩] ⟨0, 10, 21, 15⟩ [] htab (fun z hz => by
        simp only [List.mem_cons, List.not_mem_nil, or_false] at hz
        rcases hz with rfl | rfl
        · exact Or.inr ⟨by decide, xIO, G.2.2.2.2 _ q_13_20, hKL.2.2.2.1⟩
        · exact Or.inr ⟨by decide, xIA, G.2.2.2.2 _ q_4_14, hKL.2.2.1⟩) rfl (by decide) (G.2.2.2.2 _ q_4_15) (va_Nw.use rfl (hX.1.1 (57, xIS) (List.mem_of_getElem? (i := 1) rfl))) hc1 hv1 hcl ?_
      refine lv_astore (lv' := [(4, .ref q9), (0, .ref (h 104)), (1, .int x1), (2, .int x2), (3, .ref ao)]) G.1 G.2.1 dL_preempt_21 hl (by decide) rfl (fun ls hl => ?_)
      refine lv_iconst (v := (3 : Int32)) G.1 G.2.1 dL_preempt_23 (by decide) ?_
      exact k_lret G hr hlk hW (show (3 : Int32) = cdL [xIO, xIA, xIS] 1 xIS by decide +kernel) rfl dL_preempt_24
  · subst ho
    refine lv_i2l (v := v.toInt64) G.1 G.2.1 dL_preempt_8 rfl ?_
    refine va_last G.1 G.2.1 hKL.1 hW.1 hW.2.1 hW.2.2 0 1 rfl rfl k_in01 dL_preempt_9 (fun H locs hP hD hS => ?_)
    have hW9 : KW D (va_A ((ao, .inl (cl, 1, .inr (.inl f))) :: wB cy h kp σ) s.heap.size) s.heap ((ao, .inl (cl, 1, .inr (.inl (woL (.inr (v, u)) f)))) :: wB cy h kp u) H locs := ⟨hP, hD, hS⟩
    refine lv_goto (tgt := 25) G.1 G.2.1 dL_preempt_10 (by decide) ?_
    refine lv_iconst (v := (0 : Int32)) G.1 G.2.1 dL_preempt_25 (by decide) ?_
    exact k_lret G hr hlk hW9 rfl rfl dL_preempt_26
set_option maxHeartbeats 4000000 in
set_option maxRecDepth 100000 in
theorem mL_reserve (l : Launch) (hT : l.stackTraces = false) (D : va_G) (cy cl cd : ClassId) (h : Nat → Nat) (kp : Nat) (ao : Nat) (sz n : Nat) (σ : St) (f : Nat → Int64) (x1 : Int32) (x2 : Int32) (x3 : Int32) {o : XRg Int32} (hf : fX4_reserve n σ x1 x2 x3 = some o) (hE : ∀ E u, o = .inl (E, u) → E = xIA ∨ E = xIS) : Met l yL_reserve (Cond.codeWith yL_reserve cL_reserve 6 (some .int) [(0, 12, 15, 13), (0, 12, 19, 15)] :: wA) { frames := 8, cells := 2, slots := 12, locals := 135 } (KPL D cy cl cd ((ao, .inl (cl, 1, .inr (.inl f))) :: wB cy h kp σ) sz [.ref (h 104), .int x1, .int x2, .int x3, .ref ao]) (va_Qi (fun (r' : Int32) (_ : Unit) => r' = wcd [xIA, xIS] o) (fun _ => KB D (va_A ((ao, .inl (cl, 1, .inr (.inl f))) :: wB cy h kp σ) sz) ((ao, .inl (cl, 1, .inr (.inl (woL o f)))) :: wB cy h kp (wst o))) (va_A ((ao, .inl (cl, 1, .inr (.inl f))) :: wB cy h kp σ) sz)) 2 12 (va_A ((ao, .inl (cl, 1, .inr (.inl f))) :: wB cy h kp σ) sz) := by
  refine va_MetW (cc := cL_reserve) (maxL := 6) (ret := (some .int)) (hh := [(0, 12, 15, 13), (0, 12, 19, 15)]) (by decide) rfl ?_
  intro p e s m args below meth c s₁ B hml hv
  obtain ⟨rfl, hsz, hP, hKL, hD0, hX⟩ := hv
  subst hsz
  have hts := atoms_spec (ws := Cond.codeWith yL_reserve cL_reserve 6 (some .int) [(0, 12, 15, 13), (0, 12, 19, 15)] :: wA) B.pre
  have htab := vx_table (x := yL_reserve) B (hts _ List.mem_cons_self)
  have G : CallFix p m c cL_reserve 6 s _ wA RL := ⟨B.exec, B.bytes, hml, findClass_of_methodNamed B.named, fun w h => hts w (List.mem_cons_of_mem _ h)⟩
  have hr := B.returns
  have hlk := B.notSynchronized
  have hK := hKL.KK
  have hW : KW D (va_A ((ao, .inl (cl, 1, .inr (.inl f))) :: wB cy h kp σ) s.heap.size) s.heap ((ao, .inl (cl, 1, .inr (.inl f))) :: wB cy h kp σ) s.heap [] := ⟨hP, hD0.self, va_S.rf⟩
  have hA : ∀ q, s.heap.size ≤ q → va_A ((ao, .inl (cl, 1, .inr (.inl f))) :: wB cy h kp σ) s.heap.size q := fun q h => Or.inr h
  have hl := lv_entry ([.ref (h 104), .int x1, .int x2, .int x3, .ref ao]) (n := 6) (Nat.le_of_ble_eq_true rfl)
  rw [lg_entry_eq]
  generalize (lg_sl ([.ref (h 104), .int x1, .int x2, .int x3, .ref ao]) ++ List.replicate (6 - (lg_sl ([.ref (h 104), .int x1, .int x2, .int x3, .ref ao])).length) Slot.unset).toArray = ls at hl ⊢
  have hl : lv_has ls 6 [(0, .ref (h 104)), (1, .int x1), (2, .int x2), (3, .int x3), (4, .ref ao)] := hl
  refine lv_aload G.1 G.2.1 dL_reserve_0 (lv_at hl 4 rfl) ?_
  refine lv_iconst (v := (0 : Int32)) G.1 G.2.1 dL_reserve_2 (by decide) ?_
  refine lv_aload_n G.1 G.2.1 dL_reserve_3 rfl (lv_at hl 0 rfl) ?_
  refine lv_iload_n G.1 G.2.1 dL_reserve_4 rfl (lv_at hl 1 rfl) ?_
  refine lv_iload_n G.1 G.2.1 dL_reserve_5 rfl (lv_at hl 2 rfl) ?_
  refine lv_iload_n G.1 G.2.1 dL_reserve_6 rfl (lv_at hl 3 rfl) ?_
  refine kxl_i (w := wB cy h kp) (wr := [(ao, .inl (cl, 1, .inr (.inl f)))]) (rest := [.int (0 : Int32), .ref ao]) (n := 3) (As := [.int x1, .int x2, .int x3]) (C := RX4) G hK hX hA hW (mX4_reserve l hT D cy h kp _ n σ x1 x2 x3 hf) (gV q_15_19 q_15_20 q_15_21 q_1_2 q_15_22) ⟨rfl, rfl⟩ (by decide +kernel) ⟨Nat.le_of_ble_eq_true rfl, Nat.le_of_ble_eq_true rfl⟩ (va_recv hK.1 hW.1 (ci := 6) (q0 := 1) rfl rfl) rfl hl.1 rfl (Nat.le_of_ble_eq_true rfl) dL_reserve_7 ⟨Nat.le_of_ble_eq_true rfl, Nat.le_of_ble_eq_true rfl⟩ (fun E u ce q9 H locs ho hW hc1 hv1 hcl => ?_) (fun v u H locs ho hW => ?_)
  · subst ho
    rcases hE E u rfl with rfl | rfl
    · refine vx_catch (own := RL) (name := xIA) G.2.2.2.1 [] ⟨0, 12, 15, 13⟩ [⟨0, 12, 19, 15⟩] htab (fun z hz => nomatch hz) rfl (by decide) (G.2.2.2.2 _ q_4_14) (va_Nw.use rfl (hX.1.1 (41, xIA) (List.mem_of_getElem? (i := 0) rfl))) hc1 hv1 hcl ?_
      refine lv_astore (lv' := [(5, .ref q9), (0, .ref (h 104)), (1, .int x1), (2, .int x2), (3, .int x3), (4, .ref ao)]) G.1 G.2.1 dL_reserve_15 hl (by decide) rfl (fun ls hl => ?_)
      refine lv_iconst (v := (1 : Int32)) G.1 G.2.1 dL_reserve_17 (by decide) ?_
      exact k_lret G hr hlk hW (show (1 : Int32) = cdL [xIA, xIS] 1 xIA by decide +kernel) rfl dL_reserve_18
    · refine vx_catch (own := RL) (name := xIS) G.2.2.2.1 [⟨0, 12, 15, 13⟩] ⟨0, 12, 19, 15⟩ [] htab (fun z hz => by
        simp only [List.mem_cons, List.not_mem_nil, or_false] at hz
        subst hz
        exact Or.inr ⟨by decide, xIA, G.2.2.2.2 _ q_4_14, hKL.2.2.1⟩) rfl (by decide) (G.2.2.2.2 _ q_4_15) (va_Nw.use rfl (hX.1.1 (57, xIS) (List.mem_of_getElem? (i := 1) rfl))) hc1 hv1 hcl ?_
      refine lv_astore (lv' := [(5, .ref q9), (0, .ref (h 104)), (1, .int x1), (2, .int x2), (3, .int x3), (4, .ref ao)]) G.1 G.2.1 dL_reserve_19 hl (by decide) rfl (fun ls hl => ?_)
      refine lv_iconst (v := (2 : Int32)) G.1 G.2.1 dL_reserve_21 (by decide) ?_
      exact k_lret G hr hlk hW (show (2 : Int32) = cdL [xIA, xIS] 1 xIS by decide +kernel) rfl dL_reserve_22
  · subst ho
    refine lv_i2l (v := v.toInt64) G.1 G.2.1 dL_reserve_10 rfl ?_
    refine va_last G.1 G.2.1 hKL.1 hW.1 hW.2.1 hW.2.2 0 1 rfl rfl k_in01 dL_reserve_11 (fun H locs hP hD hS => ?_)
    have hW9 : KW D (va_A ((ao, .inl (cl, 1, .inr (.inl f))) :: wB cy h kp σ) s.heap.size) s.heap ((ao, .inl (cl, 1, .inr (.inl (woL (.inr (v, u)) f)))) :: wB cy h kp u) H locs := ⟨hP, hD, hS⟩
    refine lv_goto (tgt := 23) G.1 G.2.1 dL_reserve_12 (by decide) ?_
    refine lv_iconst (v := (0 : Int32)) G.1 G.2.1 dL_reserve_23 (by decide) ?_
    exact k_lret G hr hlk hW9 rfl rfl dL_reserve_24
set_option maxHeartbeats 4000000 in
set_option maxRecDepth 100000 in
theorem mL_cancelReservation (l : Launch) (hT : l.stackTraces = false) (D : va_G) (cy cl cd : ClassId) (h : Nat → Nat) (kp : Nat) (sz n : Nat) (σ : St) (x1 : Int32) {o : XRg Int32} (hf : fX4_cancelReservation n σ x1 = some o) (hE : ∀ E u, o = .inl (E, u) → E = xIO ∨ E = xIS) : Met l yL_cancelReservation (Cond.codeWith yL_cancelReservation cL_cancelReservation 3 (some .int) [(0, 5, 8, 24), (0, 5, 11, 15)] :: wA) { frames := 8, cells := 1, slots := 6, locals := 161 } (KPL D cy cl cd (wB cy h kp σ) sz [.ref (h 104), .int x1]) (va_Qi (fun (r' : Int32) (_ : Unit) => r' = wcd [xIO, xIS] o) (fun _ => KB D (va_A (wB cy h kp σ) sz) (wB cy h kp (wst o))) (va_A (wB cy h kp σ) sz)) 1 6 (va_A (wB cy h kp σ) sz) := by
  refine va_MetW (cc := cL_cancelReservation) (maxL := 3) (ret := (some .int)) (hh := [(0, 5, 8, 24), (0, 5, 11, 15)]) (by decide) rfl ?_
  intro p e s m args below meth c s₁ B hml hv
  obtain ⟨rfl, hsz, hP, hKL, hD0, hX⟩ := hv
  subst hsz
  have hts := atoms_spec (ws := Cond.codeWith yL_cancelReservation cL_cancelReservation 3 (some .int) [(0, 5, 8, 24), (0, 5, 11, 15)] :: wA) B.pre
  have htab := vx_table (x := yL_cancelReservation) B (hts _ List.mem_cons_self)
  have G : CallFix p m c cL_cancelReservation 3 s _ wA RL := ⟨B.exec, B.bytes, hml, findClass_of_methodNamed B.named, fun w h => hts w (List.mem_cons_of_mem _ h)⟩
  have hr := B.returns
  have hlk := B.notSynchronized
  have hK := hKL.KK
  have hW : KW D (va_A (wB cy h kp σ) s.heap.size) s.heap (wB cy h kp σ) s.heap [] := ⟨hP, hD0.self, va_S.rf⟩
  have hA : ∀ q, s.heap.size ≤ q → va_A (wB cy h kp σ) s.heap.size q := fun q h => Or.inr h
  have hl := lv_entry ([.ref (h 104), .int x1]) (n := 3) (Nat.le_of_ble_eq_true rfl)
  rw [lg_entry_eq]
  generalize (lg_sl ([.ref (h 104), .int x1]) ++ List.replicate (3 - (lg_sl ([.ref (h 104), .int x1])).length) Slot.unset).toArray = ls at hl ⊢
  have hl : lv_has ls 3 [(0, .ref (h 104)), (1, .int x1)] := hl
  refine lv_aload_n G.1 G.2.1 dL_cancelReservation_0 rfl (lv_at hl 0 rfl) ?_
  refine lv_iload_n G.1 G.2.1 dL_cancelReservation_1 rfl (lv_at hl 1 rfl) ?_
  refine kxl_v (w := wB cy h kp) (wr := []) (rest := []) (n := 1) (As := [.int x1]) (C := RX4) G hK hX hA hW (mX4_cancelReservation l hT D cy h kp _ n σ x1 hf) (gV q_17_9 q_17_10 q_17_11 q_1_2 q_17_12) ⟨rfl, rfl⟩ (by decide +kernel) ⟨Nat.le_of_ble_eq_true rfl, Nat.le_of_ble_eq_true rfl⟩ (va_recv hK.1 hW.1 (ci := 6) (q0 := 0) rfl rfl) rfl hl.1 rfl (Nat.le_of_ble_eq_true rfl) dL_cancelReservation_2 ⟨Nat.le_of_ble_eq_true rfl, Nat.le_of_ble_eq_true rfl⟩ (fun E u ce q9 H locs ho hW hc1 hv1 hcl => ?_) (fun v u H locs ho hW => ?_)
  · subst ho
    rcases hE E u rfl with rfl | rfl
    · refine vx_catch (own := RL) (name := xIO) G.2.2.2.1 [] ⟨0, 5, 8, 24⟩ [⟨0, 5, 11, 15⟩] htab (fun z hz => nomatch hz) rfl (by decide) (G.2.2.2.2 _ q_13_20) (va_Nw.use rfl (hX.1.1 (165, xIO) (List.mem_of_getElem? (i := 2) rfl))) hc1 hv1 hcl ?_
      refine lv_astore_n (lv' := [(2, .ref q9), (0, .ref (h 104)), (1, .int x1)]) G.1 G.2.1 dL_cancelReservation_8 rfl hl (by decide) rfl (fun ls hl => ?_)
      refine lv_iconst (v := (1 : Int32)) G.1 G.2.1 dL_cancelReservation_9 (by decide) ?_
      exact k_lret G hr hlk hW (show (1 : Int32) = cdL [xIO, xIS] 1 xIO by decide +kernel) rfl dL_cancelReservation_10
    · refine vx_catch (own := RL) (name := xIS) G.2.2.2.1 [⟨0, 5, 8, 24⟩] ⟨0, 5, 11, 15⟩ [] htab (fun z hz => by
        simp only [List.mem_cons, List.not_mem_nil, or_false] at hz
        subst hz
        exact Or.inr ⟨by decide, xIO, G.2.2.2.2 _ q_13_20, hKL.2.2.2.1⟩) rfl (by decide) (G.2.2.2.2 _ q_4_15) (va_Nw.use rfl (hX.1.1 (57, xIS) (List.mem_of_getElem? (i := 1) rfl))) hc1 hv1 hcl ?_
      refine lv_astore_n (lv' := [(2, .ref q9), (0, .ref (h 104)), (1, .int x1)]) G.1 G.2.1 dL_cancelReservation_11 rfl hl (by decide) rfl (fun ls hl => ?_)
      refine lv_iconst (v := (2 : Int32)) G.1 G.2.1 dL_cancelReservation_12 (by decide) ?_
      exact k_lret G hr hlk hW (show (2 : Int32) = cdL [xIO, xIS] 1 xIS by decide +kernel) rfl dL_cancelReservation_13
  · subst ho
    have hW9 := hW
    refine lv_goto (tgt := 14) G.1 G.2.1 dL_cancelReservation_5 (by decide) ?_
    refine lv_iconst (v := (0 : Int32)) G.1 G.2.1 dL_cancelReservation_14 (by decide) ?_
    exact k_lret G hr hlk hW9 rfl rfl dL_cancelReservation_15
set_option maxHeartbeats 4000000 in
set_option maxRecDepth 100000 in
theorem mL_reservedProcessor (l : Launch) (hT : l.stackTraces = false) (D : va_G) (cy cl cd : ClassId) (h : Nat → Nat) (kp : Nat) (ao : Nat) (sz n : Nat) (σ : St) (f : Nat → Int64) (x1 : Int32) {o : XRg Int32} (hf : fX4_reservedProcessor n σ x1 = some o) (hE : ∀ E u, o = .inl (E, u) → E = xIO ∨ E = xIS) : Met l yL_reservedProcessor (Cond.codeWith yL_reservedProcessor cL_reservedProcessor 4 (some .int) [(0, 9, 12, 24), (0, 9, 15, 15)] :: wA) { frames := 8, cells := 1, slots := 6, locals := 132 } (KPL D cy cl cd ((ao, .inl (cl, 1, .inr (.inl f))) :: wB cy h kp σ) sz [.ref (h 104), .int x1, .ref ao]) (va_Qi (fun (r' : Int32) (_ : Unit) => r' = wcd [xIO, xIS] o) (fun _ => KB D (va_A ((ao, .inl (cl, 1, .inr (.inl f))) :: wB cy h kp σ) sz) ((ao, .inl (cl, 1, .inr (.inl (woL o f)))) :: wB cy h kp (wst o))) (va_A ((ao, .inl (cl, 1, .inr (.inl f))) :: wB cy h kp σ) sz)) 1 6 (va_A ((ao, .inl (cl, 1, .inr (.inl f))) :: wB cy h kp σ) sz) := by
  refine va_MetW (cc := cL_reservedProcessor) (maxL := 4) (ret := (some .int)) (hh := [(0, 9, 12, 24), (0, 9, 15, 15)]) (by decide) rfl ?_
  intro p e s m args below meth c s₁ B hml hv
  obtain ⟨rfl, hsz, hP, hKL, hD0, hX⟩ := hv
  subst hsz
  have hts := atoms_spec (ws := Cond.codeWith yL_reservedProcessor cL_reservedProcessor 4 (some .int) [(0, 9, 12, 24), (0, 9, 15, 15)] :: wA) B.pre
  have htab := vx_table (x := yL_reservedProcessor) B (hts _ List.mem_cons_self)
  have G : CallFix p m c cL_reservedProcessor 4 s _ wA RL := ⟨B.exec, B.bytes, hml, findClass_of_methodNamed B.named, fun w h => hts w (List.mem_cons_of_mem _ h)⟩
  have hr := B.returns
  have hlk := B.notSynchronized
  have hK := hKL.KK
  have hW : KW D (va_A ((ao, .inl (cl, 1, .inr (.inl f))) :: wB cy h kp σ) s.heap.size) s.heap ((ao, .inl (cl, 1, .inr (.inl f))) :: wB cy h kp σ) s.heap [] := ⟨hP, hD0.self, va_S.rf⟩
  have hA : ∀ q, s.heap.size ≤ q → va_A ((ao, .inl (cl, 1, .inr (.inl f))) :: wB cy h kp σ) s.heap.size q := fun q h => Or.inr h
  have hl := lv_entry ([.ref (h 104), .int x1, .ref ao]) (n := 4) (Nat.le_of_ble_eq_true rfl)
  rw [lg_entry_eq]
  generalize (lg_sl ([.ref (h 104), .int x1, .ref ao]) ++ List.replicate (4 - (lg_sl ([.ref (h 104), .int x1, .ref ao])).length) Slot.unset).toArray = ls at hl ⊢
  have hl : lv_has ls 4 [(0, .ref (h 104)), (1, .int x1), (2, .ref ao)] := hl
  refine lv_aload_n G.1 G.2.1 dL_reservedProcessor_0 rfl (lv_at hl 2 rfl) ?_
  refine lv_iconst (v := (0 : Int32)) G.1 G.2.1 dL_reservedProcessor_1 (by decide) ?_
  refine lv_aload_n G.1 G.2.1 dL_reservedProcessor_2 rfl (lv_at hl 0 rfl) ?_
  refine lv_iload_n G.1 G.2.1 dL_reservedProcessor_3 rfl (lv_at hl 1 rfl) ?_
  refine kxl_i (w := wB cy h kp) (wr := [(ao, .inl (cl, 1, .inr (.inl f)))]) (rest := [.int (0 : Int32), .ref ao]) (n := 1) (As := [.int x1]) (C := RX4) G hK hX hA hW (mX4_reservedProcessor l hT D cy h kp _ n σ x1 hf) (gV q_18_12 q_18_13 q_18_14 q_1_2 q_18_15) ⟨rfl, rfl⟩ (by decide +kernel) ⟨Nat.le_of_ble_eq_true rfl, Nat.le_of_ble_eq_true rfl⟩ (va_recv hK.1 hW.1 (ci := 6) (q0 := 1) rfl rfl) rfl hl.1 rfl (Nat.le_of_ble_eq_true rfl) dL_reservedProcessor_4 ⟨Nat.le_of_ble_eq_true rfl, Nat.le_of_ble_eq_true rfl⟩ (fun E u ce q9 H locs ho hW hc1 hv1 hcl => ?_) (fun v u H locs ho hW => ?_)
  · subst ho
    rcases hE E u rfl with rfl | rfl
    · refine vx_catch (own := RL) (name := xIO) G.2.2.2.1 [] ⟨0, 9, 12, 24⟩ [⟨0, 9, 15, 15⟩] htab (fun z hz => nomatch hz) rfl (by decide) (G.2.2.2.2 _ q_13_20) (va_Nw.use rfl (hX.1.1 (165, xIO) (List.mem_of_getElem? (i := 2) rfl))) hc1 hv1 hcl ?_
      refine lv_astore_n (lv' := [(3, .ref q9), (0, .ref (h 104)), (1, .int x1), (2, .ref ao)]) G.1 G.2.1 dL_reservedProcessor_12 rfl hl (by decide) rfl (fun ls hl => ?_)
      refine lv_iconst (v := (1 : Int32)) G.1 G.2.1 dL_reservedProcessor_13 (by decide) ?_
      exact k_lret G hr hlk hW (show (1 : Int32) = cdL [xIO, xIS] 1 xIO by decide +kernel) rfl dL_reservedProcessor_14
    · refine vx_catch (own := RL) (name := xIS) G.2.2.2.1 [⟨0, 9, 12, 24⟩] ⟨0, 9, 15, 15⟩ [] htab (fun z hz => by
        simp only [List.mem_cons, List.not_mem_nil, or_false] at hz
        subst hz
        exact Or.inr ⟨by decide, xIO, G.2.2.2.2 _ q_13_20, hKL.2.2.2.1⟩) rfl (by decide) (G.2.2.2.2 _ q_4_15) (va_Nw.use rfl (hX.1.1 (57, xIS) (List.mem_of_getElem? (i := 1) rfl))) hc1 hv1 hcl ?_
      refine lv_astore_n (lv' := [(3, .ref q9), (0, .ref (h 104)), (1, .int x1), (2, .ref ao)]) G.1 G.2.1 dL_reservedProcessor_15 rfl hl (by decide) rfl (fun ls hl => ?_)
      refine lv_iconst (v := (2 : Int32)) G.1 G.2.1 dL_reservedProcessor_16 (by decide) ?_
      exact k_lret G hr hlk hW (show (2 : Int32) = cdL [xIO, xIS] 1 xIS by decide +kernel) rfl dL_reservedProcessor_17
  · subst ho
    refine lv_i2l (v := v.toInt64) G.1 G.2.1 dL_reservedProcessor_7 rfl ?_
    refine va_last G.1 G.2.1 hKL.1 hW.1 hW.2.1 hW.2.2 0 1 rfl rfl k_in01 dL_reservedProcessor_8 (fun H locs hP hD hS => ?_)
    have hW9 : KW D (va_A ((ao, .inl (cl, 1, .inr (.inl f))) :: wB cy h kp σ) s.heap.size) s.heap ((ao, .inl (cl, 1, .inr (.inl (woL (.inr (v, u)) f)))) :: wB cy h kp u) H locs := ⟨hP, hD, hS⟩
    refine lv_goto (tgt := 18) G.1 G.2.1 dL_reservedProcessor_9 (by decide) ?_
    refine lv_iconst (v := (0 : Int32)) G.1 G.2.1 dL_reservedProcessor_18 (by decide) ?_
    exact k_lret G hr hlk hW9 rfl rfl dL_reservedProcessor_19
set_option maxHeartbeats 4000000 in
set_option maxRecDepth 100000 in
theorem mL_state (l : Launch) (hT : l.stackTraces = false) (D : va_G) (cy cl cd : ClassId) (h : Nat → Nat) (kp : Nat) (ao : Nat) (sz n : Nat) (σ : St) (f : Nat → Int64) (x1 : Int32) {o : XRg Int32} (hf : fX4_state n σ x1 = some o) (hE : ∀ E u, o = .inl (E, u) → E = xIO) : Met l yL_state (Cond.codeWith yL_state cL_state 4 (some .int) [(0, 9, 12, 24)] :: wA) { frames := 8, cells := 1, slots := 6, locals := 132 } (KPL D cy cl cd ((ao, .inl (cl, 1, .inr (.inl f))) :: wB cy h kp σ) sz [.ref (h 104), .int x1, .ref ao]) (va_Qi (fun (r' : Int32) (_ : Unit) => r' = wcd [xIO] o) (fun _ => KB D (va_A ((ao, .inl (cl, 1, .inr (.inl f))) :: wB cy h kp σ) sz) ((ao, .inl (cl, 1, .inr (.inl (woL o f)))) :: wB cy h kp (wst o))) (va_A ((ao, .inl (cl, 1, .inr (.inl f))) :: wB cy h kp σ) sz)) 1 6 (va_A ((ao, .inl (cl, 1, .inr (.inl f))) :: wB cy h kp σ) sz) := by
  refine va_MetW (cc := cL_state) (maxL := 4) (ret := (some .int)) (hh := [(0, 9, 12, 24)]) (by decide) rfl ?_
  intro p e s m args below meth c s₁ B hml hv
  obtain ⟨rfl, hsz, hP, hKL, hD0, hX⟩ := hv
  subst hsz
  have hts := atoms_spec (ws := Cond.codeWith yL_state cL_state 4 (some .int) [(0, 9, 12, 24)] :: wA) B.pre
  have htab := vx_table (x := yL_state) B (hts _ List.mem_cons_self)
  have G : CallFix p m c cL_state 4 s _ wA RL := ⟨B.exec, B.bytes, hml, findClass_of_methodNamed B.named, fun w h => hts w (List.mem_cons_of_mem _ h)⟩
  have hr := B.returns
  have hlk := B.notSynchronized
  have hK := hKL.KK
  have hW : KW D (va_A ((ao, .inl (cl, 1, .inr (.inl f))) :: wB cy h kp σ) s.heap.size) s.heap ((ao, .inl (cl, 1, .inr (.inl f))) :: wB cy h kp σ) s.heap [] := ⟨hP, hD0.self, va_S.rf⟩
  have hA : ∀ q, s.heap.size ≤ q → va_A ((ao, .inl (cl, 1, .inr (.inl f))) :: wB cy h kp σ) s.heap.size q := fun q h => Or.inr h
  have hl := lv_entry ([.ref (h 104), .int x1, .ref ao]) (n := 4) (Nat.le_of_ble_eq_true rfl)
  rw [lg_entry_eq]
  generalize (lg_sl ([.ref (h 104), .int x1, .ref ao]) ++ List.replicate (4 - (lg_sl ([.ref (h 104), .int x1, .ref ao])).length) Slot.unset).toArray = ls at hl ⊢
  have hl : lv_has ls 4 [(0, .ref (h 104)), (1, .int x1), (2, .ref ao)] := hl
  refine lv_aload_n G.1 G.2.1 dL_state_0 rfl (lv_at hl 2 rfl) ?_
  refine lv_iconst (v := (0 : Int32)) G.1 G.2.1 dL_state_1 (by decide) ?_
  refine lv_aload_n G.1 G.2.1 dL_state_2 rfl (lv_at hl 0 rfl) ?_
  refine lv_iload_n G.1 G.2.1 dL_state_3 rfl (lv_at hl 1 rfl) ?_
  refine kxl_i (w := wB cy h kp) (wr := [(ao, .inl (cl, 1, .inr (.inl f)))]) (rest := [.int (0 : Int32), .ref ao]) (n := 1) (As := [.int x1]) (C := RX4) G hK hX hA hW (mX4_state l hT D cy h kp _ n σ x1 hf) (gV q_20_1 q_20_2 q_20_3 q_1_2 q_20_4) ⟨rfl, rfl⟩ (by decide +kernel) ⟨Nat.le_of_ble_eq_true rfl, Nat.le_of_ble_eq_true rfl⟩ (va_recv hK.1 hW.1 (ci := 6) (q0 := 1) rfl rfl) rfl hl.1 rfl (Nat.le_of_ble_eq_true rfl) dL_state_4 ⟨Nat.le_of_ble_eq_true rfl, Nat.le_of_ble_eq_true rfl⟩ (fun E u ce q9 H locs ho hW hc1 hv1 hcl => ?_) (fun v u H locs ho hW => ?_)
  · subst ho
    obtain rfl := hE E u rfl
    refine vx_catch (own := RL) (name := xIO) G.2.2.2.1 [] ⟨0, 9, 12, 24⟩ [] htab (fun z hz => nomatch hz) rfl (by decide) (G.2.2.2.2 _ q_13_20) (va_Nw.use rfl (hX.1.1 (165, xIO) (List.mem_of_getElem? (i := 2) rfl))) hc1 hv1 hcl ?_
    refine lv_astore_n (lv' := [(3, .ref q9), (0, .ref (h 104)), (1, .int x1), (2, .ref ao)]) G.1 G.2.1 dL_state_12 rfl hl (by decide) rfl (fun ls hl => ?_)
    refine lv_iconst (v := (1 : Int32)) G.1 G.2.1 dL_state_13 (by decide) ?_
    exact k_lret G hr hlk hW (show (1 : Int32) = cdL [xIO] 1 xIO by decide +kernel) rfl dL_state_14
  · subst ho
    refine lv_i2l (v := v.toInt64) G.1 G.2.1 dL_state_7 rfl ?_
    refine va_last G.1 G.2.1 hKL.1 hW.1 hW.2.1 hW.2.2 0 1 rfl rfl k_in01 dL_state_8 (fun H locs hP hD hS => ?_)
    have hW9 : KW D (va_A ((ao, .inl (cl, 1, .inr (.inl f))) :: wB cy h kp σ) s.heap.size) s.heap ((ao, .inl (cl, 1, .inr (.inl (woL (.inr (v, u)) f)))) :: wB cy h kp u) H locs := ⟨hP, hD, hS⟩
    refine lv_goto (tgt := 15) G.1 G.2.1 dL_state_9 (by decide) ?_
    refine lv_iconst (v := (0 : Int32)) G.1 G.2.1 dL_state_15 (by decide) ?_
    exact k_lret G hr hlk hW9 rfl rfl dL_state_16
set_option maxHeartbeats 4000000 in
set_option maxRecDepth 100000 in
theorem mL_startTime (l : Launch) (hT : l.stackTraces = false) (D : va_G) (cy cl cd : ClassId) (h : Nat → Nat) (kp : Nat) (ao : Nat) (sz n : Nat) (σ : St) (f : Nat → Int64) (x1 : Int32) {o : XRg Int32} (hf : fX4_startTime n σ x1 = some o) (hE : ∀ E u, o = .inl (E, u) → E = xIO ∨ E = xIS) : Met l yL_startTime (Cond.codeWith yL_startTime cL_startTime 4 (some .int) [(0, 9, 12, 24), (0, 9, 15, 15)] :: wA) { frames := 8, cells := 2, slots := 12, locals := 133 } (KPL D cy cl cd ((ao, .inl (cl, 1, .inr (.inl f))) :: wB cy h kp σ) sz [.ref (h 104), .int x1, .ref ao]) (va_Qi (fun (r' : Int32) (_ : Unit) => r' = wcd [xIO, xIS] o) (fun _ => KB D (va_A ((ao, .inl (cl, 1, .inr (.inl f))) :: wB cy h kp σ) sz) ((ao, .inl (cl, 1, .inr (.inl (woL o f)))) :: wB cy h kp (wst o))) (va_A ((ao, .inl (cl, 1, .inr (.inl f))) :: wB cy h kp σ) sz)) 2 12 (va_A ((ao, .inl (cl, 1, .inr (.inl f))) :: wB cy h kp σ) sz) := by
  refine va_MetW (cc := cL_startTime) (maxL := 4) (ret := (some .int)) (hh := [(0, 9, 12, 24), (0, 9, 15, 15)]) (by decide) rfl ?_
  intro p e s m args below meth c s₁ B hml hv
  obtain ⟨rfl, hsz, hP, hKL, hD0, hX⟩ := hv
  subst hsz
  have hts := atoms_spec (ws := Cond.codeWith yL_startTime cL_startTime 4 (some .int) [(0, 9, 12, 24), (0, 9, 15, 15)] :: wA) B.pre
  have htab := vx_table (x := yL_startTime) B (hts _ List.mem_cons_self)
  have G : CallFix p m c cL_startTime 4 s _ wA RL := ⟨B.exec, B.bytes, hml, findClass_of_methodNamed B.named, fun w h => hts w (List.mem_cons_of_mem _ h)⟩
  have hr := B.returns
  have hlk := B.notSynchronized
  have hK := hKL.KK
  have hW : KW D (va_A ((ao, .inl (cl, 1, .inr (.inl f))) :: wB cy h kp σ) s.heap.size) s.heap ((ao, .inl (cl, 1, .inr (.inl f))) :: wB cy h kp σ) s.heap [] := ⟨hP, hD0.self, va_S.rf⟩
  have hA : ∀ q, s.heap.size ≤ q → va_A ((ao, .inl (cl, 1, .inr (.inl f))) :: wB cy h kp σ) s.heap.size q := fun q h => Or.inr h
  have hl := lv_entry ([.ref (h 104), .int x1, .ref ao]) (n := 4) (Nat.le_of_ble_eq_true rfl)
  rw [lg_entry_eq]
  generalize (lg_sl ([.ref (h 104), .int x1, .ref ao]) ++ List.replicate (4 - (lg_sl ([.ref (h 104), .int x1, .ref ao])).length) Slot.unset).toArray = ls at hl ⊢
  have hl : lv_has ls 4 [(0, .ref (h 104)), (1, .int x1), (2, .ref ao)] := hl
  refine lv_aload_n G.1 G.2.1 dL_startTime_0 rfl (lv_at hl 2 rfl) ?_
  refine lv_iconst (v := (0 : Int32)) G.1 G.2.1 dL_startTime_1 (by decide) ?_
  refine lv_aload_n G.1 G.2.1 dL_startTime_2 rfl (lv_at hl 0 rfl) ?_
  refine lv_iload_n G.1 G.2.1 dL_startTime_3 rfl (lv_at hl 1 rfl) ?_
  refine kxl_i (w := wB cy h kp) (wr := [(ao, .inl (cl, 1, .inr (.inl f)))]) (rest := [.int (0 : Int32), .ref ao]) (n := 1) (As := [.int x1]) (C := RX4) G hK hX hA hW (mX4_startTime l hT D cy h kp _ n σ x1 hf) (gV q_20_12 q_20_13 q_20_14 q_1_2 q_20_15) ⟨rfl, rfl⟩ (by decide +kernel) ⟨Nat.le_of_ble_eq_true rfl, Nat.le_of_ble_eq_true rfl⟩ (va_recv hK.1 hW.1 (ci := 6) (q0 := 1) rfl rfl) rfl hl.1 rfl (Nat.le_of_ble_eq_true rfl) dL_startTime_4 ⟨Nat.le_of_ble_eq_true rfl, Nat.le_of_ble_eq_true rfl⟩ (fun E u ce q9 H locs ho hW hc1 hv1 hcl => ?_) (fun v u H locs ho hW => ?_)
  · subst ho
    rcases hE E u rfl with rfl | rfl
    · refine vx_catch (own := RL) (name := xIO) G.2.2.2.1 [] ⟨0, 9, 12, 24⟩ [⟨0, 9, 15, 15⟩] htab (fun z hz => nomatch hz) rfl (by decide) (G.2.2.2.2 _ q_13_20) (va_Nw.use rfl (hX.1.1 (165, xIO) (List.mem_of_getElem? (i := 2) rfl))) hc1 hv1 hcl ?_
      refine lv_astore_n (lv' := [(3, .ref q9), (0, .ref (h 104)), (1, .int x1), (2, .ref ao)]) G.1 G.2.1 dL_startTime_12 rfl hl (by decide) rfl (fun ls hl => ?_)
      refine lv_iconst (v := (1 : Int32)) G.1 G.2.1 dL_startTime_13 (by decide) ?_
      exact k_lret G hr hlk hW (show (1 : Int32) = cdL [xIO, xIS] 1 xIO by decide +kernel) rfl dL_startTime_14
    · refine vx_catch (own := RL) (name := xIS) G.2.2.2.1 [⟨0, 9, 12, 24⟩] ⟨0, 9, 15, 15⟩ [] htab (fun z hz => by
        simp only [List.mem_cons, List.not_mem_nil, or_false] at hz
        subst hz
        exact Or.inr ⟨by decide, xIO, G.2.2.2.2 _ q_13_20, hKL.2.2.2.1⟩) rfl (by decide) (G.2.2.2.2 _ q_4_15) (va_Nw.use rfl (hX.1.1 (57, xIS) (List.mem_of_getElem? (i := 1) rfl))) hc1 hv1 hcl ?_
      refine lv_astore_n (lv' := [(3, .ref q9), (0, .ref (h 104)), (1, .int x1), (2, .ref ao)]) G.1 G.2.1 dL_startTime_15 rfl hl (by decide) rfl (fun ls hl => ?_)
      refine lv_iconst (v := (2 : Int32)) G.1 G.2.1 dL_startTime_16 (by decide) ?_
      exact k_lret G hr hlk hW (show (2 : Int32) = cdL [xIO, xIS] 1 xIS by decide +kernel) rfl dL_startTime_17
  · subst ho
    refine lv_i2l (v := v.toInt64) G.1 G.2.1 dL_startTime_7 rfl ?_
    refine va_last G.1 G.2.1 hKL.1 hW.1 hW.2.1 hW.2.2 0 1 rfl rfl k_in01 dL_startTime_8 (fun H locs hP hD hS => ?_)
    have hW9 : KW D (va_A ((ao, .inl (cl, 1, .inr (.inl f))) :: wB cy h kp σ) s.heap.size) s.heap ((ao, .inl (cl, 1, .inr (.inl (woL (.inr (v, u)) f)))) :: wB cy h kp u) H locs := ⟨hP, hD, hS⟩
    refine lv_goto (tgt := 18) G.1 G.2.1 dL_startTime_9 (by decide) ?_
    refine lv_iconst (v := (0 : Int32)) G.1 G.2.1 dL_startTime_18 (by decide) ?_
    exact k_lret G hr hlk hW9 rfl rfl dL_startTime_19
set_option maxHeartbeats 4000000 in
set_option maxRecDepth 100000 in
theorem mL_firstProcessor (l : Launch) (hT : l.stackTraces = false) (D : va_G) (cy cl cd : ClassId) (h : Nat → Nat) (kp : Nat) (ao : Nat) (sz n : Nat) (σ : St) (f : Nat → Int64) (x1 : Int32) {o : XRg Int32} (hf : fX4_firstProcessor n σ x1 = some o) (hE : ∀ E u, o = .inl (E, u) → E = xIO ∨ E = xIS) : Met l yL_firstProcessor (Cond.codeWith yL_firstProcessor cL_firstProcessor 4 (some .int) [(0, 9, 12, 24), (0, 9, 15, 15)] :: wA) { frames := 8, cells := 2, slots := 12, locals := 133 } (KPL D cy cl cd ((ao, .inl (cl, 1, .inr (.inl f))) :: wB cy h kp σ) sz [.ref (h 104), .int x1, .ref ao]) (va_Qi (fun (r' : Int32) (_ : Unit) => r' = wcd [xIO, xIS] o) (fun _ => KB D (va_A ((ao, .inl (cl, 1, .inr (.inl f))) :: wB cy h kp σ) sz) ((ao, .inl (cl, 1, .inr (.inl (woL o f)))) :: wB cy h kp (wst o))) (va_A ((ao, .inl (cl, 1, .inr (.inl f))) :: wB cy h kp σ) sz)) 2 12 (va_A ((ao, .inl (cl, 1, .inr (.inl f))) :: wB cy h kp σ) sz) := by
  refine va_MetW (cc := cL_firstProcessor) (maxL := 4) (ret := (some .int)) (hh := [(0, 9, 12, 24), (0, 9, 15, 15)]) (by decide) rfl ?_
  intro p e s m args below meth c s₁ B hml hv
  obtain ⟨rfl, hsz, hP, hKL, hD0, hX⟩ := hv
  subst hsz
  have hts := atoms_spec (ws := Cond.codeWith yL_firstProcessor cL_firstProcessor 4 (some .int) [(0, 9, 12, 24), (0, 9, 15, 15)] :: wA) B.pre
  have htab := vx_table (x := yL_firstProcessor) B (hts _ List.mem_cons_self)
  have G : CallFix p m c cL_firstProcessor 4 s _ wA RL := ⟨B.exec, B.bytes, hml, findClass_of_methodNamed B.named, fun w h => hts w (List.mem_cons_of_mem _ h)⟩
  have hr := B.returns
  have hlk := B.notSynchronized
  have hK := hKL.KK
  have hW : KW D (va_A ((ao, .inl (cl, 1, .inr (.inl f))) :: wB cy h kp σ) s.heap.size) s.heap ((ao, .inl (cl, 1, .inr (.inl f))) :: wB cy h kp σ) s.heap [] := ⟨hP, hD0.self, va_S.rf⟩
  have hA : ∀ q, s.heap.size ≤ q → va_A ((ao, .inl (cl, 1, .inr (.inl f))) :: wB cy h kp σ) s.heap.size q := fun q h => Or.inr h
  have hl := lv_entry ([.ref (h 104), .int x1, .ref ao]) (n := 4) (Nat.le_of_ble_eq_true rfl)
  rw [lg_entry_eq]
  generalize (lg_sl ([.ref (h 104), .int x1, .ref ao]) ++ List.replicate (4 - (lg_sl ([.ref (h 104), .int x1, .ref ao])).length) Slot.unset).toArray = ls at hl ⊢
  have hl : lv_has ls 4 [(0, .ref (h 104)), (1, .int x1), (2, .ref ao)] := hl
  refine lv_aload_n G.1 G.2.1 dL_firstProcessor_0 rfl (lv_at hl 2 rfl) ?_
  refine lv_iconst (v := (0 : Int32)) G.1 G.2.1 dL_firstProcessor_1 (by decide) ?_
  refine lv_aload_n G.1 G.2.1 dL_firstProcessor_2 rfl (lv_at hl 0 rfl) ?_
  refine lv_iload_n G.1 G.2.1 dL_firstProcessor_3 rfl (lv_at hl 1 rfl) ?_
  refine kxl_i (w := wB cy h kp) (wr := [(ao, .inl (cl, 1, .inr (.inl f)))]) (rest := [.int (0 : Int32), .ref ao]) (n := 1) (As := [.int x1]) (C := RX4) G hK hX hA hW (mX4_firstProcessor l hT D cy h kp _ n σ x1 hf) (gV q_21_4 q_21_5 q_21_6 q_1_2 q_21_7) ⟨rfl, rfl⟩ (by decide +kernel) ⟨Nat.le_of_ble_eq_true rfl, Nat.le_of_ble_eq_true rfl⟩ (va_recv hK.1 hW.1 (ci := 6) (q0 := 1) rfl rfl) rfl hl.1 rfl (Nat.le_of_ble_eq_true rfl) dL_firstProcessor_4 ⟨Nat.le_of_ble_eq_true rfl, Nat.le_of_ble_eq_true rfl⟩ (fun E u ce q9 H locs ho hW hc1 hv1 hcl => ?_) (fun v u H locs ho hW => ?_)
  · subst ho
    rcases hE E u rfl with rfl | rfl
    · refine vx_catch (own := RL) (name := xIO) G.2.2.2.1 [] ⟨0, 9, 12, 24⟩ [⟨0, 9, 15, 15⟩] htab (fun z hz => nomatch hz) rfl (by decide) (G.2.2.2.2 _ q_13_20) (va_Nw.use rfl (hX.1.1 (165, xIO) (List.mem_of_getElem? (i := 2) rfl))) hc1 hv1 hcl ?_
      refine lv_astore_n (lv' := [(3, .ref q9), (0, .ref (h 104)), (1, .int x1), (2, .ref ao)]) G.1 G.2.1 dL_firstProcessor_12 rfl hl (by decide) rfl (fun ls hl => ?_)
      refine lv_iconst (v := (1 : Int32)) G.1 G.2.1 dL_firstProcessor_13 (by decide) ?_
      exact k_lret G hr hlk hW (show (1 : Int32) = cdL [xIO, xIS] 1 xIO by decide +kernel) rfl dL_firstProcessor_14
    · refine vx_catch (own := RL) (name := xIS) G.2.2.2.1 [⟨0, 9, 12, 24⟩] ⟨0, 9, 15, 15⟩ [] htab (fun z hz => by
        simp only [List.mem_cons, List.not_mem_nil, or_false] at hz
        subst hz
        exact Or.inr ⟨by decide, xIO, G.2.2.2.2 _ q_13_20, hKL.2.2.2.1⟩) rfl (by decide) (G.2.2.2.2 _ q_4_15) (va_Nw.use rfl (hX.1.1 (57, xIS) (List.mem_of_getElem? (i := 1) rfl))) hc1 hv1 hcl ?_
      refine lv_astore_n (lv' := [(3, .ref q9), (0, .ref (h 104)), (1, .int x1), (2, .ref ao)]) G.1 G.2.1 dL_firstProcessor_15 rfl hl (by decide) rfl (fun ls hl => ?_)
      refine lv_iconst (v := (2 : Int32)) G.1 G.2.1 dL_firstProcessor_16 (by decide) ?_
      exact k_lret G hr hlk hW (show (2 : Int32) = cdL [xIO, xIS] 1 xIS by decide +kernel) rfl dL_firstProcessor_17
  · subst ho
    refine lv_i2l (v := v.toInt64) G.1 G.2.1 dL_firstProcessor_7 rfl ?_
    refine va_last G.1 G.2.1 hKL.1 hW.1 hW.2.1 hW.2.2 0 1 rfl rfl k_in01 dL_firstProcessor_8 (fun H locs hP hD hS => ?_)
    have hW9 : KW D (va_A ((ao, .inl (cl, 1, .inr (.inl f))) :: wB cy h kp σ) s.heap.size) s.heap ((ao, .inl (cl, 1, .inr (.inl (woL (.inr (v, u)) f)))) :: wB cy h kp u) H locs := ⟨hP, hD, hS⟩
    refine lv_goto (tgt := 18) G.1 G.2.1 dL_firstProcessor_9 (by decide) ?_
    refine lv_iconst (v := (0 : Int32)) G.1 G.2.1 dL_firstProcessor_18 (by decide) ?_
    exact k_lret G hr hlk hW9 rfl rfl dL_firstProcessor_19
set_option maxHeartbeats 4000000 in
set_option maxRecDepth 100000 in
theorem mL_promise (l : Launch) (hT : l.stackTraces = false) (D : va_G) (cy cl cd : ClassId) (h : Nat → Nat) (kp : Nat) (ao : Nat) (sz n : Nat) (σ : St) (f : Nat → Int64) (x1 : Int32) {o : XRg Int32} (hf : fX4_promise n σ x1 = some o) (hE : ∀ E u, o = .inl (E, u) → E = xIO) : Met l yL_promise (Cond.codeWith yL_promise cL_promise 4 (some .int) [(0, 9, 12, 24)] :: wA) { frames := 8, cells := 1, slots := 6, locals := 132 } (KPL D cy cl cd ((ao, .inl (cl, 1, .inr (.inl f))) :: wB cy h kp σ) sz [.ref (h 104), .int x1, .ref ao]) (va_Qi (fun (r' : Int32) (_ : Unit) => r' = wcd [xIO] o) (fun _ => KB D (va_A ((ao, .inl (cl, 1, .inr (.inl f))) :: wB cy h kp σ) sz) ((ao, .inl (cl, 1, .inr (.inl (woL o f)))) :: wB cy h kp (wst o))) (va_A ((ao, .inl (cl, 1, .inr (.inl f))) :: wB cy h kp σ) sz)) 1 6 (va_A ((ao, .inl (cl, 1, .inr (.inl f))) :: wB cy h kp σ) sz) := by
  refine va_MetW (cc := cL_promise) (maxL := 4) (ret := (some .int)) (hh := [(0, 9, 12, 24)]) (by decide) rfl ?_
  intro p e s m args below meth c s₁ B hml hv
  obtain ⟨rfl, hsz, hP, hKL, hD0, hX⟩ := hv
  subst hsz
  have hts := atoms_spec (ws := Cond.codeWith yL_promise cL_promise 4 (some .int) [(0, 9, 12, 24)] :: wA) B.pre
  have htab := vx_table (x := yL_promise) B (hts _ List.mem_cons_self)
  have G : CallFix p m c cL_promise 4 s _ wA RL := ⟨B.exec, B.bytes, hml, findClass_of_methodNamed B.named, fun w h => hts w (List.mem_cons_of_mem _ h)⟩
  have hr := B.returns
  have hlk := B.notSynchronized
  have hK := hKL.KK
  have hW : KW D (va_A ((ao, .inl (cl, 1, .inr (.inl f))) :: wB cy h kp σ) s.heap.size) s.heap ((ao, .inl (cl, 1, .inr (.inl f))) :: wB cy h kp σ) s.heap [] := ⟨hP, hD0.self, va_S.rf⟩
  have hA : ∀ q, s.heap.size ≤ q → va_A ((ao, .inl (cl, 1, .inr (.inl f))) :: wB cy h kp σ) s.heap.size q := fun q h => Or.inr h
  have hl := lv_entry ([.ref (h 104), .int x1, .ref ao]) (n := 4) (Nat.le_of_ble_eq_true rfl)
  rw [lg_entry_eq]
  generalize (lg_sl ([.ref (h 104), .int x1, .ref ao]) ++ List.replicate (4 - (lg_sl ([.ref (h 104), .int x1, .ref ao])).length) Slot.unset).toArray = ls at hl ⊢
  have hl : lv_has ls 4 [(0, .ref (h 104)), (1, .int x1), (2, .ref ao)] := hl
  refine lv_aload_n G.1 G.2.1 dL_promise_0 rfl (lv_at hl 2 rfl) ?_
  refine lv_iconst (v := (0 : Int32)) G.1 G.2.1 dL_promise_1 (by decide) ?_
  refine lv_aload_n G.1 G.2.1 dL_promise_2 rfl (lv_at hl 0 rfl) ?_
  refine lv_iload_n G.1 G.2.1 dL_promise_3 rfl (lv_at hl 1 rfl) ?_
  refine kxl_i (w := wB cy h kp) (wr := [(ao, .inl (cl, 1, .inr (.inl f)))]) (rest := [.int (0 : Int32), .ref ao]) (n := 1) (As := [.int x1]) (C := RX4) G hK hX hA hW (mX4_promise l hT D cy h kp _ n σ x1 hf) (gV q_21_15 q_21_16 q_21_17 q_1_2 q_21_18) ⟨rfl, rfl⟩ (by decide +kernel) ⟨Nat.le_of_ble_eq_true rfl, Nat.le_of_ble_eq_true rfl⟩ (va_recv hK.1 hW.1 (ci := 6) (q0 := 1) rfl rfl) rfl hl.1 rfl (Nat.le_of_ble_eq_true rfl) dL_promise_4 ⟨Nat.le_of_ble_eq_true rfl, Nat.le_of_ble_eq_true rfl⟩ (fun E u ce q9 H locs ho hW hc1 hv1 hcl => ?_) (fun v u H locs ho hW => ?_)
  · subst ho
    obtain rfl := hE E u rfl
    refine vx_catch (own := RL) (name := xIO) G.2.2.2.1 [] ⟨0, 9, 12, 24⟩ [] htab (fun z hz => nomatch hz) rfl (by decide) (G.2.2.2.2 _ q_13_20) (va_Nw.use rfl (hX.1.1 (165, xIO) (List.mem_of_getElem? (i := 2) rfl))) hc1 hv1 hcl ?_
    refine lv_astore_n (lv' := [(3, .ref q9), (0, .ref (h 104)), (1, .int x1), (2, .ref ao)]) G.1 G.2.1 dL_promise_12 rfl hl (by decide) rfl (fun ls hl => ?_)
    refine lv_iconst (v := (1 : Int32)) G.1 G.2.1 dL_promise_13 (by decide) ?_
    exact k_lret G hr hlk hW (show (1 : Int32) = cdL [xIO] 1 xIO by decide +kernel) rfl dL_promise_14
  · subst ho
    refine lv_i2l (v := v.toInt64) G.1 G.2.1 dL_promise_7 rfl ?_
    refine va_last G.1 G.2.1 hKL.1 hW.1 hW.2.1 hW.2.2 0 1 rfl rfl k_in01 dL_promise_8 (fun H locs hP hD hS => ?_)
    have hW9 : KW D (va_A ((ao, .inl (cl, 1, .inr (.inl f))) :: wB cy h kp σ) s.heap.size) s.heap ((ao, .inl (cl, 1, .inr (.inl (woL (.inr (v, u)) f)))) :: wB cy h kp u) H locs := ⟨hP, hD, hS⟩
    refine lv_goto (tgt := 15) G.1 G.2.1 dL_promise_9 (by decide) ?_
    refine lv_iconst (v := (0 : Int32)) G.1 G.2.1 dL_promise_15 (by decide) ?_
    exact k_lret G hr hlk hW9 rfl rfl dL_promise_16
set_option maxHeartbeats 4000000 in
set_option maxRecDepth 100000 in
theorem mL_finishTime (l : Launch) (hT : l.stackTraces = false) (D : va_G) (cy cl cd : ClassId) (h : Nat → Nat) (kp : Nat) (ao : Nat) (sz n : Nat) (σ : St) (f : Nat → Int64) (x1 : Int32) {o : XRg Int32} (hf : fX4_finishTime n σ x1 = some o) (hE : ∀ E u, o = .inl (E, u) → E = xIO ∨ E = xIS) : Met l yL_finishTime (Cond.codeWith yL_finishTime cL_finishTime 4 (some .int) [(0, 9, 12, 24), (0, 9, 15, 15)] :: wA) { frames := 8, cells := 2, slots := 12, locals := 132 } (KPL D cy cl cd ((ao, .inl (cl, 1, .inr (.inl f))) :: wB cy h kp σ) sz [.ref (h 104), .int x1, .ref ao]) (va_Qi (fun (r' : Int32) (_ : Unit) => r' = wcd [xIO, xIS] o) (fun _ => KB D (va_A ((ao, .inl (cl, 1, .inr (.inl f))) :: wB cy h kp σ) sz) ((ao, .inl (cl, 1, .inr (.inl (woL o f)))) :: wB cy h kp (wst o))) (va_A ((ao, .inl (cl, 1, .inr (.inl f))) :: wB cy h kp σ) sz)) 2 12 (va_A ((ao, .inl (cl, 1, .inr (.inl f))) :: wB cy h kp σ) sz) := by
  refine va_MetW (cc := cL_finishTime) (maxL := 4) (ret := (some .int)) (hh := [(0, 9, 12, 24), (0, 9, 15, 15)]) (by decide) rfl ?_
  intro p e s m args below meth c s₁ B hml hv
  obtain ⟨rfl, hsz, hP, hKL, hD0, hX⟩ := hv
  subst hsz
  have hts := atoms_spec (ws := Cond.codeWith yL_finishTime cL_finishTime 4 (some .int) [(0, 9, 12, 24), (0, 9, 15, 15)] :: wA) B.pre
  have htab := vx_table (x := yL_finishTime) B (hts _ List.mem_cons_self)
  have G : CallFix p m c cL_finishTime 4 s _ wA RL := ⟨B.exec, B.bytes, hml, findClass_of_methodNamed B.named, fun w h => hts w (List.mem_cons_of_mem _ h)⟩
  have hr := B.returns
  have hlk := B.notSynchronized
  have hK := hKL.KK
  have hW : KW D (va_A ((ao, .inl (cl, 1, .inr (.inl f))) :: wB cy h kp σ) s.heap.size) s.heap ((ao, .inl (cl, 1, .inr (.inl f))) :: wB cy h kp σ) s.heap [] := ⟨hP, hD0.self, va_S.rf⟩
  have hA : ∀ q, s.heap.size ≤ q → va_A ((ao, .inl (cl, 1, .inr (.inl f))) :: wB cy h kp σ) s.heap.size q := fun q h => Or.inr h
  have hl := lv_entry ([.ref (h 104), .int x1, .ref ao]) (n := 4) (Nat.le_of_ble_eq_true rfl)
  rw [lg_entry_eq]
  generalize (lg_sl ([.ref (h 104), .int x1, .ref ao]) ++ List.replicate (4 - (lg_sl ([.ref (h 104), .int x1, .ref ao])).length) Slot.unset).toArray = ls at hl ⊢
  have hl : lv_has ls 4 [(0, .ref (h 104)), (1, .int x1), (2, .ref ao)] := hl
  refine lv_aload_n G.1 G.2.1 dL_finishTime_0 rfl (lv_at hl 2 rfl) ?_
  refine lv_iconst (v := (0 : Int32)) G.1 G.2.1 dL_finishTime_1 (by decide) ?_
  refine lv_aload_n G.1 G.2.1 dL_finishTime_2 rfl (lv_at hl 0 rfl) ?_
  refine lv_iload_n G.1 G.2.1 dL_finishTime_3 rfl (lv_at hl 1 rfl) ?_
  refine kxl_i (w := wB cy h kp) (wr := [(ao, .inl (cl, 1, .inr (.inl f)))]) (rest := [.int (0 : Int32), .ref ao]) (n := 1) (As := [.int x1]) (C := RX4) G hK hX hA hW (mX4_finishTime l hT D cy h kp _ n σ x1 hf) (gV q_22_3 q_22_4 q_22_5 q_1_2 q_22_6) ⟨rfl, rfl⟩ (by decide +kernel) ⟨Nat.le_of_ble_eq_true rfl, Nat.le_of_ble_eq_true rfl⟩ (va_recv hK.1 hW.1 (ci := 6) (q0 := 1) rfl rfl) rfl hl.1 rfl (Nat.le_of_ble_eq_true rfl) dL_finishTime_4 ⟨Nat.le_of_ble_eq_true rfl, Nat.le_of_ble_eq_true rfl⟩ (fun E u ce q9 H locs ho hW hc1 hv1 hcl => ?_) (fun v u H locs ho hW => ?_)
  · subst ho
    rcases hE E u rfl with rfl | rfl
    · refine vx_catch (own := RL) (name := xIO) G.2.2.2.1 [] ⟨0, 9, 12, 24⟩ [⟨0, 9, 15, 15⟩] htab (fun z hz => nomatch hz) rfl (by decide) (G.2.2.2.2 _ q_13_20) (va_Nw.use rfl (hX.1.1 (165, xIO) (List.mem_of_getElem? (i := 2) rfl))) hc1 hv1 hcl ?_
      refine lv_astore_n (lv' := [(3, .ref q9), (0, .ref (h 104)), (1, .int x1), (2, .ref ao)]) G.1 G.2.1 dL_finishTime_12 rfl hl (by decide) rfl (fun ls hl => ?_)
      refine lv_iconst (v := (1 : Int32)) G.1 G.2.1 dL_finishTime_13 (by decide) ?_
      exact k_lret G hr hlk hW (show (1 : Int32) = cdL [xIO, xIS] 1 xIO by decide +kernel) rfl dL_finishTime_14
    · refine vx_catch (own := RL) (name := xIS) G.2.2.2.1 [⟨0, 9, 12, 24⟩] ⟨0, 9, 15, 15⟩ [] htab (fun z hz => by
        simp only [List.mem_cons, List.not_mem_nil, or_false] at hz
        subst hz
        exact Or.inr ⟨by decide, xIO, G.2.2.2.2 _ q_13_20, hKL.2.2.2.1⟩) rfl (by decide) (G.2.2.2.2 _ q_4_15) (va_Nw.use rfl (hX.1.1 (57, xIS) (List.mem_of_getElem? (i := 1) rfl))) hc1 hv1 hcl ?_
      refine lv_astore_n (lv' := [(3, .ref q9), (0, .ref (h 104)), (1, .int x1), (2, .ref ao)]) G.1 G.2.1 dL_finishTime_15 rfl hl (by decide) rfl (fun ls hl => ?_)
      refine lv_iconst (v := (2 : Int32)) G.1 G.2.1 dL_finishTime_16 (by decide) ?_
      exact k_lret G hr hlk hW (show (2 : Int32) = cdL [xIO, xIS] 1 xIS by decide +kernel) rfl dL_finishTime_17
  · subst ho
    refine lv_i2l (v := v.toInt64) G.1 G.2.1 dL_finishTime_7 rfl ?_
    refine va_last G.1 G.2.1 hKL.1 hW.1 hW.2.1 hW.2.2 0 1 rfl rfl k_in01 dL_finishTime_8 (fun H locs hP hD hS => ?_)
    have hW9 : KW D (va_A ((ao, .inl (cl, 1, .inr (.inl f))) :: wB cy h kp σ) s.heap.size) s.heap ((ao, .inl (cl, 1, .inr (.inl (woL (.inr (v, u)) f)))) :: wB cy h kp u) H locs := ⟨hP, hD, hS⟩
    refine lv_goto (tgt := 18) G.1 G.2.1 dL_finishTime_9 (by decide) ?_
    refine lv_iconst (v := (0 : Int32)) G.1 G.2.1 dL_finishTime_18 (by decide) ?_
    exact k_lret G hr hlk hW9 rfl rfl dL_finishTime_19
set_option maxHeartbeats 4000000 in
set_option maxRecDepth 100000 in
theorem mL_preemptions (l : Launch) (hT : l.stackTraces = false) (D : va_G) (cy cl cd : ClassId) (h : Nat → Nat) (kp : Nat) (ao : Nat) (sz n : Nat) (σ : St) (f : Nat → Int64) (x1 : Int32) {o : XRg Int32} (hf : fX4_preemptions n σ x1 = some o) (hE : ∀ E u, o = .inl (E, u) → E = xIO) : Met l yL_preemptions (Cond.codeWith yL_preemptions cL_preemptions 4 (some .int) [(0, 9, 12, 24)] :: wA) { frames := 8, cells := 1, slots := 6, locals := 132 } (KPL D cy cl cd ((ao, .inl (cl, 1, .inr (.inl f))) :: wB cy h kp σ) sz [.ref (h 104), .int x1, .ref ao]) (va_Qi (fun (r' : Int32) (_ : Unit) => r' = wcd [xIO] o) (fun _ => KB D (va_A ((ao, .inl (cl, 1, .inr (.inl f))) :: wB cy h kp σ) sz) ((ao, .inl (cl, 1, .inr (.inl (woL o f)))) :: wB cy h kp (wst o))) (va_A ((ao, .inl (cl, 1, .inr (.inl f))) :: wB cy h kp σ) sz)) 1 6 (va_A ((ao, .inl (cl, 1, .inr (.inl f))) :: wB cy h kp σ) sz) := by
  refine va_MetW (cc := cL_preemptions) (maxL := 4) (ret := (some .int)) (hh := [(0, 9, 12, 24)]) (by decide) rfl ?_
  intro p e s m args below meth c s₁ B hml hv
  obtain ⟨rfl, hsz, hP, hKL, hD0, hX⟩ := hv
  subst hsz
  have hts := atoms_spec (ws := Cond.codeWith yL_preemptions cL_preemptions 4 (some .int) [(0, 9, 12, 24)] :: wA) B.pre
  have htab := vx_table (x := yL_preemptions) B (hts _ List.mem_cons_self)
  have G : CallFix p m c cL_preemptions 4 s _ wA RL := ⟨B.exec, B.bytes, hml, findClass_of_methodNamed B.named, fun w h => hts w (List.mem_cons_of_mem _ h)⟩
  have hr := B.returns
  have hlk := B.notSynchronized
  have hK := hKL.KK
  have hW : KW D (va_A ((ao, .inl (cl, 1, .inr (.inl f))) :: wB cy h kp σ) s.heap.size) s.heap ((ao, .inl (cl, 1, .inr (.inl f))) :: wB cy h kp σ) s.heap [] := ⟨hP, hD0.self, va_S.rf⟩
  have hA : ∀ q, s.heap.size ≤ q → va_A ((ao, .inl (cl, 1, .inr (.inl f))) :: wB cy h kp σ) s.heap.size q := fun q h => Or.inr h
  have hl := lv_entry ([.ref (h 104), .int x1, .ref ao]) (n := 4) (Nat.le_of_ble_eq_true rfl)
  rw [lg_entry_eq]
  generalize (lg_sl ([.ref (h 104), .int x1, .ref ao]) ++ List.replicate (4 - (lg_sl ([.ref (h 104), .int x1, .ref ao])).length) Slot.unset).toArray = ls at hl ⊢
  have hl : lv_has ls 4 [(0, .ref (h 104)), (1, .int x1), (2, .ref ao)] := hl
  refine lv_aload_n G.1 G.2.1 dL_preemptions_0 rfl (lv_at hl 2 rfl) ?_
  refine lv_iconst (v := (0 : Int32)) G.1 G.2.1 dL_preemptions_1 (by decide) ?_
  refine lv_aload_n G.1 G.2.1 dL_preemptions_2 rfl (lv_at hl 0 rfl) ?_
  refine lv_iload_n G.1 G.2.1 dL_preemptions_3 rfl (lv_at hl 1 rfl) ?_
  refine kxl_i (w := wB cy h kp) (wr := [(ao, .inl (cl, 1, .inr (.inl f)))]) (rest := [.int (0 : Int32), .ref ao]) (n := 1) (As := [.int x1]) (C := RX4) G hK hX hA hW (mX4_preemptions l hT D cy h kp _ n σ x1 hf) (gV q_22_19 q_22_20 q_22_21 q_1_2 q_22_22) ⟨rfl, rfl⟩ (by decide +kernel) ⟨Nat.le_of_ble_eq_true rfl, Nat.le_of_ble_eq_true rfl⟩ (va_recv hK.1 hW.1 (ci := 6) (q0 := 1) rfl rfl) rfl hl.1 rfl (Nat.le_of_ble_eq_true rfl) dL_preemptions_4 ⟨Nat.le_of_ble_eq_true rfl, Nat.le_of_ble_eq_true rfl⟩ (fun E u ce q9 H locs ho hW hc1 hv1 hcl => ?_) (fun v u H locs ho hW => ?_)
  · subst ho
    obtain rfl := hE E u rfl
    refine vx_catch (own := RL) (name := xIO) G.2.2.2.1 [] ⟨0, 9, 12, 24⟩ [] htab (fun z hz => nomatch hz) rfl (by decide) (G.2.2.2.2 _ q_13_20) (va_Nw.use rfl (hX.1.1 (165, xIO) (List.mem_of_getElem? (i := 2) rfl))) hc1 hv1 hcl ?_
    refine lv_astore_n (lv' := [(3, .ref q9), (0, .ref (h 104)), (1, .int x1), (2, .ref ao)]) G.1 G.2.1 dL_preemptions_12 rfl hl (by decide) rfl (fun ls hl => ?_)
    refine lv_iconst (v := (1 : Int32)) G.1 G.2.1 dL_preemptions_13 (by decide) ?_
    exact k_lret G hr hlk hW (show (1 : Int32) = cdL [xIO] 1 xIO by decide +kernel) rfl dL_preemptions_14
  · subst ho
    refine lv_i2l (v := v.toInt64) G.1 G.2.1 dL_preemptions_7 rfl ?_
    refine va_last G.1 G.2.1 hKL.1 hW.1 hW.2.1 hW.2.2 0 1 rfl rfl k_in01 dL_preemptions_8 (fun H locs hP hD hS => ?_)
    have hW9 : KW D (va_A ((ao, .inl (cl, 1, .inr (.inl f))) :: wB cy h kp σ) s.heap.size) s.heap ((ao, .inl (cl, 1, .inr (.inl (woL (.inr (v, u)) f)))) :: wB cy h kp u) H locs := ⟨hP, hD, hS⟩
    refine lv_goto (tgt := 15) G.1 G.2.1 dL_preemptions_9 (by decide) ?_
    refine lv_iconst (v := (0 : Int32)) G.1 G.2.1 dL_preemptions_15 (by decide) ?_
    exact k_lret G hr hlk hW9 rfl rfl dL_preemptions_16
set_option maxHeartbeats 4000000 in
set_option maxRecDepth 100000 in
theorem mL_waitTime (l : Launch) (hT : l.stackTraces = false) (D : va_G) (cy cl cd : ClassId) (h : Nat → Nat) (kp : Nat) (ao : Nat) (sz n : Nat) (σ : St) (f : Nat → Int64) (x1 : Int32) {o : XRg Int32} (hf : fX4_waitTime n σ x1 = some o) (hE : ∀ E u, o = .inl (E, u) → E = xIO ∨ E = xIS) : Met l yL_waitTime (Cond.codeWith yL_waitTime cL_waitTime 4 (some .int) [(0, 9, 12, 24), (0, 9, 15, 15)] :: wA) { frames := 8, cells := 2, slots := 12, locals := 132 } (KPL D cy cl cd ((ao, .inl (cl, 1, .inr (.inl f))) :: wB cy h kp σ) sz [.ref (h 104), .int x1, .ref ao]) (va_Qi (fun (r' : Int32) (_ : Unit) => r' = wcd [xIO, xIS] o) (fun _ => KB D (va_A ((ao, .inl (cl, 1, .inr (.inl f))) :: wB cy h kp σ) sz) ((ao, .inl (cl, 1, .inr (.inl (woL o f)))) :: wB cy h kp (wst o))) (va_A ((ao, .inl (cl, 1, .inr (.inl f))) :: wB cy h kp σ) sz)) 2 12 (va_A ((ao, .inl (cl, 1, .inr (.inl f))) :: wB cy h kp σ) sz) := by
  refine va_MetW (cc := cL_waitTime) (maxL := 4) (ret := (some .int)) (hh := [(0, 9, 12, 24), (0, 9, 15, 15)]) (by decide) rfl ?_
  intro p e s m args below meth c s₁ B hml hv
  obtain ⟨rfl, hsz, hP, hKL, hD0, hX⟩ := hv
  subst hsz
  have hts := atoms_spec (ws := Cond.codeWith yL_waitTime cL_waitTime 4 (some .int) [(0, 9, 12, 24), (0, 9, 15, 15)] :: wA) B.pre
  have htab := vx_table (x := yL_waitTime) B (hts _ List.mem_cons_self)
  have G : CallFix p m c cL_waitTime 4 s _ wA RL := ⟨B.exec, B.bytes, hml, findClass_of_methodNamed B.named, fun w h => hts w (List.mem_cons_of_mem _ h)⟩
  have hr := B.returns
  have hlk := B.notSynchronized
  have hK := hKL.KK
  have hW : KW D (va_A ((ao, .inl (cl, 1, .inr (.inl f))) :: wB cy h kp σ) s.heap.size) s.heap ((ao, .inl (cl, 1, .inr (.inl f))) :: wB cy h kp σ) s.heap [] := ⟨hP, hD0.self, va_S.rf⟩
  have hA : ∀ q, s.heap.size ≤ q → va_A ((ao, .inl (cl, 1, .inr (.inl f))) :: wB cy h kp σ) s.heap.size q := fun q h => Or.inr h
  have hl := lv_entry ([.ref (h 104), .int x1, .ref ao]) (n := 4) (Nat.le_of_ble_eq_true rfl)
  rw [lg_entry_eq]
  generalize (lg_sl ([.ref (h 104), .int x1, .ref ao]) ++ List.replicate (4 - (lg_sl ([.ref (h 104), .int x1, .ref ao])).length) Slot.unset).toArray = ls at hl ⊢
  have hl : lv_has ls 4 [(0, .ref (h 104)), (1, .int x1), (2, .ref ao)] := hl
  refine lv_aload_n G.1 G.2.1 dL_waitTime_0 rfl (lv_at hl 2 rfl) ?_
  refine lv_iconst (v := (0 : Int32)) G.1 G.2.1 dL_waitTime_1 (by decide) ?_
  refine lv_aload_n G.1 G.2.1 dL_waitTime_2 rfl (lv_at hl 0 rfl) ?_
  refine lv_iload_n G.1 G.2.1 dL_waitTime_3 rfl (lv_at hl 1 rfl) ?_
  refine kxl_i (w := wB cy h kp) (wr := [(ao, .inl (cl, 1, .inr (.inl f)))]) (rest := [.int (0 : Int32), .ref ao]) (n := 1) (As := [.int x1]) (C := RX4) G hK hX hA hW (mX4_waitTime l hT D cy h kp _ n σ x1 hf) (gV q_23_7 q_23_8 q_23_9 q_1_2 q_23_10) ⟨rfl, rfl⟩ (by decide +kernel) ⟨Nat.le_of_ble_eq_true rfl, Nat.le_of_ble_eq_true rfl⟩ (va_recv hK.1 hW.1 (ci := 6) (q0 := 1) rfl rfl) rfl hl.1 rfl (Nat.le_of_ble_eq_true rfl) dL_waitTime_4 ⟨Nat.le_of_ble_eq_true rfl, Nat.le_of_ble_eq_true rfl⟩ (fun E u ce q9 H locs ho hW hc1 hv1 hcl => ?_) (fun v u H locs ho hW => ?_)
  · subst ho
    rcases hE E u rfl with rfl | rfl
    · refine vx_catch (own := RL) (name := xIO) G.2.2.2.1 [] ⟨0, 9, 12, 24⟩ [⟨0, 9, 15, 15⟩] htab (fun z hz => nomatch hz) rfl (by decide) (G.2.2.2.2 _ q_13_20) (va_Nw.use rfl (hX.1.1 (165, xIO) (List.mem_of_getElem? (i := 2) rfl))) hc1 hv1 hcl ?_
      refine lv_astore_n (lv' := [(3, .ref q9), (0, .ref (h 104)), (1, .int x1), (2, .ref ao)]) G.1 G.2.1 dL_waitTime_12 rfl hl (by decide) rfl (fun ls hl => ?_)
      refine lv_iconst (v := (1 : Int32)) G.1 G.2.1 dL_waitTime_13 (by decide) ?_
      exact k_lret G hr hlk hW (show (1 : Int32) = cdL [xIO, xIS] 1 xIO by decide +kernel) rfl dL_waitTime_14
    · refine vx_catch (own := RL) (name := xIS) G.2.2.2.1 [⟨0, 9, 12, 24⟩] ⟨0, 9, 15, 15⟩ [] htab (fun z hz => by
        simp only [List.mem_cons, List.not_mem_nil, or_false] at hz
        subst hz
        exact Or.inr ⟨by decide, xIO, G.2.2.2.2 _ q_13_20, hKL.2.2.2.1⟩) rfl (by decide) (G.2.2.2.2 _ q_4_15) (va_Nw.use rfl (hX.1.1 (57, xIS) (List.mem_of_getElem? (i := 1) rfl))) hc1 hv1 hcl ?_
      refine lv_astore_n (lv' := [(3, .ref q9), (0, .ref (h 104)), (1, .int x1), (2, .ref ao)]) G.1 G.2.1 dL_waitTime_15 rfl hl (by decide) rfl (fun ls hl => ?_)
      refine lv_iconst (v := (2 : Int32)) G.1 G.2.1 dL_waitTime_16 (by decide) ?_
      exact k_lret G hr hlk hW (show (2 : Int32) = cdL [xIO, xIS] 1 xIS by decide +kernel) rfl dL_waitTime_17
  · subst ho
    refine lv_i2l (v := v.toInt64) G.1 G.2.1 dL_waitTime_7 rfl ?_
    refine va_last G.1 G.2.1 hKL.1 hW.1 hW.2.1 hW.2.2 0 1 rfl rfl k_in01 dL_waitTime_8 (fun H locs hP hD hS => ?_)
    have hW9 : KW D (va_A ((ao, .inl (cl, 1, .inr (.inl f))) :: wB cy h kp σ) s.heap.size) s.heap ((ao, .inl (cl, 1, .inr (.inl (woL (.inr (v, u)) f)))) :: wB cy h kp u) H locs := ⟨hP, hD, hS⟩
    refine lv_goto (tgt := 18) G.1 G.2.1 dL_waitTime_9 (by decide) ?_
    refine lv_iconst (v := (0 : Int32)) G.1 G.2.1 dL_waitTime_18 (by decide) ?_
    exact k_lret G hr hlk hW9 rfl rfl dL_waitTime_19
set_option maxHeartbeats 4000000 in
set_option maxRecDepth 100000 in
theorem mL_averageWait (l : Launch) (hT : l.stackTraces = false) (D : va_G) (cy cl cd : ClassId) (h : Nat → Nat) (kp : Nat) (ao : Nat) (sz n : Nat) (σ : St) (f : Nat → UInt64) {o : XRg UInt64} (hf : fX4_averageWait n σ = some o) (hE : ∀ E u, o = .inl (E, u) → E = xAE) : Met l yL_averageWait (Cond.codeWith yL_averageWait cL_averageWait 3 (some .int) [(0, 7, 10, 66)] :: wA) { frames := 7, cells := 1, slots := 6, locals := 113 } (KPL D cy cl cd ((ao, .inl (cd, 1, .inr (.inr (.inr (.inl f))))) :: wB cy h kp σ) sz [.ref (h 104), .ref ao]) (va_Qi (fun (r' : Int32) (_ : Unit) => r' = wcd [xAE] o) (fun _ => KB D (va_A ((ao, .inl (cd, 1, .inr (.inr (.inr (.inl f))))) :: wB cy h kp σ) sz) ((ao, .inl (cd, 1, .inr (.inr (.inr (.inl (woD o f)))))) :: wB cy h kp (wst o))) (va_A ((ao, .inl (cd, 1, .inr (.inr (.inr (.inl f))))) :: wB cy h kp σ) sz)) 1 6 (va_A ((ao, .inl (cd, 1, .inr (.inr (.inr (.inl f))))) :: wB cy h kp σ) sz) := by
  refine va_MetW (cc := cL_averageWait) (maxL := 3) (ret := (some .int)) (hh := [(0, 7, 10, 66)]) (by decide) rfl ?_
  intro p e s m args below meth c s₁ B hml hv
  obtain ⟨rfl, hsz, hP, hKL, hD0, hX⟩ := hv
  subst hsz
  have hts := atoms_spec (ws := Cond.codeWith yL_averageWait cL_averageWait 3 (some .int) [(0, 7, 10, 66)] :: wA) B.pre
  have htab := vx_table (x := yL_averageWait) B (hts _ List.mem_cons_self)
  have G : CallFix p m c cL_averageWait 3 s _ wA RL := ⟨B.exec, B.bytes, hml, findClass_of_methodNamed B.named, fun w h => hts w (List.mem_cons_of_mem _ h)⟩
  have hr := B.returns
  have hlk := B.notSynchronized
  have hK := hKL.KK
  have hW : KW D (va_A ((ao, .inl (cd, 1, .inr (.inr (.inr (.inl f))))) :: wB cy h kp σ) s.heap.size) s.heap ((ao, .inl (cd, 1, .inr (.inr (.inr (.inl f))))) :: wB cy h kp σ) s.heap [] := ⟨hP, hD0.self, va_S.rf⟩
  have hA : ∀ q, s.heap.size ≤ q → va_A ((ao, .inl (cd, 1, .inr (.inr (.inr (.inl f))))) :: wB cy h kp σ) s.heap.size q := fun q h => Or.inr h
  have hl := lv_entry ([.ref (h 104), .ref ao]) (n := 3) (Nat.le_of_ble_eq_true rfl)
  rw [lg_entry_eq]
  generalize (lg_sl ([.ref (h 104), .ref ao]) ++ List.replicate (3 - (lg_sl ([.ref (h 104), .ref ao])).length) Slot.unset).toArray = ls at hl ⊢
  have hl : lv_has ls 3 [(0, .ref (h 104)), (1, .ref ao)] := hl
  refine lv_aload_n G.1 G.2.1 dL_averageWait_0 rfl (lv_at hl 1 rfl) ?_
  refine lv_iconst (v := (0 : Int32)) G.1 G.2.1 dL_averageWait_1 (by decide) ?_
  refine lv_aload_n G.1 G.2.1 dL_averageWait_2 rfl (lv_at hl 0 rfl) ?_
  refine kxl_d (w := wB cy h kp) (wr := [(ao, .inl (cd, 1, .inr (.inr (.inr (.inl f)))))]) (rest := [.int (0 : Int32), .ref ao]) (n := 0) (As := []) (C := RX4) G hK hX hA hW (mX4_averageWait l hT D cy h kp _ n σ  hf) (gV q_24_0 q_24_1 q_24_2 q_1_2 q_24_3) ⟨rfl, rfl⟩ (by decide +kernel) ⟨Nat.le_of_ble_eq_true rfl, Nat.le_of_ble_eq_true rfl⟩ (va_recv hK.1 hW.1 (ci := 6) (q0 := 1) rfl rfl) rfl hl.1 rfl (Nat.le_of_ble_eq_true rfl) dL_averageWait_3 ⟨Nat.le_of_ble_eq_true rfl, Nat.le_of_ble_eq_true rfl⟩ (fun E u ce q9 H locs ho hW hc1 hv1 hcl => ?_) (fun v u H locs ho hW => ?_)
  · subst ho
    obtain rfl := hE E u rfl
    refine vx_catch (own := RL) (name := xAE) G.2.2.2.1 [] ⟨0, 7, 10, 66⟩ [] htab (fun z hz => nomatch hz) rfl (by decide) (G.2.2.2.2 _ q_23_23) (va_Nw.use rfl (hX.1.1 (154, xAE) (List.mem_of_getElem? (i := 3) rfl))) hc1 hv1 hcl ?_
    refine lv_astore_n (lv' := [(2, .ref q9), (0, .ref (h 104)), (1, .ref ao)]) G.1 G.2.1 dL_averageWait_10 rfl hl (by decide) rfl (fun ls hl => ?_)
    refine lv_iconst (v := (1 : Int32)) G.1 G.2.1 dL_averageWait_11 (by decide) ?_
    exact k_lret G hr hlk hW (show (1 : Int32) = cdL [xAE] 1 xAE by decide +kernel) rfl dL_averageWait_12
  · subst ho
    refine va_dast G.1 G.2.1 hKL.1 hW.1 hW.2.1 hW.2.2 0 2 rfl rfl k_in01 dL_averageWait_6 (fun H locs hP hD hS => ?_)
    have hW9 : KW D (va_A ((ao, .inl (cd, 1, .inr (.inr (.inr (.inl f))))) :: wB cy h kp σ) s.heap.size) s.heap ((ao, .inl (cd, 1, .inr (.inr (.inr (.inl (woD (.inr (v, u)) f)))))) :: wB cy h kp u) H locs := ⟨hP, hD, hS⟩
    refine lv_goto (tgt := 13) G.1 G.2.1 dL_averageWait_7 (by decide) ?_
    refine lv_iconst (v := (0 : Int32)) G.1 G.2.1 dL_averageWait_13 (by decide) ?_
    exact k_lret G hr hlk hW9 rfl rfl dL_averageWait_14
set_option maxHeartbeats 4000000 in
set_option maxRecDepth 100000 in
theorem mL_slowdown (l : Launch) (hT : l.stackTraces = false) (D : va_G) (cy cl cd : ClassId) (h : Nat → Nat) (kp : Nat) (ao : Nat) (sz n : Nat) (σ : St) (f : Nat → UInt64) (x1 : Int32) {o : XRg UInt32} (hf : fX4_slowdown n σ x1 = some o) (hE : ∀ E u, o = .inl (E, u) → E = xIO ∨ E = xIS) (hnn : ∀ v u, o = .inr (v, u) → vf_n64 (FP.f2d v)) : Met l yL_slowdown (Cond.codeWith yL_slowdown cL_slowdown 4 (some .int) [(0, 9, 12, 24), (0, 9, 15, 15)] :: wA) { frames := 8, cells := 2, slots := 12, locals := 133 } (KPL D cy cl cd ((ao, .inl (cd, 1, .inr (.inr (.inr (.inl f))))) :: wB cy h kp σ) sz [.ref (h 104), .int x1, .ref ao]) (va_Qi (fun (r' : Int32) (_ : Unit) => r' = wcd [xIO, xIS] o) (fun _ => KB D (va_A ((ao, .inl (cd, 1, .inr (.inr (.inr (.inl f))))) :: wB cy h kp σ) sz) ((ao, .inl (cd, 1, .inr (.inr (.inr (.inl (woF o f)))))) :: wB cy h kp (wst o))) (va_A ((ao, .inl (cd, 1, .inr (.inr (.inr (.inl f))))) :: wB cy h kp σ) sz)) 2 12 (va_A ((ao, .inl (cd, 1, .inr (.inr (.inr (.inl f))))) :: wB cy h kp σ) sz) := by
  refine va_MetW (cc := cL_slowdown) (maxL := 4) (ret := (some .int)) (hh := [(0, 9, 12, 24), (0, 9, 15, 15)]) (by decide) rfl ?_
  intro p e s m args below meth c s₁ B hml hv
  obtain ⟨rfl, hsz, hP, hKL, hD0, hX⟩ := hv
  subst hsz
  have hts := atoms_spec (ws := Cond.codeWith yL_slowdown cL_slowdown 4 (some .int) [(0, 9, 12, 24), (0, 9, 15, 15)] :: wA) B.pre
  have htab := vx_table (x := yL_slowdown) B (hts _ List.mem_cons_self)
  have G : CallFix p m c cL_slowdown 4 s _ wA RL := ⟨B.exec, B.bytes, hml, findClass_of_methodNamed B.named, fun w h => hts w (List.mem_cons_of_mem _ h)⟩
  have hr := B.returns
  have hlk := B.notSynchronized
  have hK := hKL.KK
  have hW : KW D (va_A ((ao, .inl (cd, 1, .inr (.inr (.inr (.inl f))))) :: wB cy h kp σ) s.heap.size) s.heap ((ao, .inl (cd, 1, .inr (.inr (.inr (.inl f))))) :: wB cy h kp σ) s.heap [] := ⟨hP, hD0.self, va_S.rf⟩
  have hA : ∀ q, s.heap.size ≤ q → va_A ((ao, .inl (cd, 1, .inr (.inr (.inr (.inl f))))) :: wB cy h kp σ) s.heap.size q := fun q h => Or.inr h
  have hl := lv_entry ([.ref (h 104), .int x1, .ref ao]) (n := 4) (Nat.le_of_ble_eq_true rfl)
  rw [lg_entry_eq]
  generalize (lg_sl ([.ref (h 104), .int x1, .ref ao]) ++ List.replicate (4 - (lg_sl ([.ref (h 104), .int x1, .ref ao])).length) Slot.unset).toArray = ls at hl ⊢
  have hl : lv_has ls 4 [(0, .ref (h 104)), (1, .int x1), (2, .ref ao)] := hl
  refine lv_aload_n G.1 G.2.1 dL_slowdown_0 rfl (lv_at hl 2 rfl) ?_
  refine lv_iconst (v := (0 : Int32)) G.1 G.2.1 dL_slowdown_1 (by decide) ?_
  refine lv_aload_n G.1 G.2.1 dL_slowdown_2 rfl (lv_at hl 0 rfl) ?_
  refine lv_iload_n G.1 G.2.1 dL_slowdown_3 rfl (lv_at hl 1 rfl) ?_
  refine kxl_f (w := wB cy h kp) (wr := [(ao, .inl (cd, 1, .inr (.inr (.inr (.inl f)))))]) (rest := [.int (0 : Int32), .ref ao]) (n := 1) (As := [.int x1]) (C := RX4) G hK hX hA hW (mX4_slowdown l hT D cy h kp _ n σ x1 hf) (gV q_24_13 q_24_14 q_24_15 q_1_2 q_24_16) ⟨rfl, rfl⟩ (by decide +kernel) ⟨Nat.le_of_ble_eq_true rfl, Nat.le_of_ble_eq_true rfl⟩ (va_recv hK.1 hW.1 (ci := 6) (q0 := 1) rfl rfl) rfl hl.1 rfl (Nat.le_of_ble_eq_true rfl) dL_slowdown_4 ⟨Nat.le_of_ble_eq_true rfl, Nat.le_of_ble_eq_true rfl⟩ (fun E u ce q9 H locs ho hW hc1 hv1 hcl => ?_) (fun v u H locs ho hW => ?_)
  · subst ho
    rcases hE E u rfl with rfl | rfl
    · refine vx_catch (own := RL) (name := xIO) G.2.2.2.1 [] ⟨0, 9, 12, 24⟩ [⟨0, 9, 15, 15⟩] htab (fun z hz => nomatch hz) rfl (by decide) (G.2.2.2.2 _ q_13_20) (va_Nw.use rfl (hX.1.1 (165, xIO) (List.mem_of_getElem? (i := 2) rfl))) hc1 hv1 hcl ?_
      refine lv_astore_n (lv' := [(3, .ref q9), (0, .ref (h 104)), (1, .int x1), (2, .ref ao)]) G.1 G.2.1 dL_slowdown_12 rfl hl (by decide) rfl (fun ls hl => ?_)
      refine lv_iconst (v := (1 : Int32)) G.1 G.2.1 dL_slowdown_13 (by decide) ?_
      exact k_lret G hr hlk hW (show (1 : Int32) = cdL [xIO, xIS] 1 xIO by decide +kernel) rfl dL_slowdown_14
    · refine vx_catch (own := RL) (name := xIS) G.2.2.2.1 [⟨0, 9, 12, 24⟩] ⟨0, 9, 15, 15⟩ [] htab (fun z hz => by
        simp only [List.mem_cons, List.not_mem_nil, or_false] at hz
        subst hz
        exact Or.inr ⟨by decide, xIO, G.2.2.2.2 _ q_13_20, hKL.2.2.2.1⟩) rfl (by decide) (G.2.2.2.2 _ q_4_15) (va_Nw.use rfl (hX.1.1 (57, xIS) (List.mem_of_getElem? (i := 1) rfl))) hc1 hv1 hcl ?_
      refine lv_astore_n (lv' := [(3, .ref q9), (0, .ref (h 104)), (1, .int x1), (2, .ref ao)]) G.1 G.2.1 dL_slowdown_15 rfl hl (by decide) rfl (fun ls hl => ?_)
      refine lv_iconst (v := (2 : Int32)) G.1 G.2.1 dL_slowdown_16 (by decide) ?_
      exact k_lret G hr hlk hW (show (2 : Int32) = cdL [xIO, xIS] 1 xIS by decide +kernel) rfl dL_slowdown_17
  · subst ho
    refine lv_f2d G.1 G.2.1 dL_slowdown_7 (hnn v u rfl) ?_
    refine va_dast G.1 G.2.1 hKL.1 hW.1 hW.2.1 hW.2.2 0 2 rfl rfl k_in01 dL_slowdown_8 (fun H locs hP hD hS => ?_)
    have hW9 : KW D (va_A ((ao, .inl (cd, 1, .inr (.inr (.inr (.inl f))))) :: wB cy h kp σ) s.heap.size) s.heap ((ao, .inl (cd, 1, .inr (.inr (.inr (.inl (woF (.inr (v, u)) f)))))) :: wB cy h kp u) H locs := ⟨hP, hD, hS⟩
    refine lv_goto (tgt := 18) G.1 G.2.1 dL_slowdown_9 (by decide) ?_
    refine lv_iconst (v := (0 : Int32)) G.1 G.2.1 dL_slowdown_18 (by decide) ?_
    exact k_lret G hr hlk hW9 rfl rfl dL_slowdown_19
set_option maxHeartbeats 4000000 in
set_option maxRecDepth 100000 in
theorem mL_usage (l : Launch) (hT : l.stackTraces = false) (D : va_G) (cy cl cd : ClassId) (h : Nat → Nat) (kp : Nat) (ao : Nat) (sz n : Nat) (σ : St) (f : Nat → Int64) (x1 : Int32) {o : XRg Int32} (hf : fX4_usage n σ x1 = some o) (hE : ∀ E u, o = .inl (E, u) → E = xIO) : Met l yL_usage (Cond.codeWith yL_usage cL_usage 4 (some .int) [(0, 9, 12, 24)] :: wA) { frames := 7, cells := 1, slots := 6, locals := 111 } (KPL D cy cl cd ((ao, .inl (cl, 1, .inr (.inl f))) :: wB cy h kp σ) sz [.ref (h 104), .int x1, .ref ao]) (va_Qi (fun (r' : Int32) (_ : Unit) => r' = wcd [xIO] o) (fun _ => KB D (va_A ((ao, .inl (cl, 1, .inr (.inl f))) :: wB cy h kp σ) sz) ((ao, .inl (cl, 1, .inr (.inl (woL o f)))) :: wB cy h kp (wst o))) (va_A ((ao, .inl (cl, 1, .inr (.inl f))) :: wB cy h kp σ) sz)) 1 6 (va_A ((ao, .inl (cl, 1, .inr (.inl f))) :: wB cy h kp σ) sz) := by
  refine va_MetW (cc := cL_usage) (maxL := 4) (ret := (some .int)) (hh := [(0, 9, 12, 24)]) (by decide) rfl ?_
  intro p e s m args below meth c s₁ B hml hv
  obtain ⟨rfl, hsz, hP, hKL, hD0, hX⟩ := hv
  subst hsz
  have hts := atoms_spec (ws := Cond.codeWith yL_usage cL_usage 4 (some .int) [(0, 9, 12, 24)] :: wA) B.pre
  have htab := vx_table (x := yL_usage) B (hts _ List.mem_cons_self)
  have G : CallFix p m c cL_usage 4 s _ wA RL := ⟨B.exec, B.bytes, hml, findClass_of_methodNamed B.named, fun w h => hts w (List.mem_cons_of_mem _ h)⟩
  have hr := B.returns
  have hlk := B.notSynchronized
  have hK := hKL.KK
  have hW : KW D (va_A ((ao, .inl (cl, 1, .inr (.inl f))) :: wB cy h kp σ) s.heap.size) s.heap ((ao, .inl (cl, 1, .inr (.inl f))) :: wB cy h kp σ) s.heap [] := ⟨hP, hD0.self, va_S.rf⟩
  have hA : ∀ q, s.heap.size ≤ q → va_A ((ao, .inl (cl, 1, .inr (.inl f))) :: wB cy h kp σ) s.heap.size q := fun q h => Or.inr h
  have hl := lv_entry ([.ref (h 104), .int x1, .ref ao]) (n := 4) (Nat.le_of_ble_eq_true rfl)
  rw [lg_entry_eq]
  generalize (lg_sl ([.ref (h 104), .int x1, .ref ao]) ++ List.replicate (4 - (lg_sl ([.ref (h 104), .int x1, .ref ao])).length) Slot.unset).toArray = ls at hl ⊢
  have hl : lv_has ls 4 [(0, .ref (h 104)), (1, .int x1), (2, .ref ao)] := hl
  refine lv_aload_n G.1 G.2.1 dL_usage_0 rfl (lv_at hl 2 rfl) ?_
  refine lv_iconst (v := (0 : Int32)) G.1 G.2.1 dL_usage_1 (by decide) ?_
  refine lv_aload_n G.1 G.2.1 dL_usage_2 rfl (lv_at hl 0 rfl) ?_
  refine lv_iload_n G.1 G.2.1 dL_usage_3 rfl (lv_at hl 1 rfl) ?_
  refine kxl_i (w := wB cy h kp) (wr := [(ao, .inl (cl, 1, .inr (.inl f)))]) (rest := [.int (0 : Int32), .ref ao]) (n := 1) (As := [.int x1]) (C := RX4) G hK hX hA hW (mX4_usage l hT D cy h kp _ n σ x1 hf) (gV q_25_2 q_25_3 q_25_4 q_1_2 q_25_5) ⟨rfl, rfl⟩ (by decide +kernel) ⟨Nat.le_of_ble_eq_true rfl, Nat.le_of_ble_eq_true rfl⟩ (va_recv hK.1 hW.1 (ci := 6) (q0 := 1) rfl rfl) rfl hl.1 rfl (Nat.le_of_ble_eq_true rfl) dL_usage_4 ⟨Nat.le_of_ble_eq_true rfl, Nat.le_of_ble_eq_true rfl⟩ (fun E u ce q9 H locs ho hW hc1 hv1 hcl => ?_) (fun v u H locs ho hW => ?_)
  · subst ho
    obtain rfl := hE E u rfl
    refine vx_catch (own := RL) (name := xIO) G.2.2.2.1 [] ⟨0, 9, 12, 24⟩ [] htab (fun z hz => nomatch hz) rfl (by decide) (G.2.2.2.2 _ q_13_20) (va_Nw.use rfl (hX.1.1 (165, xIO) (List.mem_of_getElem? (i := 2) rfl))) hc1 hv1 hcl ?_
    refine lv_astore_n (lv' := [(3, .ref q9), (0, .ref (h 104)), (1, .int x1), (2, .ref ao)]) G.1 G.2.1 dL_usage_12 rfl hl (by decide) rfl (fun ls hl => ?_)
    refine lv_iconst (v := (1 : Int32)) G.1 G.2.1 dL_usage_13 (by decide) ?_
    exact k_lret G hr hlk hW (show (1 : Int32) = cdL [xIO] 1 xIO by decide +kernel) rfl dL_usage_14
  · subst ho
    refine lv_i2l (v := v.toInt64) G.1 G.2.1 dL_usage_7 rfl ?_
    refine va_last G.1 G.2.1 hKL.1 hW.1 hW.2.1 hW.2.2 0 1 rfl rfl k_in01 dL_usage_8 (fun H locs hP hD hS => ?_)
    have hW9 : KW D (va_A ((ao, .inl (cl, 1, .inr (.inl f))) :: wB cy h kp σ) s.heap.size) s.heap ((ao, .inl (cl, 1, .inr (.inl (woL (.inr (v, u)) f)))) :: wB cy h kp u) H locs := ⟨hP, hD, hS⟩
    refine lv_goto (tgt := 15) G.1 G.2.1 dL_usage_9 (by decide) ?_
    refine lv_iconst (v := (0 : Int32)) G.1 G.2.1 dL_usage_15 (by decide) ?_
    exact k_lret G hr hlk hW9 rfl rfl dL_usage_16
set_option maxHeartbeats 4000000 in
set_option maxRecDepth 100000 in
theorem mL_utilization (l : Launch) (hT : l.stackTraces = false) (D : va_G) (cy cl cd : ClassId) (h : Nat → Nat) (kp : Nat) (ao : Nat) (sz n : Nat) (σ : St) (f : Nat → UInt64) {o : XRg UInt64} (hf : fX4_utilization n σ = some o) (hE : ∀ E u, o = .inl (E, u) → E = xAE) : Met l yL_utilization (Cond.codeWith yL_utilization cL_utilization 3 (some .int) [(0, 7, 10, 66)] :: wA) { frames := 7, cells := 1, slots := 6, locals := 112 } (KPL D cy cl cd ((ao, .inl (cd, 1, .inr (.inr (.inr (.inl f))))) :: wB cy h kp σ) sz [.ref (h 104), .ref ao]) (va_Qi (fun (r' : Int32) (_ : Unit) => r' = wcd [xAE] o) (fun _ => KB D (va_A ((ao, .inl (cd, 1, .inr (.inr (.inr (.inl f))))) :: wB cy h kp σ) sz) ((ao, .inl (cd, 1, .inr (.inr (.inr (.inl (woD o f)))))) :: wB cy h kp (wst o))) (va_A ((ao, .inl (cd, 1, .inr (.inr (.inr (.inl f))))) :: wB cy h kp σ) sz)) 1 6 (va_A ((ao, .inl (cd, 1, .inr (.inr (.inr (.inl f))))) :: wB cy h kp σ) sz) := by
  refine va_MetW (cc := cL_utilization) (maxL := 3) (ret := (some .int)) (hh := [(0, 7, 10, 66)]) (by decide) rfl ?_
  intro p e s m args below meth c s₁ B hml hv
  obtain ⟨rfl, hsz, hP, hKL, hD0, hX⟩ := hv
  subst hsz
  have hts := atoms_spec (ws := Cond.codeWith yL_utilization cL_utilization 3 (some .int) [(0, 7, 10, 66)] :: wA) B.pre
  have htab := vx_table (x := yL_utilization) B (hts _ List.mem_cons_self)
  have G : CallFix p m c cL_utilization 3 s _ wA RL := ⟨B.exec, B.bytes, hml, findClass_of_methodNamed B.named, fun w h => hts w (List.mem_cons_of_mem _ h)⟩
  have hr := B.returns
  have hlk := B.notSynchronized
  have hK := hKL.KK
  have hW : KW D (va_A ((ao, .inl (cd, 1, .inr (.inr (.inr (.inl f))))) :: wB cy h kp σ) s.heap.size) s.heap ((ao, .inl (cd, 1, .inr (.inr (.inr (.inl f))))) :: wB cy h kp σ) s.heap [] := ⟨hP, hD0.self, va_S.rf⟩
  have hA : ∀ q, s.heap.size ≤ q → va_A ((ao, .inl (cd, 1, .inr (.inr (.inr (.inl f))))) :: wB cy h kp σ) s.heap.size q := fun q h => Or.inr h
  have hl := lv_entry ([.ref (h 104), .ref ao]) (n := 3) (Nat.le_of_ble_eq_true rfl)
  rw [lg_entry_eq]
  generalize (lg_sl ([.ref (h 104), .ref ao]) ++ List.replicate (3 - (lg_sl ([.ref (h 104), .ref ao])).length) Slot.unset).toArray = ls at hl ⊢
  have hl : lv_has ls 3 [(0, .ref (h 104)), (1, .ref ao)] := hl
  refine lv_aload_n G.1 G.2.1 dL_utilization_0 rfl (lv_at hl 1 rfl) ?_
  refine lv_iconst (v := (0 : Int32)) G.1 G.2.1 dL_utilization_1 (by decide) ?_
  refine lv_aload_n G.1 G.2.1 dL_utilization_2 rfl (lv_at hl 0 rfl) ?_
  refine kxl_d (w := wB cy h kp) (wr := [(ao, .inl (cd, 1, .inr (.inr (.inr (.inl f)))))]) (rest := [.int (0 : Int32), .ref ao]) (n := 0) (As := []) (C := RX4) G hK hX hA hW (mX4_utilization l hT D cy h kp _ n σ  hf) (gV q_25_14 q_25_15 q_25_16 q_1_2 q_25_17) ⟨rfl, rfl⟩ (by decide +kernel) ⟨Nat.le_of_ble_eq_true rfl, Nat.le_of_ble_eq_true rfl⟩ (va_recv hK.1 hW.1 (ci := 6) (q0 := 1) rfl rfl) rfl hl.1 rfl (Nat.le_of_ble_eq_true rfl) dL_utilization_3 ⟨Nat.le_of_ble_eq_true rfl, Nat.le_of_ble_eq_true rfl⟩ (fun E u ce q9 H locs ho hW hc1 hv1 hcl => ?_) (fun v u H locs ho hW => ?_)
  · subst ho
    obtain rfl := hE E u rfl
    refine vx_catch (own := RL) (name := xAE) G.2.2.2.1 [] ⟨0, 7, 10, 66⟩ [] htab (fun z hz => nomatch hz) rfl (by decide) (G.2.2.2.2 _ q_23_23) (va_Nw.use rfl (hX.1.1 (154, xAE) (List.mem_of_getElem? (i := 3) rfl))) hc1 hv1 hcl ?_
    refine lv_astore_n (lv' := [(2, .ref q9), (0, .ref (h 104)), (1, .ref ao)]) G.1 G.2.1 dL_utilization_10 rfl hl (by decide) rfl (fun ls hl => ?_)
    refine lv_iconst (v := (1 : Int32)) G.1 G.2.1 dL_utilization_11 (by decide) ?_
    exact k_lret G hr hlk hW (show (1 : Int32) = cdL [xAE] 1 xAE by decide +kernel) rfl dL_utilization_12
  · subst ho
    refine va_dast G.1 G.2.1 hKL.1 hW.1 hW.2.1 hW.2.2 0 2 rfl rfl k_in01 dL_utilization_6 (fun H locs hP hD hS => ?_)
    have hW9 : KW D (va_A ((ao, .inl (cd, 1, .inr (.inr (.inr (.inl f))))) :: wB cy h kp σ) s.heap.size) s.heap ((ao, .inl (cd, 1, .inr (.inr (.inr (.inl (woD (.inr (v, u)) f)))))) :: wB cy h kp u) H locs := ⟨hP, hD, hS⟩
    refine lv_goto (tgt := 13) G.1 G.2.1 dL_utilization_7 (by decide) ?_
    refine lv_iconst (v := (0 : Int32)) G.1 G.2.1 dL_utilization_13 (by decide) ?_
    exact k_lret G hr hlk hW9 rfl rfl dL_utilization_14
set_option maxHeartbeats 4000000 in
set_option maxRecDepth 100000 in
theorem mL_ownerAt (l : Launch) (hT : l.stackTraces = false) (D : va_G) (cy cl cd : ClassId) (h : Nat → Nat) (kp : Nat) (ao : Nat) (sz n : Nat) (σ : St) (f : Nat → Int64) (x1 : Int32) (x2 : Int32) {o : XRg Int32} (hf : fX4_ownerAt n σ x1 x2 = some o) (hE : ∀ E u, o = .inl (E, u) → E = xIO) : Met l yL_ownerAt (Cond.codeWith yL_ownerAt cL_ownerAt 5 (some .int) [(0, 10, 13, 24)] :: wA) { frames := 7, cells := 1, slots := 6, locals := 113 } (KPL D cy cl cd ((ao, .inl (cl, 1, .inr (.inl f))) :: wB cy h kp σ) sz [.ref (h 104), .int x1, .int x2, .ref ao]) (va_Qi (fun (r' : Int32) (_ : Unit) => r' = wcd [xIO] o) (fun _ => KB D (va_A ((ao, .inl (cl, 1, .inr (.inl f))) :: wB cy h kp σ) sz) ((ao, .inl (cl, 1, .inr (.inl (woL o f)))) :: wB cy h kp (wst o))) (va_A ((ao, .inl (cl, 1, .inr (.inl f))) :: wB cy h kp σ) sz)) 1 6 (va_A ((ao, .inl (cl, 1, .inr (.inl f))) :: wB cy h kp σ) sz) := by
  refine va_MetW (cc := cL_ownerAt) (maxL := 5) (ret := (some .int)) (hh := [(0, 10, 13, 24)]) (by decide) rfl ?_
  intro p e s m args below meth c s₁ B hml hv
  obtain ⟨rfl, hsz, hP, hKL, hD0, hX⟩ := hv
  subst hsz
  have hts := atoms_spec (ws := Cond.codeWith yL_ownerAt cL_ownerAt 5 (some .int) [(0, 10, 13, 24)] :: wA) B.pre
  have htab := vx_table (x := yL_ownerAt) B (hts _ List.mem_cons_self)
  have G : CallFix p m c cL_ownerAt 5 s _ wA RL := ⟨B.exec, B.bytes, hml, findClass_of_methodNamed B.named, fun w h => hts w (List.mem_cons_of_mem _ h)⟩
  have hr := B.returns
  have hlk := B.notSynchronized
  have hK := hKL.KK
  have hW : KW D (va_A ((ao, .inl (cl, 1, .inr (.inl f))) :: wB cy h kp σ) s.heap.size) s.heap ((ao, .inl (cl, 1, .inr (.inl f))) :: wB cy h kp σ) s.heap [] := ⟨hP, hD0.self, va_S.rf⟩
  have hA : ∀ q, s.heap.size ≤ q → va_A ((ao, .inl (cl, 1, .inr (.inl f))) :: wB cy h kp σ) s.heap.size q := fun q h => Or.inr h
  have hl := lv_entry ([.ref (h 104), .int x1, .int x2, .ref ao]) (n := 5) (Nat.le_of_ble_eq_true rfl)
  rw [lg_entry_eq]
  generalize (lg_sl ([.ref (h 104), .int x1, .int x2, .ref ao]) ++ List.replicate (5 - (lg_sl ([.ref (h 104), .int x1, .int x2, .ref ao])).length) Slot.unset).toArray = ls at hl ⊢
  have hl : lv_has ls 5 [(0, .ref (h 104)), (1, .int x1), (2, .int x2), (3, .ref ao)] := hl
  refine lv_aload_n G.1 G.2.1 dL_ownerAt_0 rfl (lv_at hl 3 rfl) ?_
  refine lv_iconst (v := (0 : Int32)) G.1 G.2.1 dL_ownerAt_1 (by decide) ?_
  refine lv_aload_n G.1 G.2.1 dL_ownerAt_2 rfl (lv_at hl 0 rfl) ?_
  refine lv_iload_n G.1 G.2.1 dL_ownerAt_3 rfl (lv_at hl 1 rfl) ?_
  refine lv_iload_n G.1 G.2.1 dL_ownerAt_4 rfl (lv_at hl 2 rfl) ?_
  refine kxl_i (w := wB cy h kp) (wr := [(ao, .inl (cl, 1, .inr (.inl f)))]) (rest := [.int (0 : Int32), .ref ao]) (n := 2) (As := [.int x1, .int x2]) (C := RX4) G hK hX hA hW (mX4_ownerAt l hT D cy h kp _ n σ x1 x2 hf) (gV q_26_19 q_26_20 q_26_21 q_1_2 q_26_22) ⟨rfl, rfl⟩ (by decide +kernel) ⟨Nat.le_of_ble_eq_true rfl, Nat.le_of_ble_eq_true rfl⟩ (va_recv hK.1 hW.1 (ci := 6) (q0 := 1) rfl rfl) rfl hl.1 rfl (Nat.le_of_ble_eq_true rfl) dL_ownerAt_5 ⟨Nat.le_of_ble_eq_true rfl, Nat.le_of_ble_eq_true rfl⟩ (fun E u ce q9 H locs ho hW hc1 hv1 hcl => ?_) (fun v u H locs ho hW => ?_)
  · subst ho
    obtain rfl := hE E u rfl
    refine vx_catch (own := RL) (name := xIO) G.2.2.2.1 [] ⟨0, 10, 13, 24⟩ [] htab (fun z hz => nomatch hz) rfl (by decide) (G.2.2.2.2 _ q_13_20) (va_Nw.use rfl (hX.1.1 (165, xIO) (List.mem_of_getElem? (i := 2) rfl))) hc1 hv1 hcl ?_
    refine lv_astore (lv' := [(4, .ref q9), (0, .ref (h 104)), (1, .int x1), (2, .int x2), (3, .ref ao)]) G.1 G.2.1 dL_ownerAt_13 hl (by decide) rfl (fun ls hl => ?_)
    refine lv_iconst (v := (1 : Int32)) G.1 G.2.1 dL_ownerAt_15 (by decide) ?_
    exact k_lret G hr hlk hW (show (1 : Int32) = cdL [xIO] 1 xIO by decide +kernel) rfl dL_ownerAt_16
  · subst ho
    refine lv_i2l (v := v.toInt64) G.1 G.2.1 dL_ownerAt_8 rfl ?_
    refine va_last G.1 G.2.1 hKL.1 hW.1 hW.2.1 hW.2.2 0 1 rfl rfl k_in01 dL_ownerAt_9 (fun H locs hP hD hS => ?_)
    have hW9 : KW D (va_A ((ao, .inl (cl, 1, .inr (.inl f))) :: wB cy h kp σ) s.heap.size) s.heap ((ao, .inl (cl, 1, .inr (.inl (woL (.inr (v, u)) f)))) :: wB cy h kp u) H locs := ⟨hP, hD, hS⟩
    refine lv_goto (tgt := 17) G.1 G.2.1 dL_ownerAt_10 (by decide) ?_
    refine lv_iconst (v := (0 : Int32)) G.1 G.2.1 dL_ownerAt_17 (by decide) ?_
    exact k_lret G hr hlk hW9 rfl rfl dL_ownerAt_18
set_option maxHeartbeats 4000000 in
set_option maxRecDepth 100000 in
theorem mL_freeProcessors (l : Launch) (hT : l.stackTraces = false) (D : va_G) (cy cl cd : ClassId) (h : Nat → Nat) (kp : Nat) (ao : Nat) (sz n : Nat) (σ : St) (f : Nat → Int64) (x1 : Int32) {o : XRg Int32} (hf : fX4_freeProcessors n σ x1 = some o) (hE : ∀ E u, o = .inl (E, u) → E = xIO) : Met l yL_freeProcessors (Cond.codeWith yL_freeProcessors cL_freeProcessors 4 (some .int) [(0, 9, 12, 24)] :: wA) { frames := 7, cells := 1, slots := 6, locals := 111 } (KPL D cy cl cd ((ao, .inl (cl, 1, .inr (.inl f))) :: wB cy h kp σ) sz [.ref (h 104), .int x1, .ref ao]) (va_Qi (fun (r' : Int32) (_ : Unit) => r' = wcd [xIO] o) (fun _ => KB D (va_A ((ao, .inl (cl, 1, .inr (.inl f))) :: wB cy h kp σ) sz) ((ao, .inl (cl, 1, .inr (.inl (woL o f)))) :: wB cy h kp (wst o))) (va_A ((ao, .inl (cl, 1, .inr (.inl f))) :: wB cy h kp σ) sz)) 1 6 (va_A ((ao, .inl (cl, 1, .inr (.inl f))) :: wB cy h kp σ) sz) := by
  refine va_MetW (cc := cL_freeProcessors) (maxL := 4) (ret := (some .int)) (hh := [(0, 9, 12, 24)]) (by decide) rfl ?_
  intro p e s m args below meth c s₁ B hml hv
  obtain ⟨rfl, hsz, hP, hKL, hD0, hX⟩ := hv
  subst hsz
  have hts := atoms_spec (ws := Cond.codeWith yL_freeProcessors cL_freeProcessors 4 (some .int) [(0, 9, 12, 24)] :: wA) B.pre
  have htab := vx_table (x := yL_freeProcessors) B (hts _ List.mem_cons_self)
  have G : CallFix p m c cL_freeProcessors 4 s _ wA RL := ⟨B.exec, B.bytes, hml, findClass_of_methodNamed B.named, fun w h => hts w (List.mem_cons_of_mem _ h)⟩
  have hr := B.returns
  have hlk := B.notSynchronized
  have hK := hKL.KK
  have hW : KW D (va_A ((ao, .inl (cl, 1, .inr (.inl f))) :: wB cy h kp σ) s.heap.size) s.heap ((ao, .inl (cl, 1, .inr (.inl f))) :: wB cy h kp σ) s.heap [] := ⟨hP, hD0.self, va_S.rf⟩
  have hA : ∀ q, s.heap.size ≤ q → va_A ((ao, .inl (cl, 1, .inr (.inl f))) :: wB cy h kp σ) s.heap.size q := fun q h => Or.inr h
  have hl := lv_entry ([.ref (h 104), .int x1, .ref ao]) (n := 4) (Nat.le_of_ble_eq_true rfl)
  rw [lg_entry_eq]
  generalize (lg_sl ([.ref (h 104), .int x1, .ref ao]) ++ List.replicate (4 - (lg_sl ([.ref (h 104), .int x1, .ref ao])).length) Slot.unset).toArray = ls at hl ⊢
  have hl : lv_has ls 4 [(0, .ref (h 104)), (1, .int x1), (2, .ref ao)] := hl
  refine lv_aload_n G.1 G.2.1 dL_freeProcessors_0 rfl (lv_at hl 2 rfl) ?_
  refine lv_iconst (v := (0 : Int32)) G.1 G.2.1 dL_freeProcessors_1 (by decide) ?_
  refine lv_aload_n G.1 G.2.1 dL_freeProcessors_2 rfl (lv_at hl 0 rfl) ?_
  refine lv_iload_n G.1 G.2.1 dL_freeProcessors_3 rfl (lv_at hl 1 rfl) ?_
  refine kxl_i (w := wB cy h kp) (wr := [(ao, .inl (cl, 1, .inr (.inl f)))]) (rest := [.int (0 : Int32), .ref ao]) (n := 1) (As := [.int x1]) (C := RX4) G hK hX hA hW (mX4_freeProcessors l hT D cy h kp _ n σ x1 hf) (gV q_27_14 q_27_15 q_27_16 q_1_2 q_27_17) ⟨rfl, rfl⟩ (by decide +kernel) ⟨Nat.le_of_ble_eq_true rfl, Nat.le_of_ble_eq_true rfl⟩ (va_recv hK.1 hW.1 (ci := 6) (q0 := 1) rfl rfl) rfl hl.1 rfl (Nat.le_of_ble_eq_true rfl) dL_freeProcessors_4 ⟨Nat.le_of_ble_eq_true rfl, Nat.le_of_ble_eq_true rfl⟩ (fun E u ce q9 H locs ho hW hc1 hv1 hcl => ?_) (fun v u H locs ho hW => ?_)
  · subst ho
    obtain rfl := hE E u rfl
    refine vx_catch (own := RL) (name := xIO) G.2.2.2.1 [] ⟨0, 9, 12, 24⟩ [] htab (fun z hz => nomatch hz) rfl (by decide) (G.2.2.2.2 _ q_13_20) (va_Nw.use rfl (hX.1.1 (165, xIO) (List.mem_of_getElem? (i := 2) rfl))) hc1 hv1 hcl ?_
    refine lv_astore_n (lv' := [(3, .ref q9), (0, .ref (h 104)), (1, .int x1), (2, .ref ao)]) G.1 G.2.1 dL_freeProcessors_12 rfl hl (by decide) rfl (fun ls hl => ?_)
    refine lv_iconst (v := (1 : Int32)) G.1 G.2.1 dL_freeProcessors_13 (by decide) ?_
    exact k_lret G hr hlk hW (show (1 : Int32) = cdL [xIO] 1 xIO by decide +kernel) rfl dL_freeProcessors_14
  · subst ho
    refine lv_i2l (v := v.toInt64) G.1 G.2.1 dL_freeProcessors_7 rfl ?_
    refine va_last G.1 G.2.1 hKL.1 hW.1 hW.2.1 hW.2.2 0 1 rfl rfl k_in01 dL_freeProcessors_8 (fun H locs hP hD hS => ?_)
    have hW9 : KW D (va_A ((ao, .inl (cl, 1, .inr (.inl f))) :: wB cy h kp σ) s.heap.size) s.heap ((ao, .inl (cl, 1, .inr (.inl (woL (.inr (v, u)) f)))) :: wB cy h kp u) H locs := ⟨hP, hD, hS⟩
    refine lv_goto (tgt := 15) G.1 G.2.1 dL_freeProcessors_9 (by decide) ?_
    refine lv_iconst (v := (0 : Int32)) G.1 G.2.1 dL_freeProcessors_15 (by decide) ?_
    exact k_lret G hr hlk hW9 rfl rfl dL_freeProcessors_16
set_option maxHeartbeats 4000000 in
set_option maxRecDepth 100000 in
theorem mL_freeBlocks (l : Launch) (hT : l.stackTraces = false) (D : va_G) (cy cl cd : ClassId) (h : Nat → Nat) (kp : Nat) (ao : Nat) (sz n : Nat) (σ : St) (f : Nat → Int64) (x1 : Int32) {o : XRg Int32} (hf : fX4_freeBlocks n σ x1 = some o) (hE : ∀ E u, o = .inl (E, u) → E = xIO) : Met l yL_freeBlocks (Cond.codeWith yL_freeBlocks cL_freeBlocks 4 (some .int) [(0, 9, 12, 24)] :: wA) { frames := 7, cells := 1, slots := 6, locals := 115 } (KPL D cy cl cd ((ao, .inl (cl, 1, .inr (.inl f))) :: wB cy h kp σ) sz [.ref (h 104), .int x1, .ref ao]) (va_Qi (fun (r' : Int32) (_ : Unit) => r' = wcd [xIO] o) (fun _ => KB D (va_A ((ao, .inl (cl, 1, .inr (.inl f))) :: wB cy h kp σ) sz) ((ao, .inl (cl, 1, .inr (.inl (woL o f)))) :: wB cy h kp (wst o))) (va_A ((ao, .inl (cl, 1, .inr (.inl f))) :: wB cy h kp σ) sz)) 1 6 (va_A ((ao, .inl (cl, 1, .inr (.inl f))) :: wB cy h kp σ) sz) := by
  refine va_MetW (cc := cL_freeBlocks) (maxL := 4) (ret := (some .int)) (hh := [(0, 9, 12, 24)]) (by decide) rfl ?_
  intro p e s m args below meth c s₁ B hml hv
  obtain ⟨rfl, hsz, hP, hKL, hD0, hX⟩ := hv
  subst hsz
  have hts := atoms_spec (ws := Cond.codeWith yL_freeBlocks cL_freeBlocks 4 (some .int) [(0, 9, 12, 24)] :: wA) B.pre
  have htab := vx_table (x := yL_freeBlocks) B (hts _ List.mem_cons_self)
  have G : CallFix p m c cL_freeBlocks 4 s _ wA RL := ⟨B.exec, B.bytes, hml, findClass_of_methodNamed B.named, fun w h => hts w (List.mem_cons_of_mem _ h)⟩
  have hr := B.returns
  have hlk := B.notSynchronized
  have hK := hKL.KK
  have hW : KW D (va_A ((ao, .inl (cl, 1, .inr (.inl f))) :: wB cy h kp σ) s.heap.size) s.heap ((ao, .inl (cl, 1, .inr (.inl f))) :: wB cy h kp σ) s.heap [] := ⟨hP, hD0.self, va_S.rf⟩
  have hA : ∀ q, s.heap.size ≤ q → va_A ((ao, .inl (cl, 1, .inr (.inl f))) :: wB cy h kp σ) s.heap.size q := fun q h => Or.inr h
  have hl := lv_entry ([.ref (h 104), .int x1, .ref ao]) (n := 4) (Nat.le_of_ble_eq_true rfl)
  rw [lg_entry_eq]
  generalize (lg_sl ([.ref (h 104), .int x1, .ref ao]) ++ List.replicate (4 - (lg_sl ([.ref (h 104), .int x1, .ref ao])).length) Slot.unset).toArray = ls at hl ⊢
  have hl : lv_has ls 4 [(0, .ref (h 104)), (1, .int x1), (2, .ref ao)] := hl
  refine lv_aload_n G.1 G.2.1 dL_freeBlocks_0 rfl (lv_at hl 2 rfl) ?_
  refine lv_iconst (v := (0 : Int32)) G.1 G.2.1 dL_freeBlocks_1 (by decide) ?_
  refine lv_aload_n G.1 G.2.1 dL_freeBlocks_2 rfl (lv_at hl 0 rfl) ?_
  refine lv_iload_n G.1 G.2.1 dL_freeBlocks_3 rfl (lv_at hl 1 rfl) ?_
  refine kxl_i (w := wB cy h kp) (wr := [(ao, .inl (cl, 1, .inr (.inl f)))]) (rest := [.int (0 : Int32), .ref ao]) (n := 1) (As := [.int x1]) (C := RX4) G hK hX hA hW (mX4_freeBlocks l hT D cy h kp _ n σ x1 hf) (gV q_28_13 q_28_14 q_28_15 q_1_2 q_28_16) ⟨rfl, rfl⟩ (by decide +kernel) ⟨Nat.le_of_ble_eq_true rfl, Nat.le_of_ble_eq_true rfl⟩ (va_recv hK.1 hW.1 (ci := 6) (q0 := 1) rfl rfl) rfl hl.1 rfl (Nat.le_of_ble_eq_true rfl) dL_freeBlocks_4 ⟨Nat.le_of_ble_eq_true rfl, Nat.le_of_ble_eq_true rfl⟩ (fun E u ce q9 H locs ho hW hc1 hv1 hcl => ?_) (fun v u H locs ho hW => ?_)
  · subst ho
    obtain rfl := hE E u rfl
    refine vx_catch (own := RL) (name := xIO) G.2.2.2.1 [] ⟨0, 9, 12, 24⟩ [] htab (fun z hz => nomatch hz) rfl (by decide) (G.2.2.2.2 _ q_13_20) (va_Nw.use rfl (hX.1.1 (165, xIO) (List.mem_of_getElem? (i := 2) rfl))) hc1 hv1 hcl ?_
    refine lv_astore_n (lv' := [(3, .ref q9), (0, .ref (h 104)), (1, .int x1), (2, .ref ao)]) G.1 G.2.1 dL_freeBlocks_12 rfl hl (by decide) rfl (fun ls hl => ?_)
    refine lv_iconst (v := (1 : Int32)) G.1 G.2.1 dL_freeBlocks_13 (by decide) ?_
    exact k_lret G hr hlk hW (show (1 : Int32) = cdL [xIO] 1 xIO by decide +kernel) rfl dL_freeBlocks_14
  · subst ho
    refine lv_i2l (v := v.toInt64) G.1 G.2.1 dL_freeBlocks_7 rfl ?_
    refine va_last G.1 G.2.1 hKL.1 hW.1 hW.2.1 hW.2.2 0 1 rfl rfl k_in01 dL_freeBlocks_8 (fun H locs hP hD hS => ?_)
    have hW9 : KW D (va_A ((ao, .inl (cl, 1, .inr (.inl f))) :: wB cy h kp σ) s.heap.size) s.heap ((ao, .inl (cl, 1, .inr (.inl (woL (.inr (v, u)) f)))) :: wB cy h kp u) H locs := ⟨hP, hD, hS⟩
    refine lv_goto (tgt := 15) G.1 G.2.1 dL_freeBlocks_9 (by decide) ?_
    refine lv_iconst (v := (0 : Int32)) G.1 G.2.1 dL_freeBlocks_15 (by decide) ?_
    exact k_lret G hr hlk hW9 rfl rfl dL_freeBlocks_16
set_option maxHeartbeats 4000000 in
set_option maxRecDepth 100000 in
theorem mL_largestFree (l : Launch) (hT : l.stackTraces = false) (D : va_G) (cy cl cd : ClassId) (h : Nat → Nat) (kp : Nat) (ao : Nat) (sz n : Nat) (σ : St) (f : Nat → Int64) {o : XRg Int32} (hf : fX4_largestFree n σ = some o) (hE : ∀ E u, o = .inl (E, u) → E = xNS) : Met l yL_largestFree (Cond.codeWith yL_largestFree cL_largestFree 3 (some .int) [(0, 8, 11, 91)] :: wA) { frames := 7, cells := 1, slots := 6, locals := 111 } (KPL D cy cl cd ((ao, .inl (cl, 1, .inr (.inl f))) :: wB cy h kp σ) sz [.ref (h 104), .ref ao]) (va_Qi (fun (r' : Int32) (_ : Unit) => r' = wcd [xNS] o) (fun _ => KB D (va_A ((ao, .inl (cl, 1, .inr (.inl f))) :: wB cy h kp σ) sz) ((ao, .inl (cl, 1, .inr (.inl (woL o f)))) :: wB cy h kp (wst o))) (va_A ((ao, .inl (cl, 1, .inr (.inl f))) :: wB cy h kp σ) sz)) 1 6 (va_A ((ao, .inl (cl, 1, .inr (.inl f))) :: wB cy h kp σ) sz) := by
  refine va_MetW (cc := cL_largestFree) (maxL := 3) (ret := (some .int)) (hh := [(0, 8, 11, 91)]) (by decide) rfl ?_
  intro p e s m args below meth c s₁ B hml hv
  obtain ⟨rfl, hsz, hP, hKL, hD0, hX⟩ := hv
  subst hsz
  have hts := atoms_spec (ws := Cond.codeWith yL_largestFree cL_largestFree 3 (some .int) [(0, 8, 11, 91)] :: wA) B.pre
  have htab := vx_table (x := yL_largestFree) B (hts _ List.mem_cons_self)
  have G : CallFix p m c cL_largestFree 3 s _ wA RL := ⟨B.exec, B.bytes, hml, findClass_of_methodNamed B.named, fun w h => hts w (List.mem_cons_of_mem _ h)⟩
  have hr := B.returns
  have hlk := B.notSynchronized
  have hK := hKL.KK
  have hW : KW D (va_A ((ao, .inl (cl, 1, .inr (.inl f))) :: wB cy h kp σ) s.heap.size) s.heap ((ao, .inl (cl, 1, .inr (.inl f))) :: wB cy h kp σ) s.heap [] := ⟨hP, hD0.self, va_S.rf⟩
  have hA : ∀ q, s.heap.size ≤ q → va_A ((ao, .inl (cl, 1, .inr (.inl f))) :: wB cy h kp σ) s.heap.size q := fun q h => Or.inr h
  have hl := lv_entry ([.ref (h 104), .ref ao]) (n := 3) (Nat.le_of_ble_eq_true rfl)
  rw [lg_entry_eq]
  generalize (lg_sl ([.ref (h 104), .ref ao]) ++ List.replicate (3 - (lg_sl ([.ref (h 104), .ref ao])).length) Slot.unset).toArray = ls at hl ⊢
  have hl : lv_has ls 3 [(0, .ref (h 104)), (1, .ref ao)] := hl
  refine lv_aload_n G.1 G.2.1 dL_largestFree_0 rfl (lv_at hl 1 rfl) ?_
  refine lv_iconst (v := (0 : Int32)) G.1 G.2.1 dL_largestFree_1 (by decide) ?_
  refine lv_aload_n G.1 G.2.1 dL_largestFree_2 rfl (lv_at hl 0 rfl) ?_
  refine kxl_i (w := wB cy h kp) (wr := [(ao, .inl (cl, 1, .inr (.inl f)))]) (rest := [.int (0 : Int32), .ref ao]) (n := 0) (As := []) (C := RX4) G hK hX hA hW (mX4_largestFree l hT D cy h kp _ n σ  hf) (gV q_29_12 q_29_13 q_29_14 q_1_2 q_29_15) ⟨rfl, rfl⟩ (by decide +kernel) ⟨Nat.le_of_ble_eq_true rfl, Nat.le_of_ble_eq_true rfl⟩ (va_recv hK.1 hW.1 (ci := 6) (q0 := 1) rfl rfl) rfl hl.1 rfl (Nat.le_of_ble_eq_true rfl) dL_largestFree_3 ⟨Nat.le_of_ble_eq_true rfl, Nat.le_of_ble_eq_true rfl⟩ (fun E u ce q9 H locs ho hW hc1 hv1 hcl => ?_) (fun v u H locs ho hW => ?_)
  · subst ho
    obtain rfl := hE E u rfl
    refine vx_catch (own := RL) (name := xNS) G.2.2.2.1 [] ⟨0, 8, 11, 91⟩ [] htab (fun z hz => nomatch hz) rfl (by decide) (G.2.2.2.2 _ q_29_11) (va_Nw.use rfl (hX.1.1 (210, xNS) (List.mem_of_getElem? (i := 4) rfl))) hc1 hv1 hcl ?_
    refine lv_astore_n (lv' := [(2, .ref q9), (0, .ref (h 104)), (1, .ref ao)]) G.1 G.2.1 dL_largestFree_11 rfl hl (by decide) rfl (fun ls hl => ?_)
    refine lv_iconst (v := (1 : Int32)) G.1 G.2.1 dL_largestFree_12 (by decide) ?_
    exact k_lret G hr hlk hW (show (1 : Int32) = cdL [xNS] 1 xNS by decide +kernel) rfl dL_largestFree_13
  · subst ho
    refine lv_i2l (v := v.toInt64) G.1 G.2.1 dL_largestFree_6 rfl ?_
    refine va_last G.1 G.2.1 hKL.1 hW.1 hW.2.1 hW.2.2 0 1 rfl rfl k_in01 dL_largestFree_7 (fun H locs hP hD hS => ?_)
    have hW9 : KW D (va_A ((ao, .inl (cl, 1, .inr (.inl f))) :: wB cy h kp σ) s.heap.size) s.heap ((ao, .inl (cl, 1, .inr (.inl (woL (.inr (v, u)) f)))) :: wB cy h kp u) H locs := ⟨hP, hD, hS⟩
    refine lv_goto (tgt := 14) G.1 G.2.1 dL_largestFree_8 (by decide) ?_
    refine lv_iconst (v := (0 : Int32)) G.1 G.2.1 dL_largestFree_14 (by decide) ?_
    exact k_lret G hr hlk hW9 rfl rfl dL_largestFree_15
set_option maxHeartbeats 4000000 in
set_option maxRecDepth 100000 in
theorem mL_fragmentation (l : Launch) (hT : l.stackTraces = false) (D : va_G) (cy cl cd : ClassId) (h : Nat → Nat) (kp : Nat) (ao : Nat) (sz n : Nat) (σ : St) (f : Nat → UInt64) {o : XRg UInt64} (hf : fX4_fragmentation n σ = some o) (hE : ∀ E u, o = .inl (E, u) → E = xNS) : Met l yL_fragmentation (Cond.codeWith yL_fragmentation cL_fragmentation 3 (some .int) [(0, 7, 10, 91)] :: wA) { frames := 7, cells := 1, slots := 6, locals := 113 } (KPL D cy cl cd ((ao, .inl (cd, 1, .inr (.inr (.inr (.inl f))))) :: wB cy h kp σ) sz [.ref (h 104), .ref ao]) (va_Qi (fun (r' : Int32) (_ : Unit) => r' = wcd [xNS] o) (fun _ => KB D (va_A ((ao, .inl (cd, 1, .inr (.inr (.inr (.inl f))))) :: wB cy h kp σ) sz) ((ao, .inl (cd, 1, .inr (.inr (.inr (.inl (woD o f)))))) :: wB cy h kp (wst o))) (va_A ((ao, .inl (cd, 1, .inr (.inr (.inr (.inl f))))) :: wB cy h kp σ) sz)) 1 6 (va_A ((ao, .inl (cd, 1, .inr (.inr (.inr (.inl f))))) :: wB cy h kp σ) sz) := by
  refine va_MetW (cc := cL_fragmentation) (maxL := 3) (ret := (some .int)) (hh := [(0, 7, 10, 91)]) (by decide) rfl ?_
  intro p e s m args below meth c s₁ B hml hv
  obtain ⟨rfl, hsz, hP, hKL, hD0, hX⟩ := hv
  subst hsz
  have hts := atoms_spec (ws := Cond.codeWith yL_fragmentation cL_fragmentation 3 (some .int) [(0, 7, 10, 91)] :: wA) B.pre
  have htab := vx_table (x := yL_fragmentation) B (hts _ List.mem_cons_self)
  have G : CallFix p m c cL_fragmentation 3 s _ wA RL := ⟨B.exec, B.bytes, hml, findClass_of_methodNamed B.named, fun w h => hts w (List.mem_cons_of_mem _ h)⟩
  have hr := B.returns
  have hlk := B.notSynchronized
  have hK := hKL.KK
  have hW : KW D (va_A ((ao, .inl (cd, 1, .inr (.inr (.inr (.inl f))))) :: wB cy h kp σ) s.heap.size) s.heap ((ao, .inl (cd, 1, .inr (.inr (.inr (.inl f))))) :: wB cy h kp σ) s.heap [] := ⟨hP, hD0.self, va_S.rf⟩
  have hA : ∀ q, s.heap.size ≤ q → va_A ((ao, .inl (cd, 1, .inr (.inr (.inr (.inl f))))) :: wB cy h kp σ) s.heap.size q := fun q h => Or.inr h
  have hl := lv_entry ([.ref (h 104), .ref ao]) (n := 3) (Nat.le_of_ble_eq_true rfl)
  rw [lg_entry_eq]
  generalize (lg_sl ([.ref (h 104), .ref ao]) ++ List.replicate (3 - (lg_sl ([.ref (h 104), .ref ao])).length) Slot.unset).toArray = ls at hl ⊢
  have hl : lv_has ls 3 [(0, .ref (h 104)), (1, .ref ao)] := hl
  refine lv_aload_n G.1 G.2.1 dL_fragmentation_0 rfl (lv_at hl 1 rfl) ?_
  refine lv_iconst (v := (0 : Int32)) G.1 G.2.1 dL_fragmentation_1 (by decide) ?_
  refine lv_aload_n G.1 G.2.1 dL_fragmentation_2 rfl (lv_at hl 0 rfl) ?_
  refine kxl_d (w := wB cy h kp) (wr := [(ao, .inl (cd, 1, .inr (.inr (.inr (.inl f)))))]) (rest := [.int (0 : Int32), .ref ao]) (n := 0) (As := []) (C := RX4) G hK hX hA hW (mX4_fragmentation l hT D cy h kp _ n σ  hf) (gV q_30_9 q_30_10 q_30_11 q_1_2 q_30_12) ⟨rfl, rfl⟩ (by decide +kernel) ⟨Nat.le_of_ble_eq_true rfl, Nat.le_of_ble_eq_true rfl⟩ (va_recv hK.1 hW.1 (ci := 6) (q0 := 1) rfl rfl) rfl hl.1 rfl (Nat.le_of_ble_eq_true rfl) dL_fragmentation_3 ⟨Nat.le_of_ble_eq_true rfl, Nat.le_of_ble_eq_true rfl⟩ (fun E u ce q9 H locs ho hW hc1 hv1 hcl => ?_) (fun v u H locs ho hW => ?_)
  · subst ho
    obtain rfl := hE E u rfl
    refine vx_catch (own := RL) (name := xNS) G.2.2.2.1 [] ⟨0, 7, 10, 91⟩ [] htab (fun z hz => nomatch hz) rfl (by decide) (G.2.2.2.2 _ q_29_11) (va_Nw.use rfl (hX.1.1 (210, xNS) (List.mem_of_getElem? (i := 4) rfl))) hc1 hv1 hcl ?_
    refine lv_astore_n (lv' := [(2, .ref q9), (0, .ref (h 104)), (1, .ref ao)]) G.1 G.2.1 dL_fragmentation_10 rfl hl (by decide) rfl (fun ls hl => ?_)
    refine lv_iconst (v := (1 : Int32)) G.1 G.2.1 dL_fragmentation_11 (by decide) ?_
    exact k_lret G hr hlk hW (show (1 : Int32) = cdL [xNS] 1 xNS by decide +kernel) rfl dL_fragmentation_12
  · subst ho
    refine va_dast G.1 G.2.1 hKL.1 hW.1 hW.2.1 hW.2.2 0 2 rfl rfl k_in01 dL_fragmentation_6 (fun H locs hP hD hS => ?_)
    have hW9 : KW D (va_A ((ao, .inl (cd, 1, .inr (.inr (.inr (.inl f))))) :: wB cy h kp σ) s.heap.size) s.heap ((ao, .inl (cd, 1, .inr (.inr (.inr (.inl (woD (.inr (v, u)) f)))))) :: wB cy h kp u) H locs := ⟨hP, hD, hS⟩
    refine lv_goto (tgt := 13) G.1 G.2.1 dL_fragmentation_7 (by decide) ?_
    refine lv_iconst (v := (0 : Int32)) G.1 G.2.1 dL_fragmentation_13 (by decide) ?_
    exact k_lret G hr hlk hW9 rfl rfl dL_fragmentation_14
set_option maxHeartbeats 4000000 in
set_option maxRecDepth 100000 in
theorem mL_earliestStart (l : Launch) (hT : l.stackTraces = false) (D : va_G) (cy cl cd : ClassId) (h : Nat → Nat) (kp : Nat) (ao : Nat) (sz n : Nat) (σ : St) (f : Nat → Int64) (x1 : Int32) (x2 : Int32) {o : XRg Int32} (hf : fX4_earliestStart n σ x1 x2 = some o) (hE : ∀ E u, o = .inl (E, u) → E = xIA) : Met l yL_earliestStart (Cond.codeWith yL_earliestStart cL_earliestStart 5 (some .int) [(0, 10, 13, 13)] :: wA) { frames := 7, cells := 1, slots := 6, locals := 112 } (KPL D cy cl cd ((ao, .inl (cl, 1, .inr (.inl f))) :: wB cy h kp σ) sz [.ref (h 104), .int x1, .int x2, .ref ao]) (va_Qi (fun (r' : Int32) (_ : Unit) => r' = wcd [xIA] o) (fun _ => KB D (va_A ((ao, .inl (cl, 1, .inr (.inl f))) :: wB cy h kp σ) sz) ((ao, .inl (cl, 1, .inr (.inl (woL o f)))) :: wB cy h kp (wst o))) (va_A ((ao, .inl (cl, 1, .inr (.inl f))) :: wB cy h kp σ) sz)) 1 6 (va_A ((ao, .inl (cl, 1, .inr (.inl f))) :: wB cy h kp σ) sz) := by
  refine va_MetW (cc := cL_earliestStart) (maxL := 5) (ret := (some .int)) (hh := [(0, 10, 13, 13)]) (by decide) rfl ?_
  intro p e s m args below meth c s₁ B hml hv
  obtain ⟨rfl, hsz, hP, hKL, hD0, hX⟩ := hv
  subst hsz
  have hts := atoms_spec (ws := Cond.codeWith yL_earliestStart cL_earliestStart 5 (some .int) [(0, 10, 13, 13)] :: wA) B.pre
  have htab := vx_table (x := yL_earliestStart) B (hts _ List.mem_cons_self)
  have G : CallFix p m c cL_earliestStart 5 s _ wA RL := ⟨B.exec, B.bytes, hml, findClass_of_methodNamed B.named, fun w h => hts w (List.mem_cons_of_mem _ h)⟩
  have hr := B.returns
  have hlk := B.notSynchronized
  have hK := hKL.KK
  have hW : KW D (va_A ((ao, .inl (cl, 1, .inr (.inl f))) :: wB cy h kp σ) s.heap.size) s.heap ((ao, .inl (cl, 1, .inr (.inl f))) :: wB cy h kp σ) s.heap [] := ⟨hP, hD0.self, va_S.rf⟩
  have hA : ∀ q, s.heap.size ≤ q → va_A ((ao, .inl (cl, 1, .inr (.inl f))) :: wB cy h kp σ) s.heap.size q := fun q h => Or.inr h
  have hl := lv_entry ([.ref (h 104), .int x1, .int x2, .ref ao]) (n := 5) (Nat.le_of_ble_eq_true rfl)
  rw [lg_entry_eq]
  generalize (lg_sl ([.ref (h 104), .int x1, .int x2, .ref ao]) ++ List.replicate (5 - (lg_sl ([.ref (h 104), .int x1, .int x2, .ref ao])).length) Slot.unset).toArray = ls at hl ⊢
  have hl : lv_has ls 5 [(0, .ref (h 104)), (1, .int x1), (2, .int x2), (3, .ref ao)] := hl
  refine lv_aload_n G.1 G.2.1 dL_earliestStart_0 rfl (lv_at hl 3 rfl) ?_
  refine lv_iconst (v := (0 : Int32)) G.1 G.2.1 dL_earliestStart_1 (by decide) ?_
  refine lv_aload_n G.1 G.2.1 dL_earliestStart_2 rfl (lv_at hl 0 rfl) ?_
  refine lv_iload_n G.1 G.2.1 dL_earliestStart_3 rfl (lv_at hl 1 rfl) ?_
  refine lv_iload_n G.1 G.2.1 dL_earliestStart_4 rfl (lv_at hl 2 rfl) ?_
  refine kxl_i (w := wB cy h kp) (wr := [(ao, .inl (cl, 1, .inr (.inl f)))]) (rest := [.int (0 : Int32), .ref ao]) (n := 2) (As := [.int x1, .int x2]) (C := RX4) G hK hX hA hW (mX4_earliestStart l hT D cy h kp _ n σ x1 x2 hf) (gV q_30_20 q_30_21 q_30_22 q_1_2 q_30_23) ⟨rfl, rfl⟩ (by decide +kernel) ⟨Nat.le_of_ble_eq_true rfl, Nat.le_of_ble_eq_true rfl⟩ (va_recv hK.1 hW.1 (ci := 6) (q0 := 1) rfl rfl) rfl hl.1 rfl (Nat.le_of_ble_eq_true rfl) dL_earliestStart_5 ⟨Nat.le_of_ble_eq_true rfl, Nat.le_of_ble_eq_true rfl⟩ (fun E u ce q9 H locs ho hW hc1 hv1 hcl => ?_) (fun v u H locs ho hW => ?_)
  · subst ho
    obtain rfl := hE E u rfl
    refine vx_catch (own := RL) (name := xIA) G.2.2.2.1 [] ⟨0, 10, 13, 13⟩ [] htab (fun z hz => nomatch hz) rfl (by decide) (G.2.2.2.2 _ q_4_14) (va_Nw.use rfl (hX.1.1 (41, xIA) (List.mem_of_getElem? (i := 0) rfl))) hc1 hv1 hcl ?_
    refine lv_astore (lv' := [(4, .ref q9), (0, .ref (h 104)), (1, .int x1), (2, .int x2), (3, .ref ao)]) G.1 G.2.1 dL_earliestStart_13 hl (by decide) rfl (fun ls hl => ?_)
    refine lv_iconst (v := (1 : Int32)) G.1 G.2.1 dL_earliestStart_15 (by decide) ?_
    exact k_lret G hr hlk hW (show (1 : Int32) = cdL [xIA] 1 xIA by decide +kernel) rfl dL_earliestStart_16
  · subst ho
    refine lv_i2l (v := v.toInt64) G.1 G.2.1 dL_earliestStart_8 rfl ?_
    refine va_last G.1 G.2.1 hKL.1 hW.1 hW.2.1 hW.2.2 0 1 rfl rfl k_in01 dL_earliestStart_9 (fun H locs hP hD hS => ?_)
    have hW9 : KW D (va_A ((ao, .inl (cl, 1, .inr (.inl f))) :: wB cy h kp σ) s.heap.size) s.heap ((ao, .inl (cl, 1, .inr (.inl (woL (.inr (v, u)) f)))) :: wB cy h kp u) H locs := ⟨hP, hD, hS⟩
    refine lv_goto (tgt := 17) G.1 G.2.1 dL_earliestStart_10 (by decide) ?_
    refine lv_iconst (v := (0 : Int32)) G.1 G.2.1 dL_earliestStart_17 (by decide) ?_
    exact k_lret G hr hlk hW9 rfl rfl dL_earliestStart_18
set_option maxHeartbeats 4000000 in
set_option maxRecDepth 100000 in
theorem mL_lowestBlock (l : Launch) (hT : l.stackTraces = false) (D : va_G) (cy cl cd : ClassId) (h : Nat → Nat) (kp : Nat) (ao : Nat) (sz n : Nat) (σ : St) (f : Nat → Int64) (x1 : Int32) (x2 : Int32) (x3 : Int32) {o : XRg Int32} (hf : fX4_lowestBlock n σ x1 x2 x3 = some o) (hE : ∀ E u, o = .inl (E, u) → E = xIA ∨ E = xNS) : Met l yL_lowestBlock (Cond.codeWith yL_lowestBlock cL_lowestBlock 6 (some .int) [(0, 12, 15, 13), (0, 12, 19, 91)] :: wA) { frames := 8, cells := 2, slots := 12, locals := 136 } (KPL D cy cl cd ((ao, .inl (cl, 1, .inr (.inl f))) :: wB cy h kp σ) sz [.ref (h 104), .int x1, .int x2, .int x3, .ref ao]) (va_Qi (fun (r' : Int32) (_ : Unit) => r' = wcd [xIA, xNS] o) (fun _ => KB D (va_A ((ao, .inl (cl, 1, .inr (.inl f))) :: wB cy h kp σ) sz) ((ao, .inl (cl, 1, .inr (.inl (woL o f)))) :: wB cy h kp (wst o))) (va_A ((ao, .inl (cl, 1, .inr (.inl f))) :: wB cy h kp σ) sz)) 2 12 (va_A ((ao, .inl (cl, 1, .inr (.inl f))) :: wB cy h kp σ) sz) := by
  refine va_MetW (cc := cL_lowestBlock) (maxL := 6) (ret := (some .int)) (hh := [(0, 12, 15, 13), (0, 12, 19, 91)]) (by decide) rfl ?_
  intro p e s m args below meth c s₁ B hml hv
  obtain ⟨rfl, hsz, hP, hKL, hD0, hX⟩ := hv
  subst hsz
  have hts := atoms_spec (ws := Cond.codeWith yL_lowestBlock cL_lowestBlock 6 (some .int) [(0, 12, 15, 13), (0, 12, 19, 91)] :: wA) B.pre
  have htab := vx_table (x := yL_lowestBlock) B (hts _ List.mem_cons_self)
  have G : CallFix p m c cL_lowestBlock 6 s _ wA RL := ⟨B.exec, B.bytes, hml, findClass_of_methodNamed B.named, fun w h => hts w (List.mem_cons_of_mem _ h)⟩
  have hr := B.returns
  have hlk := B.notSynchronized
  have hK := hKL.KK
  have hW : KW D (va_A ((ao, .inl (cl, 1, .inr (.inl f))) :: wB cy h kp σ) s.heap.size) s.heap ((ao, .inl (cl, 1, .inr (.inl f))) :: wB cy h kp σ) s.heap [] := ⟨hP, hD0.self, va_S.rf⟩
  have hA : ∀ q, s.heap.size ≤ q → va_A ((ao, .inl (cl, 1, .inr (.inl f))) :: wB cy h kp σ) s.heap.size q := fun q h => Or.inr h
  have hl := lv_entry ([.ref (h 104), .int x1, .int x2, .int x3, .ref ao]) (n := 6) (Nat.le_of_ble_eq_true rfl)
  rw [lg_entry_eq]
  generalize (lg_sl ([.ref (h 104), .int x1, .int x2, .int x3, .ref ao]) ++ List.replicate (6 - (lg_sl ([.ref (h 104), .int x1, .int x2, .int x3, .ref ao])).length) Slot.unset).toArray = ls at hl ⊢
  have hl : lv_has ls 6 [(0, .ref (h 104)), (1, .int x1), (2, .int x2), (3, .int x3), (4, .ref ao)] := hl
  refine lv_aload G.1 G.2.1 dL_lowestBlock_0 (lv_at hl 4 rfl) ?_
  refine lv_iconst (v := (0 : Int32)) G.1 G.2.1 dL_lowestBlock_2 (by decide) ?_
  refine lv_aload_n G.1 G.2.1 dL_lowestBlock_3 rfl (lv_at hl 0 rfl) ?_
  refine lv_iload_n G.1 G.2.1 dL_lowestBlock_4 rfl (lv_at hl 1 rfl) ?_
  refine lv_iload_n G.1 G.2.1 dL_lowestBlock_5 rfl (lv_at hl 2 rfl) ?_
  refine lv_iload_n G.1 G.2.1 dL_lowestBlock_6 rfl (lv_at hl 3 rfl) ?_
  refine kxl_i (w := wB cy h kp) (wr := [(ao, .inl (cl, 1, .inr (.inl f)))]) (rest := [.int (0 : Int32), .ref ao]) (n := 3) (As := [.int x1, .int x2, .int x3]) (C := RX4) G hK hX hA hW (mX4_lowestBlock l hT D cy h kp _ n σ x1 x2 x3 hf) (gV q_31_8 q_31_9 q_31_10 q_1_2 q_31_11) ⟨rfl, rfl⟩ (by decide +kernel) ⟨Nat.le_of_ble_eq_true rfl, Nat.le_of_ble_eq_true rfl⟩ (va_recv hK.1 hW.1 (ci := 6) (q0 := 1) rfl rfl) rfl hl.1 rfl (Nat.le_of_ble_eq_true rfl) dL_lowestBlock_7 ⟨Nat.le_of_ble_eq_true rfl, Nat.le_of_ble_eq_true rfl⟩ (fun E u ce q9 H locs ho hW hc1 hv1 hcl => ?_) (fun v u H locs ho hW => ?_)
  · subst ho
    rcases hE E u rfl with rfl | rfl
    · refine vx_catch (own := RL) (name := xIA) G.2.2.2.1 [] ⟨0, 12, 15, 13⟩ [⟨0, 12, 19, 91⟩] htab (fun z hz => nomatch hz) rfl (by decide) (G.2.2.2.2 _ q_4_14) (va_Nw.use rfl (hX.1.1 (41, xIA) (List.mem_of_getElem? (i := 0) rfl))) hc1 hv1 hcl ?_
      refine lv_astore (lv' := [(5, .ref q9), (0, .ref (h 104)), (1, .int x1), (2, .int x2), (3, .int x3), (4, .ref ao)]) G.1 G.2.1 dL_lowestBlock_15 hl (by decide) rfl (fun ls hl => ?_)
      refine lv_iconst (v := (1 : Int32)) G.1 G.2.1 dL_lowestBlock_17 (by decide) ?_
      exact k_lret G hr hlk hW (show (1 : Int32) = cdL [xIA, xNS] 1 xIA by decide +kernel) rfl dL_lowestBlock_18
    · refine vx_catch (own := RL) (name := xNS) G.2.2.2.1 [⟨0, 12, 15, 13⟩] ⟨0, 12, 19, 91⟩ [] htab (fun z hz => by
        simp only [List.mem_cons, List.not_mem_nil, or_false] at hz
        subst hz
        exact Or.inr ⟨by decide, xIA, G.2.2.2.2 _ q_4_14, hKL.2.2.2.2.2⟩) rfl (by decide) (G.2.2.2.2 _ q_29_11) (va_Nw.use rfl (hX.1.1 (210, xNS) (List.mem_of_getElem? (i := 4) rfl))) hc1 hv1 hcl ?_
      refine lv_astore (lv' := [(5, .ref q9), (0, .ref (h 104)), (1, .int x1), (2, .int x2), (3, .int x3), (4, .ref ao)]) G.1 G.2.1 dL_lowestBlock_19 hl (by decide) rfl (fun ls hl => ?_)
      refine lv_iconst (v := (2 : Int32)) G.1 G.2.1 dL_lowestBlock_21 (by decide) ?_
      exact k_lret G hr hlk hW (show (2 : Int32) = cdL [xIA, xNS] 1 xNS by decide +kernel) rfl dL_lowestBlock_22
  · subst ho
    refine lv_i2l (v := v.toInt64) G.1 G.2.1 dL_lowestBlock_10 rfl ?_
    refine va_last G.1 G.2.1 hKL.1 hW.1 hW.2.1 hW.2.2 0 1 rfl rfl k_in01 dL_lowestBlock_11 (fun H locs hP hD hS => ?_)
    have hW9 : KW D (va_A ((ao, .inl (cl, 1, .inr (.inl f))) :: wB cy h kp σ) s.heap.size) s.heap ((ao, .inl (cl, 1, .inr (.inl (woL (.inr (v, u)) f)))) :: wB cy h kp u) H locs := ⟨hP, hD, hS⟩
    refine lv_goto (tgt := 23) G.1 G.2.1 dL_lowestBlock_12 (by decide) ?_
    refine lv_iconst (v := (0 : Int32)) G.1 G.2.1 dL_lowestBlock_23 (by decide) ?_
    exact k_lret G hr hlk hW9 rfl rfl dL_lowestBlock_24
set_option maxHeartbeats 4000000 in
set_option maxRecDepth 100000 in
theorem mL_blockStarts (l : Launch) (hT : l.stackTraces = false) (D : va_G) (cy cl cd : ClassId) (h : Nat → Nat) (kp : Nat) (ao : Nat) (sz n : Nat) (σ : St) (f : Nat → Int64) (x1 : Int32) (x2 : Int32) {o : XRg Int32} (hf : fX4_blockStarts n σ x1 x2 = some o) (hE : ∀ E u, o = .inl (E, u) → E = xIA) : Met l yL_blockStarts (Cond.codeWith yL_blockStarts cL_blockStarts 5 (some .int) [(0, 10, 13, 13)] :: wA) { frames := 7, cells := 1, slots := 6, locals := 112 } (KPL D cy cl cd ((ao, .inl (cl, 1, .inr (.inl f))) :: wB cy h kp σ) sz [.ref (h 104), .int x1, .int x2, .ref ao]) (va_Qi (fun (r' : Int32) (_ : Unit) => r' = wcd [xIA] o) (fun _ => KB D (va_A ((ao, .inl (cl, 1, .inr (.inl f))) :: wB cy h kp σ) sz) ((ao, .inl (cl, 1, .inr (.inl (woL o f)))) :: wB cy h kp (wst o))) (va_A ((ao, .inl (cl, 1, .inr (.inl f))) :: wB cy h kp σ) sz)) 1 6 (va_A ((ao, .inl (cl, 1, .inr (.inl f))) :: wB cy h kp σ) sz) := by
  refine va_MetW (cc := cL_blockStarts) (maxL := 5) (ret := (some .int)) (hh := [(0, 10, 13, 13)]) (by decide) rfl ?_
  intro p e s m args below meth c s₁ B hml hv
  obtain ⟨rfl, hsz, hP, hKL, hD0, hX⟩ := hv
  subst hsz
  have hts := atoms_spec (ws := Cond.codeWith yL_blockStarts cL_blockStarts 5 (some .int) [(0, 10, 13, 13)] :: wA) B.pre
  have htab := vx_table (x := yL_blockStarts) B (hts _ List.mem_cons_self)
  have G : CallFix p m c cL_blockStarts 5 s _ wA RL := ⟨B.exec, B.bytes, hml, findClass_of_methodNamed B.named, fun w h => hts w (List.mem_cons_of_mem _ h)⟩
  have hr := B.returns
  have hlk := B.notSynchronized
  have hK := hKL.KK
  have hW : KW D (va_A ((ao, .inl (cl, 1, .inr (.inl f))) :: wB cy h kp σ) s.heap.size) s.heap ((ao, .inl (cl, 1, .inr (.inl f))) :: wB cy h kp σ) s.heap [] := ⟨hP, hD0.self, va_S.rf⟩
  have hA : ∀ q, s.heap.size ≤ q → va_A ((ao, .inl (cl, 1, .inr (.inl f))) :: wB cy h kp σ) s.heap.size q := fun q h => Or.inr h
  have hl := lv_entry ([.ref (h 104), .int x1, .int x2, .ref ao]) (n := 5) (Nat.le_of_ble_eq_true rfl)
  rw [lg_entry_eq]
  generalize (lg_sl ([.ref (h 104), .int x1, .int x2, .ref ao]) ++ List.replicate (5 - (lg_sl ([.ref (h 104), .int x1, .int x2, .ref ao])).length) Slot.unset).toArray = ls at hl ⊢
  have hl : lv_has ls 5 [(0, .ref (h 104)), (1, .int x1), (2, .int x2), (3, .ref ao)] := hl
  refine lv_aload_n G.1 G.2.1 dL_blockStarts_0 rfl (lv_at hl 3 rfl) ?_
  refine lv_iconst (v := (0 : Int32)) G.1 G.2.1 dL_blockStarts_1 (by decide) ?_
  refine lv_aload_n G.1 G.2.1 dL_blockStarts_2 rfl (lv_at hl 0 rfl) ?_
  refine lv_iload_n G.1 G.2.1 dL_blockStarts_3 rfl (lv_at hl 1 rfl) ?_
  refine lv_iload_n G.1 G.2.1 dL_blockStarts_4 rfl (lv_at hl 2 rfl) ?_
  refine kxl_i (w := wB cy h kp) (wr := [(ao, .inl (cl, 1, .inr (.inl f)))]) (rest := [.int (0 : Int32), .ref ao]) (n := 2) (As := [.int x1, .int x2]) (C := RX4) G hK hX hA hW (mX4_blockStarts l hT D cy h kp _ n σ x1 x2 hf) (gV q_31_19 q_31_20 q_31_21 q_1_2 q_31_22) ⟨rfl, rfl⟩ (by decide +kernel) ⟨Nat.le_of_ble_eq_true rfl, Nat.le_of_ble_eq_true rfl⟩ (va_recv hK.1 hW.1 (ci := 6) (q0 := 1) rfl rfl) rfl hl.1 rfl (Nat.le_of_ble_eq_true rfl) dL_blockStarts_5 ⟨Nat.le_of_ble_eq_true rfl, Nat.le_of_ble_eq_true rfl⟩ (fun E u ce q9 H locs ho hW hc1 hv1 hcl => ?_) (fun v u H locs ho hW => ?_)
  · subst ho
    obtain rfl := hE E u rfl
    refine vx_catch (own := RL) (name := xIA) G.2.2.2.1 [] ⟨0, 10, 13, 13⟩ [] htab (fun z hz => nomatch hz) rfl (by decide) (G.2.2.2.2 _ q_4_14) (va_Nw.use rfl (hX.1.1 (41, xIA) (List.mem_of_getElem? (i := 0) rfl))) hc1 hv1 hcl ?_
    refine lv_astore (lv' := [(4, .ref q9), (0, .ref (h 104)), (1, .int x1), (2, .int x2), (3, .ref ao)]) G.1 G.2.1 dL_blockStarts_13 hl (by decide) rfl (fun ls hl => ?_)
    refine lv_iconst (v := (1 : Int32)) G.1 G.2.1 dL_blockStarts_15 (by decide) ?_
    exact k_lret G hr hlk hW (show (1 : Int32) = cdL [xIA] 1 xIA by decide +kernel) rfl dL_blockStarts_16
  · subst ho
    refine lv_i2l (v := v.toInt64) G.1 G.2.1 dL_blockStarts_8 rfl ?_
    refine va_last G.1 G.2.1 hKL.1 hW.1 hW.2.1 hW.2.2 0 1 rfl rfl k_in01 dL_blockStarts_9 (fun H locs hP hD hS => ?_)
    have hW9 : KW D (va_A ((ao, .inl (cl, 1, .inr (.inl f))) :: wB cy h kp σ) s.heap.size) s.heap ((ao, .inl (cl, 1, .inr (.inl (woL (.inr (v, u)) f)))) :: wB cy h kp u) H locs := ⟨hP, hD, hS⟩
    refine lv_goto (tgt := 17) G.1 G.2.1 dL_blockStarts_10 (by decide) ?_
    refine lv_iconst (v := (0 : Int32)) G.1 G.2.1 dL_blockStarts_17 (by decide) ?_
    exact k_lret G hr hlk hW9 rfl rfl dL_blockStarts_18
set_option maxHeartbeats 4000000 in
set_option maxRecDepth 100000 in
theorem mL_busiestBlock (l : Launch) (hT : l.stackTraces = false) (D : va_G) (cy cl cd : ClassId) (h : Nat → Nat) (kp : Nat) (ao : Nat) (sz n : Nat) (σ : St) (f : Nat → Int64) {o : XRg Int32} (hf : fX4_busiestBlock n σ = some o) (hE : ∀ E u, o = .inl (E, u) → E = xNS) : Met l yL_busiestBlock (Cond.codeWith yL_busiestBlock cL_busiestBlock 3 (some .int) [(0, 8, 11, 91)] :: wA) { frames := 7, cells := 1, slots := 6, locals := 116 } (KPL D cy cl cd ((ao, .inl (cl, 1, .inr (.inl f))) :: wB cy h kp σ) sz [.ref (h 104), .ref ao]) (va_Qi (fun (r' : Int32) (_ : Unit) => r' = wcd [xNS] o) (fun _ => KB D (va_A ((ao, .inl (cl, 1, .inr (.inl f))) :: wB cy h kp σ) sz) ((ao, .inl (cl, 1, .inr (.inl (woL o f)))) :: wB cy h kp (wst o))) (va_A ((ao, .inl (cl, 1, .inr (.inl f))) :: wB cy h kp σ) sz)) 1 6 (va_A ((ao, .inl (cl, 1, .inr (.inl f))) :: wB cy h kp σ) sz) := by
  refine va_MetW (cc := cL_busiestBlock) (maxL := 3) (ret := (some .int)) (hh := [(0, 8, 11, 91)]) (by decide) rfl ?_
  intro p e s m args below meth c s₁ B hml hv
  obtain ⟨rfl, hsz, hP, hKL, hD0, hX⟩ := hv
  subst hsz
  have hts := atoms_spec (ws := Cond.codeWith yL_busiestBlock cL_busiestBlock 3 (some .int) [(0, 8, 11, 91)] :: wA) B.pre
  have htab := vx_table (x := yL_busiestBlock) B (hts _ List.mem_cons_self)
  have G : CallFix p m c cL_busiestBlock 3 s _ wA RL := ⟨B.exec, B.bytes, hml, findClass_of_methodNamed B.named, fun w h => hts w (List.mem_cons_of_mem _ h)⟩
  have hr := B.returns
  have hlk := B.notSynchronized
  have hK := hKL.KK
  have hW : KW D (va_A ((ao, .inl (cl, 1, .inr (.inl f))) :: wB cy h kp σ) s.heap.size) s.heap ((ao, .inl (cl, 1, .inr (.inl f))) :: wB cy h kp σ) s.heap [] := ⟨hP, hD0.self, va_S.rf⟩
  have hA : ∀ q, s.heap.size ≤ q → va_A ((ao, .inl (cl, 1, .inr (.inl f))) :: wB cy h kp σ) s.heap.size q := fun q h => Or.inr h
  have hl := lv_entry ([.ref (h 104), .ref ao]) (n := 3) (Nat.le_of_ble_eq_true rfl)
  rw [lg_entry_eq]
  generalize (lg_sl ([.ref (h 104), .ref ao]) ++ List.replicate (3 - (lg_sl ([.ref (h 104), .ref ao])).length) Slot.unset).toArray = ls at hl ⊢
  have hl : lv_has ls 3 [(0, .ref (h 104)), (1, .ref ao)] := hl
  refine lv_aload_n G.1 G.2.1 dL_busiestBlock_0 rfl (lv_at hl 1 rfl) ?_
  refine lv_iconst (v := (0 : Int32)) G.1 G.2.1 dL_busiestBlock_1 (by decide) ?_
  refine lv_aload_n G.1 G.2.1 dL_busiestBlock_2 rfl (lv_at hl 0 rfl) ?_
  refine kxl_i (w := wB cy h kp) (wr := [(ao, .inl (cl, 1, .inr (.inl f)))]) (rest := [.int (0 : Int32), .ref ao]) (n := 0) (As := []) (C := RX4) G hK hX hA hW (mX4_busiestBlock l hT D cy h kp _ n σ  hf) (gV q_32_11 q_32_12 q_32_13 q_1_2 q_32_14) ⟨rfl, rfl⟩ (by decide +kernel) ⟨Nat.le_of_ble_eq_true rfl, Nat.le_of_ble_eq_true rfl⟩ (va_recv hK.1 hW.1 (ci := 6) (q0 := 1) rfl rfl) rfl hl.1 rfl (Nat.le_of_ble_eq_true rfl) dL_busiestBlock_3 ⟨Nat.le_of_ble_eq_true rfl, Nat.le_of_ble_eq_true rfl⟩ (fun E u ce q9 H locs ho hW hc1 hv1 hcl => ?_) (fun v u H locs ho hW => ?_)
  · subst ho
    obtain rfl := hE E u rfl
    refine vx_catch (own := RL) (name := xNS) G.2.2.2.1 [] ⟨0, 8, 11, 91⟩ [] htab (fun z hz => nomatch hz) rfl (by decide) (G.2.2.2.2 _ q_29_11) (va_Nw.use rfl (hX.1.1 (210, xNS) (List.mem_of_getElem? (i := 4) rfl))) hc1 hv1 hcl ?_
    refine lv_astore_n (lv' := [(2, .ref q9), (0, .ref (h 104)), (1, .ref ao)]) G.1 G.2.1 dL_busiestBlock_11 rfl hl (by decide) rfl (fun ls hl => ?_)
    refine lv_iconst (v := (1 : Int32)) G.1 G.2.1 dL_busiestBlock_12 (by decide) ?_
    exact k_lret G hr hlk hW (show (1 : Int32) = cdL [xNS] 1 xNS by decide +kernel) rfl dL_busiestBlock_13
  · subst ho
    refine lv_i2l (v := v.toInt64) G.1 G.2.1 dL_busiestBlock_6 rfl ?_
    refine va_last G.1 G.2.1 hKL.1 hW.1 hW.2.1 hW.2.2 0 1 rfl rfl k_in01 dL_busiestBlock_7 (fun H locs hP hD hS => ?_)
    have hW9 : KW D (va_A ((ao, .inl (cl, 1, .inr (.inl f))) :: wB cy h kp σ) s.heap.size) s.heap ((ao, .inl (cl, 1, .inr (.inl (woL (.inr (v, u)) f)))) :: wB cy h kp u) H locs := ⟨hP, hD, hS⟩
    refine lv_goto (tgt := 14) G.1 G.2.1 dL_busiestBlock_8 (by decide) ?_
    refine lv_iconst (v := (0 : Int32)) G.1 G.2.1 dL_busiestBlock_14 (by decide) ?_
    exact k_lret G hr hlk hW9 rfl rfl dL_busiestBlock_15
set_option maxHeartbeats 4000000 in
set_option maxRecDepth 100000 in
theorem mL_event (l : Launch) (hT : l.stackTraces = false) (D : va_G) (cy cl cd : ClassId) (h : Nat → Nat) (kp : Nat) (ao : Nat) (sz n : Nat) (σ : St) (f : Nat → Int64) (x1 : Int32) (x2 : Int32) {o : XRg Int32} (hf : fX4_event n σ x1 x2 = some o) (hE : ∀ E u, o = .inl (E, u) → E = xIO) : Met l yL_event (Cond.codeWith yL_event cL_event 5 (some .int) [(0, 10, 13, 24)] :: wA) { frames := 7, cells := 1, slots := 6, locals := 112 } (KPL D cy cl cd ((ao, .inl (cl, 1, .inr (.inl f))) :: wB cy h kp σ) sz [.ref (h 104), .int x1, .int x2, .ref ao]) (va_Qi (fun (r' : Int32) (_ : Unit) => r' = wcd [xIO] o) (fun _ => KB D (va_A ((ao, .inl (cl, 1, .inr (.inl f))) :: wB cy h kp σ) sz) ((ao, .inl (cl, 1, .inr (.inl (woL o f)))) :: wB cy h kp (wst o))) (va_A ((ao, .inl (cl, 1, .inr (.inl f))) :: wB cy h kp σ) sz)) 1 6 (va_A ((ao, .inl (cl, 1, .inr (.inl f))) :: wB cy h kp σ) sz) := by
  refine va_MetW (cc := cL_event) (maxL := 5) (ret := (some .int)) (hh := [(0, 10, 13, 24)]) (by decide) rfl ?_
  intro p e s m args below meth c s₁ B hml hv
  obtain ⟨rfl, hsz, hP, hKL, hD0, hX⟩ := hv
  subst hsz
  have hts := atoms_spec (ws := Cond.codeWith yL_event cL_event 5 (some .int) [(0, 10, 13, 24)] :: wA) B.pre
  have htab := vx_table (x := yL_event) B (hts _ List.mem_cons_self)
  have G : CallFix p m c cL_event 5 s _ wA RL := ⟨B.exec, B.bytes, hml, findClass_of_methodNamed B.named, fun w h => hts w (List.mem_cons_of_mem _ h)⟩
  have hr := B.returns
  have hlk := B.notSynchronized
  have hK := hKL.KK
  have hW : KW D (va_A ((ao, .inl (cl, 1, .inr (.inl f))) :: wB cy h kp σ) s.heap.size) s.heap ((ao, .inl (cl, 1, .inr (.inl f))) :: wB cy h kp σ) s.heap [] := ⟨hP, hD0.self, va_S.rf⟩
  have hA : ∀ q, s.heap.size ≤ q → va_A ((ao, .inl (cl, 1, .inr (.inl f))) :: wB cy h kp σ) s.heap.size q := fun q h => Or.inr h
  have hl := lv_entry ([.ref (h 104), .int x1, .int x2, .ref ao]) (n := 5) (Nat.le_of_ble_eq_true rfl)
  rw [lg_entry_eq]
  generalize (lg_sl ([.ref (h 104), .int x1, .int x2, .ref ao]) ++ List.replicate (5 - (lg_sl ([.ref (h 104), .int x1, .int x2, .ref ao])).length) Slot.unset).toArray = ls at hl ⊢
  have hl : lv_has ls 5 [(0, .ref (h 104)), (1, .int x1), (2, .int x2), (3, .ref ao)] := hl
  refine lv_aload_n G.1 G.2.1 dL_event_0 rfl (lv_at hl 3 rfl) ?_
  refine lv_iconst (v := (0 : Int32)) G.1 G.2.1 dL_event_1 (by decide) ?_
  refine lv_aload_n G.1 G.2.1 dL_event_2 rfl (lv_at hl 0 rfl) ?_
  refine lv_iload_n G.1 G.2.1 dL_event_3 rfl (lv_at hl 1 rfl) ?_
  refine lv_iload_n G.1 G.2.1 dL_event_4 rfl (lv_at hl 2 rfl) ?_
  refine kxl_i (w := wB cy h kp) (wr := [(ao, .inl (cl, 1, .inr (.inl f)))]) (rest := [.int (0 : Int32), .ref ao]) (n := 2) (As := [.int x1, .int x2]) (C := RX4) G hK hX hA hW (mX4_event l hT D cy h kp _ n σ x1 x2 hf) (gV q_33_8 q_33_9 q_33_10 q_1_2 q_33_11) ⟨rfl, rfl⟩ (by decide +kernel) ⟨Nat.le_of_ble_eq_true rfl, Nat.le_of_ble_eq_true rfl⟩ (va_recv hK.1 hW.1 (ci := 6) (q0 := 1) rfl rfl) rfl hl.1 rfl (Nat.le_of_ble_eq_true rfl) dL_event_5 ⟨Nat.le_of_ble_eq_true rfl, Nat.le_of_ble_eq_true rfl⟩ (fun E u ce q9 H locs ho hW hc1 hv1 hcl => ?_) (fun v u H locs ho hW => ?_)
  · subst ho
    obtain rfl := hE E u rfl
    refine vx_catch (own := RL) (name := xIO) G.2.2.2.1 [] ⟨0, 10, 13, 24⟩ [] htab (fun z hz => nomatch hz) rfl (by decide) (G.2.2.2.2 _ q_13_20) (va_Nw.use rfl (hX.1.1 (165, xIO) (List.mem_of_getElem? (i := 2) rfl))) hc1 hv1 hcl ?_
    refine lv_astore (lv' := [(4, .ref q9), (0, .ref (h 104)), (1, .int x1), (2, .int x2), (3, .ref ao)]) G.1 G.2.1 dL_event_13 hl (by decide) rfl (fun ls hl => ?_)
    refine lv_iconst (v := (1 : Int32)) G.1 G.2.1 dL_event_15 (by decide) ?_
    exact k_lret G hr hlk hW (show (1 : Int32) = cdL [xIO] 1 xIO by decide +kernel) rfl dL_event_16
  · subst ho
    refine lv_i2l (v := v.toInt64) G.1 G.2.1 dL_event_8 rfl ?_
    refine va_last G.1 G.2.1 hKL.1 hW.1 hW.2.1 hW.2.2 0 1 rfl rfl k_in01 dL_event_9 (fun H locs hP hD hS => ?_)
    have hW9 : KW D (va_A ((ao, .inl (cl, 1, .inr (.inl f))) :: wB cy h kp σ) s.heap.size) s.heap ((ao, .inl (cl, 1, .inr (.inl (woL (.inr (v, u)) f)))) :: wB cy h kp u) H locs := ⟨hP, hD, hS⟩
    refine lv_goto (tgt := 17) G.1 G.2.1 dL_event_10 (by decide) ?_
    refine lv_iconst (v := (0 : Int32)) G.1 G.2.1 dL_event_17 (by decide) ?_
    exact k_lret G hr hlk hW9 rfl rfl dL_event_18
set_option maxHeartbeats 4000000 in
set_option maxRecDepth 100000 in
theorem mL_restore (l : Launch) (hT : l.stackTraces = false) (D : va_G) (cy cl cd : ClassId) (h : Nat → Nat) (h2 : Nat → Nat) (ao : Nat) (sz n : Nat) (σ2 : St) (σ : St) (f : Nat → Int64) {o : XRg Int32} (hf : fX4_restore n σ2 σ = some o) (hE : ∀ E u, o = .inl (E, u) → E = xIS) : Met l yL_restore (Cond.codeWith yL_restore cL_restore 3 (some .int) [(0, 8, 11, 15)] :: wA) { frames := 7, cells := 1, slots := 6, locals := 122 } (KPL D cy cl cd ((ao, .inl (cl, 1, .inr (.inl f))) :: wBB cy h h2 σ2 σ) sz [.ref (h 104), .ref ao]) (va_Qi (fun (r' : Int32) (_ : Unit) => r' = wcd [xIS] o) (fun _ => KB D (va_A ((ao, .inl (cl, 1, .inr (.inl f))) :: wBB cy h h2 σ2 σ) sz) ((ao, .inl (cl, 1, .inr (.inl (woL o f)))) :: wBB cy h h2 σ2 (wst o))) (va_A ((ao, .inl (cl, 1, .inr (.inl f))) :: wBB cy h h2 σ2 σ) sz)) 1 6 (va_A ((ao, .inl (cl, 1, .inr (.inl f))) :: wBB cy h h2 σ2 σ) sz) := by
  refine va_MetW (cc := cL_restore) (maxL := 3) (ret := (some .int)) (hh := [(0, 8, 11, 15)]) (by decide) rfl ?_
  intro p e s m args below meth c s₁ B hml hv
  obtain ⟨rfl, hsz, hP, hKL, hD0, hX⟩ := hv
  subst hsz
  have hts := atoms_spec (ws := Cond.codeWith yL_restore cL_restore 3 (some .int) [(0, 8, 11, 15)] :: wA) B.pre
  have htab := vx_table (x := yL_restore) B (hts _ List.mem_cons_self)
  have G : CallFix p m c cL_restore 3 s _ wA RL := ⟨B.exec, B.bytes, hml, findClass_of_methodNamed B.named, fun w h => hts w (List.mem_cons_of_mem _ h)⟩
  have hr := B.returns
  have hlk := B.notSynchronized
  have hK := hKL.KK
  have hW : KW D (va_A ((ao, .inl (cl, 1, .inr (.inl f))) :: wBB cy h h2 σ2 σ) s.heap.size) s.heap ((ao, .inl (cl, 1, .inr (.inl f))) :: wBB cy h h2 σ2 σ) s.heap [] := ⟨hP, hD0.self, va_S.rf⟩
  have hA : ∀ q, s.heap.size ≤ q → va_A ((ao, .inl (cl, 1, .inr (.inl f))) :: wBB cy h h2 σ2 σ) s.heap.size q := fun q h => Or.inr h
  have hl := lv_entry ([.ref (h 104), .ref ao]) (n := 3) (Nat.le_of_ble_eq_true rfl)
  rw [lg_entry_eq]
  generalize (lg_sl ([.ref (h 104), .ref ao]) ++ List.replicate (3 - (lg_sl ([.ref (h 104), .ref ao])).length) Slot.unset).toArray = ls at hl ⊢
  have hl : lv_has ls 3 [(0, .ref (h 104)), (1, .ref ao)] := hl
  refine lv_aload_n G.1 G.2.1 dL_restore_0 rfl (lv_at hl 1 rfl) ?_
  refine lv_iconst (v := (0 : Int32)) G.1 G.2.1 dL_restore_1 (by decide) ?_
  refine lv_aload_n G.1 G.2.1 dL_restore_2 rfl (lv_at hl 0 rfl) ?_
  refine kxl_i (w := wBB cy h h2 σ2) (wr := [(ao, .inl (cl, 1, .inr (.inl f)))]) (rest := [.int (0 : Int32), .ref ao]) (n := 0) (As := []) (C := RX4) G hK hX hA hW (mX4_restore l hT D cy h h2 _ n σ2 σ  hf) (gV q_35_7 q_35_8 q_35_9 q_1_2 q_35_10) ⟨rfl, rfl⟩ (by decide +kernel) ⟨Nat.le_of_ble_eq_true rfl, Nat.le_of_ble_eq_true rfl⟩ (va_recv hK.1 hW.1 (ci := 6) (q0 := 1) rfl rfl) rfl hl.1 rfl (Nat.le_of_ble_eq_true rfl) dL_restore_3 ⟨Nat.le_of_ble_eq_true rfl, Nat.le_of_ble_eq_true rfl⟩ (fun E u ce q9 H locs ho hW hc1 hv1 hcl => ?_) (fun v u H locs ho hW => ?_)
  · subst ho
    obtain rfl := hE E u rfl
    refine vx_catch (own := RL) (name := xIS) G.2.2.2.1 [] ⟨0, 8, 11, 15⟩ [] htab (fun z hz => nomatch hz) rfl (by decide) (G.2.2.2.2 _ q_4_15) (va_Nw.use rfl (hX.1.1 (57, xIS) (List.mem_of_getElem? (i := 1) rfl))) hc1 hv1 hcl ?_
    refine lv_astore_n (lv' := [(2, .ref q9), (0, .ref (h 104)), (1, .ref ao)]) G.1 G.2.1 dL_restore_11 rfl hl (by decide) rfl (fun ls hl => ?_)
    refine lv_iconst (v := (1 : Int32)) G.1 G.2.1 dL_restore_12 (by decide) ?_
    exact k_lret G hr hlk hW (show (1 : Int32) = cdL [xIS] 1 xIS by decide +kernel) rfl dL_restore_13
  · subst ho
    refine lv_i2l (v := v.toInt64) G.1 G.2.1 dL_restore_6 rfl ?_
    refine va_last G.1 G.2.1 hKL.1 hW.1 hW.2.1 hW.2.2 0 1 rfl rfl k_in01 dL_restore_7 (fun H locs hP hD hS => ?_)
    have hW9 : KW D (va_A ((ao, .inl (cl, 1, .inr (.inl f))) :: wBB cy h h2 σ2 σ) s.heap.size) s.heap ((ao, .inl (cl, 1, .inr (.inl (woL (.inr (v, u)) f)))) :: wBB cy h h2 σ2 u) H locs := ⟨hP, hD, hS⟩
    refine lv_goto (tgt := 14) G.1 G.2.1 dL_restore_8 (by decide) ?_
    refine lv_iconst (v := (0 : Int32)) G.1 G.2.1 dL_restore_14 (by decide) ?_
    exact k_lret G hr hlk hW9 rfl rfl dL_restore_15
