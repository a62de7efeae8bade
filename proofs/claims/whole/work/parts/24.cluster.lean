set_option maxHeartbeats 4000000 in
set_option maxRecDepth 100000 in
theorem mX0_plan (l : Launch) (D : va_G) (cy : ClassId) (h : Nat → Nat) (sz n : Nat) (σ : St) (x1 : Int32) {r : Int32} {σ' : St} (hf : fX0_plan n σ x1 = some (r, σ')) : Mi l yX0_plan (ws_ yX0_plan cX0_plan 5 (some .int)) { frames := 3, cells := 0, slots := 0, locals := 71 } D cy (wC cy h σ) (wC cy h σ') sz [.ref (h 103), .int x1] r := by
  refine Met.ofW (cc := cX0_plan) (maxL := 5) (ret := (some .int)) (by decide) rfl ?_
  intro p e s m args below meth c s₁ B hml hv
  obtain ⟨rfl, hsz, hP, hK, hD0⟩ := hv
  subst hsz
  have hts := atoms_spec (ws := ws_ yX0_plan cX0_plan 5 (some .int)) B.pre
  have G : CallFix p m c cX0_plan 5 s _ wA RX0 := ⟨B.exec, B.bytes, hml, findClass_of_methodNamed B.named, fun w h => hts w (List.mem_cons_of_mem _ h)⟩
  have hr := B.returns
  have hlk := B.notSynchronized
  have hW : KW D (va_A (wC cy h σ) s.heap.size) s.heap (wC cy h σ) s.heap [] := ⟨hP, hD0.self, va_S.rf⟩
  have hA : ∀ q, s.heap.size ≤ q → va_A (wC cy h σ) s.heap.size q := fun q h => Or.inr h
  have hl := lv_entry ([.ref (h 103), .int x1]) (n := 5) (Nat.le_of_ble_eq_true rfl)
  rw [lg_entry_eq]
  generalize (lg_sl ([.ref (h 103), .int x1]) ++ List.replicate (5 - (lg_sl ([.ref (h 103), .int x1])).length) Slot.unset).toArray = ls at hl ⊢
  have hl : lv_has ls 5 [(0, .ref (h 103)), (1, .int x1)] := hl
  unfold fX0_plan at hf
  refine lv_aload_n G.1 G.2.1 dX0_plan_0 rfl (lv_at hl 0 rfl) ?_
  refine k_get G inlX0 hK hW 0 rfl rfl 1 (by decide) q_2_7 rfl dX0_plan_1 ?_
  refine k_get G inlX2 hK hW 9 rfl rfl 2 (by decide) q_6_4 rfl dX0_plan_4 ?_
  refine lv_iload_n G.1 G.2.1 dX0_plan_7 rfl (lv_at hl 1 rfl) ?_
  obtain ⟨v1, ev1, hf⟩ := ob hf
  refine k_ald G hK hW 11 rfl ev1 dX0_plan_8 ?_
  refine lv_istore_n (lv' := [(2, .int v1), (0, .ref (h 103)), (1, .int x1)]) G.1 G.2.1 dX0_plan_9 rfl hl (by decide) rfl (fun ls hl => ?_)
  refine lv_aload_n G.1 G.2.1 dX0_plan_10 rfl (lv_at hl 1 rfl) ?_
  refine k_get G inlX0 hK hW 0 rfl rfl 1 (by decide) q_2_7 rfl dX0_plan_11 ?_
  refine k_get G inlX2 hK hW 9 rfl rfl 3 (by decide) q_6_5 rfl dX0_plan_14 ?_
  refine lv_iload_n G.1 G.2.1 dX0_plan_17 rfl (lv_at hl 2 rfl) ?_
  obtain ⟨v2, ev2, hf⟩ := ob hf
  refine k_ald G hK hW 12 rfl ev2 dX0_plan_18 ?_
  refine lv_istore_n (lv' := [(3, .int v2), (2, .int v1), (0, .ref (h 103)), (1, .int x1)]) G.1 G.2.1 dX0_plan_19 rfl hl (by decide) rfl (fun ls hl => ?_)
  refine lv_aload_n G.1 G.2.1 dX0_plan_20 rfl (lv_at hl 2 rfl) ?_
  refine k_get G inlX0 hK hW 0 rfl rfl 0 (by decide) q_2_3 rfl dX0_plan_21 ?_
  refine lv_iload_n G.1 G.2.1 dX0_plan_24 rfl (lv_at hl 1 rfl) ?_
  refine lv_aload_n G.1 G.2.1 dX0_plan_25 rfl (lv_at hl 2 rfl) ?_
  refine k_get G inlX0 hK hW 0 rfl rfl 4 (by decide) q_2_14 rfl dX0_plan_26 ?_
  refine lv_iload_n G.1 G.2.1 dX0_plan_29 rfl (lv_at hl 0 rfl) ?_
  obtain ⟨v3, ev3, hf⟩ := ob hf
  refine kc_i (wr := []) (w := wC cy h σ) (w' := wC cy h σ) (n := 3) (As := [.int v1, .int (σ 25 0), .int v2]) (C := RX3) G hK hA hW (mX3_earliest l D cy h _ n σ v1 (σ 25 0) v2 ev3) (gV q_6_6 q_6_7 q_6_8 q_2_2 q_6_9) ⟨rfl, rfl⟩ (by decide +kernel) ⟨Nat.le_of_ble_eq_true rfl, Nat.le_of_ble_eq_true rfl⟩ (va_recv hK.1 hW.1 (ci := 5) (q0 := 4) rfl rfl) rfl hl.1 rfl (Nat.le_of_ble_eq_true rfl) dX0_plan_30 ⟨Nat.le_of_ble_eq_true rfl, Nat.le_of_ble_eq_true rfl⟩ (fun H locs hW => ?_)
  refine lv_istore (lv' := [(4, .int v3), (3, .int v2), (2, .int v1), (0, .ref (h 103)), (1, .int x1)]) G.1 G.2.1 dX0_plan_33 hl (by decide) rfl (fun ls hl => ?_)
  refine lv_aload_n G.1 G.2.1 dX0_plan_35 rfl (lv_at hl 3 rfl) ?_
  refine k_get G inlX0 hK hW 0 rfl rfl 0 (by decide) q_2_3 rfl dX0_plan_36 ?_
  refine lv_iload_n G.1 G.2.1 dX0_plan_39 rfl (lv_at hl 4 rfl) ?_
  refine lv_iload_n G.1 G.2.1 dX0_plan_40 rfl (lv_at hl 2 rfl) ?_
  refine lv_aload_n G.1 G.2.1 dX0_plan_41 rfl (lv_at hl 3 rfl) ?_
  refine k_get G inlX0 hK hW 0 rfl rfl 0 (by decide) q_2_3 rfl dX0_plan_42 ?_
  refine lv_iload_n G.1 G.2.1 dX0_plan_45 rfl (lv_at hl 2 rfl) ?_
  refine lv_iload G.1 G.2.1 dX0_plan_46 (lv_at hl 0 rfl) ?_
  refine lv_iload_n G.1 G.2.1 dX0_plan_48 rfl (lv_at hl 1 rfl) ?_
  obtain ⟨v4, ev4, hf⟩ := ob hf
  refine kc_i (wr := []) (w := wC cy h σ) (w' := wC cy h σ) (n := 3) (As := [.int v1, .int v3, .int v2]) (C := RX3) G hK hA hW (mX3_lowestFree l D cy h _ n σ v1 v3 v2 ev4) (gV q_6_23 q_7_0 q_7_1 q_2_2 q_7_2) ⟨rfl, rfl⟩ (by decide +kernel) ⟨Nat.le_of_ble_eq_true rfl, Nat.le_of_ble_eq_true rfl⟩ (va_recv hK.1 hW.1 (ci := 5) (q0 := 4) rfl rfl) rfl hl.1 rfl (Nat.le_of_ble_eq_true rfl) dX0_plan_49 ⟨Nat.le_of_ble_eq_true rfl, Nat.le_of_ble_eq_true rfl⟩ (fun H locs hW => ?_)
  refine lv_iload G.1 G.2.1 dX0_plan_52 (lv_at hl 0 rfl) ?_
  refine lv_iload_n G.1 G.2.1 dX0_plan_54 rfl (lv_at hl 1 rfl) ?_
  obtain ⟨s5, es5, hf⟩ := ob hf
  refine kc_v (wr := []) (w := wC cy h σ) (w' := wC cy h s5) (n := 5) (As := [.int x1, .int v1, .int v4, .int v3, .int v2]) (C := RX3) G hK hA hW (mX3_give l D cy h _ n σ x1 v1 v4 v3 v2 es5) (gV q_7_3 q_7_4 q_7_5 q_2_2 q_7_6) ⟨rfl, rfl⟩ (by decide +kernel) ⟨Nat.le_of_ble_eq_true rfl, Nat.le_of_ble_eq_true rfl⟩ (va_recv hK.1 hW.1 (ci := 5) (q0 := 4) rfl rfl) rfl hl.1 rfl (Nat.le_of_ble_eq_true rfl) dX0_plan_55 ⟨Nat.le_of_ble_eq_true rfl, Nat.le_of_ble_eq_true rfl⟩ (fun H locs hW => ?_)
  refine lv_iload G.1 G.2.1 dX0_plan_58 (lv_at hl 0 rfl) ?_
  cases hf
  exact k_iret G hr hlk hK hW dX0_plan_60

set_option maxHeartbeats 4000000 in
set_option maxRecDepth 100000 in
theorem mX0_startJobs (l : Launch) (D : va_G) (cy : ClassId) (h : Nat → Nat) (sz n : Nat) (σ : St) {σ' : St} (hf : fX0_startJobs n σ = some σ') : Mv l yX0_startJobs (ws_ yX0_startJobs cX0_startJobs 2 none) { frames := 1, cells := 0, slots := 0, locals := 24 } D cy (wC cy h σ) (wC cy h σ') sz [.ref (h 103)] := by
  refine Met.ofW (cc := cX0_startJobs) (maxL := 2) (ret := none) (by decide) rfl ?_
  intro p e s m args below meth c s₁ B hml hv
  obtain ⟨rfl, hsz, hP, hK, hD0⟩ := hv
  subst hsz
  have hts := atoms_spec (ws := ws_ yX0_startJobs cX0_startJobs 2 none) B.pre
  have G : CallFix p m c cX0_startJobs 2 s _ wA RX0 := ⟨B.exec, B.bytes, hml, findClass_of_methodNamed B.named, fun w h => hts w (List.mem_cons_of_mem _ h)⟩
  have hr := B.returns
  have hlk := B.notSynchronized
  have hW : KW D (va_A (wC cy h σ) s.heap.size) s.heap (wC cy h σ) s.heap [] := ⟨hP, hD0.self, va_S.rf⟩
  have hA : ∀ q, s.heap.size ≤ q → va_A (wC cy h σ) s.heap.size q := fun q h => Or.inr h
  have hl := lv_entry ([.ref (h 103)]) (n := 2) (Nat.le_of_ble_eq_true rfl)
  rw [lg_entry_eq]
  generalize (lg_sl ([.ref (h 103)]) ++ List.replicate (2 - (lg_sl ([.ref (h 103)])).length) Slot.unset).toArray = ls at hl ⊢
  have hl : lv_has ls 2 [(0, .ref (h 103))] := hl
  unfold fX0_startJobs at hf
  refine lv_iconst (v := (0 : Int32)) G.1 G.2.1 dX0_startJobs_0 (by decide) ?_
  refine lv_istore_n (lv' := [(1, .int (0 : Int32)), (0, .ref (h 103))]) G.1 G.2.1 dX0_startJobs_1 rfl hl (by decide) rfl (fun ls hl => ?_)
  have L2 : ∀ (fu : Nat) (y1 : Int32) (s2 : St) (H : Heap) (locs : List Loc) (ls : Array Slot), lz2 (fX0_startJobs_b2 n) fu y1 s2 = some σ' → KW D (va_A (wC cy h σ) s.heap.size) s.heap (wC cy h s2) H locs → lv_has ls 2 [(1, .int y1), (0, .ref (h 103))] → W p l e (headSpec (ws_ yX0_startJobs cX0_startJobs 2 none) { frames := 1, cells := 0, slots := 0, locals := 24 }).room s m (([.ref (h 103)] : List Value).toArray) below meth c H locs 0 0 (MQ below (va_Qv (fun (_ : Unit) => True) (fun _ => KB D (va_A (wC cy h σ) s.heap.size) (wC cy h σ')) (va_A (wC cy h σ) s.heap.size)) (([.ref (h 103)] : List Value).toArray) s 0 0 (va_A (wC cy h σ) s.heap.size)) (F0 m 2 ls []) := by
    intro fu2
    induction fu2 with
    | zero => intro y1 s2 H locs ls hf; cases hf
    | succ fu2 ih2 =>
      intro y1 s2 H locs ls hf hW hl
      rw [lz2_s] at hf
      unfold fX0_startJobs_b2 at hf
      refine lv_iload_n G.1 G.2.1 dX0_startJobs_2 rfl (lv_at hl 0 rfl) ?_
      refine lv_aload_n G.1 G.2.1 dX0_startJobs_3 rfl (lv_at hl 1 rfl) ?_
      refine k_get G inlX0 hK hW 0 rfl rfl 1 (by decide) q_2_7 rfl dX0_startJobs_4 ?_
      refine k_get G inlX2 hK hW 9 rfl rfl 0 (by decide) q_7_11 rfl dX0_startJobs_7 ?_
      refine lv_icmp_ge (tgt := 124) G.1 G.2.1 dX0_startJobs_10 (by decide) (fun c10 => ?_) (fun c10 => ?_)
      · replace hf := it c10 hf
        cases hf
        exact k_vret G hr hlk hK hW dX0_startJobs_124
      · replace hf := ie c10 hf
        refine lv_aload_n G.1 G.2.1 dX0_startJobs_13 rfl (lv_at hl 1 rfl) ?_
        refine k_get G inlX0 hK hW 0 rfl rfl 1 (by decide) q_2_7 rfl dX0_startJobs_14 ?_
        refine k_get G inlX2 hK hW 9 rfl rfl 5 (by decide) q_7_12 rfl dX0_startJobs_17 ?_
        refine lv_iload_n G.1 G.2.1 dX0_startJobs_20 rfl (lv_at hl 0 rfl) ?_
        obtain ⟨v4, ev4, hf⟩ := ob hf
        refine k_ald G hK hW 14 rfl ev4 dX0_startJobs_21 ?_
        refine lv_if_ne (tgt := 118) G.1 G.2.1 dX0_startJobs_22 (by decide) (fun c22 => ?_) (fun c22 => ?_)
        · replace hf := ie c22 hf
          refine lv_iinc (v := (y1 + (1 : Int32))) (lv' := [(1, .int (y1 + (1 : Int32))), (0, .ref (h 103))]) G.1 G.2.1 dX0_startJobs_118 hl (k := 0) rfl (congrArg (y1 + ·) (by decide)) (by decide) rfl (fun ls hl => ?_)
          refine lv_goto (tgt := 2) G.1 G.2.1 dX0_startJobs_121 (by decide) ?_
          exact ih2 _ _ _ _ _ hf hW (lv_sub hl [0, 1] rfl)
        · replace hf := it c22 hf
          refine lv_aload_n G.1 G.2.1 dX0_startJobs_25 rfl (lv_at hl 1 rfl) ?_
          refine k_get G inlX0 hK hW 0 rfl rfl 0 (by decide) q_2_3 rfl dX0_startJobs_26 ?_
          refine k_get G inlX3 hK hW 4 rfl rfl 2 (by decide) q_7_13 rfl dX0_startJobs_29 ?_
          refine lv_iload_n G.1 G.2.1 dX0_startJobs_32 rfl (lv_at hl 0 rfl) ?_
          obtain ⟨v5, ev5, hf⟩ := ob hf
          refine k_ald G hK hW 7 rfl ev5 dX0_startJobs_33 ?_
          refine lv_aload_n G.1 G.2.1 dX0_startJobs_34 rfl (lv_at hl 1 rfl) ?_
          refine k_get G inlX0 hK hW 0 rfl rfl 4 (by decide) q_2_14 rfl dX0_startJobs_35 ?_
          refine lv_icmp_ne (tgt := 118) G.1 G.2.1 dX0_startJobs_38 (by decide) (fun c38 => ?_) (fun c38 => ?_)
          · replace hf := ie c38 hf
            refine lv_iinc (v := (y1 + (1 : Int32))) (lv' := [(1, .int (y1 + (1 : Int32))), (0, .ref (h 103))]) G.1 G.2.1 dX0_startJobs_118 hl (k := 0) rfl (congrArg (y1 + ·) (by decide)) (by decide) rfl (fun ls hl => ?_)
            refine lv_goto (tgt := 2) G.1 G.2.1 dX0_startJobs_121 (by decide) ?_
            exact ih2 _ _ _ _ _ hf hW (lv_sub hl [0, 1] rfl)
          · replace hf := it c38 hf
            refine lv_aload_n G.1 G.2.1 dX0_startJobs_41 rfl (lv_at hl 1 rfl) ?_
            refine k_get G inlX0 hK hW 0 rfl rfl 1 (by decide) q_2_7 rfl dX0_startJobs_42 ?_
            refine k_get G inlX2 hK hW 9 rfl rfl 5 (by decide) q_7_12 rfl dX0_startJobs_45 ?_
            refine lv_iload_n G.1 G.2.1 dX0_startJobs_48 rfl (lv_at hl 0 rfl) ?_
            refine lv_iconst (v := (1 : Int32)) G.1 G.2.1 dX0_startJobs_49 (by decide) ?_
            obtain ⟨s6, es6, hf⟩ := ob hf
            refine k_ast (w := wC cy h) G hK hW 14 8 24 rfl (fun _ => rfl) es6 dX0_startJobs_50 (fun H locs hW => ?_)
            refine lv_aload_n G.1 G.2.1 dX0_startJobs_51 rfl (lv_at hl 1 rfl) ?_
            refine k_get G inlX0 hK hW 0 rfl rfl 1 (by decide) q_2_7 rfl dX0_startJobs_52 ?_
            refine lv_iload_n G.1 G.2.1 dX0_startJobs_55 rfl (lv_at hl 0 rfl) ?_
            obtain ⟨v7, ev7, hf⟩ := ob hf
            refine kc_i (wr := []) (w := wC cy h s6) (w' := wC cy h s6) (n := 1) (As := [.int y1]) (C := RX2) G hK hA hW (mX2_wasStarted l D cy h _ n s6 y1 ev7) (gV q_7_16 q_7_17 q_7_18 q_2_6 q_7_19) ⟨rfl, rfl⟩ (by decide +kernel) ⟨Nat.le_of_ble_eq_true rfl, Nat.le_of_ble_eq_true rfl⟩ (va_recv hK.1 hW.1 (ci := 4) (q0 := 9) rfl rfl) rfl hl.1 rfl (Nat.le_of_ble_eq_true rfl) dX0_startJobs_56 ⟨Nat.le_of_ble_eq_true rfl, Nat.le_of_ble_eq_true rfl⟩ (fun H locs hW => ?_)
            refine lv_if_ne (tgt := 75) G.1 G.2.1 dX0_startJobs_59 (by decide) (fun c59 => ?_) (fun c59 => ?_)
            · replace hf := ie c59 hf
              refine lv_aload_n G.1 G.2.1 dX0_startJobs_75 rfl (lv_at hl 1 rfl) ?_
              refine k_get G inlX0 hK hW 0 rfl rfl 3 (by decide) q_2_13 rfl dX0_startJobs_76 ?_
              refine lv_aload_n G.1 G.2.1 dX0_startJobs_79 rfl (lv_at hl 1 rfl) ?_
              refine k_get G inlX0 hK hW 0 rfl rfl 1 (by decide) q_2_7 rfl dX0_startJobs_80 ?_
              refine k_get G inlX2 hK hW 9 rfl rfl 2 (by decide) q_6_4 rfl dX0_startJobs_83 ?_
              refine lv_iload_n G.1 G.2.1 dX0_startJobs_86 rfl (lv_at hl 0 rfl) ?_
              obtain ⟨v8, ev8, hf⟩ := ob hf
              refine k_ald G hK hW 11 rfl ev8 dX0_startJobs_87 ?_
              refine lv_aload_n G.1 G.2.1 dX0_startJobs_88 rfl (lv_at hl 1 rfl) ?_
              refine k_get G inlX0 hK hW 0 rfl rfl 0 (by decide) q_2_3 rfl dX0_startJobs_89 ?_
              refine k_get G inlX3 hK hW 4 rfl rfl 1 (by decide) q_7_15 rfl dX0_startJobs_92 ?_
              refine lv_iload_n G.1 G.2.1 dX0_startJobs_95 rfl (lv_at hl 0 rfl) ?_
              obtain ⟨v9, ev9, hf⟩ := ob hf
              refine k_ald G hK hW 6 rfl ev9 dX0_startJobs_96 ?_
              obtain ⟨v10, ev10, hf⟩ := ob hf
              refine kc_sN (n := 2) (As := [.int v8, .int v9]) G hW (mX4_blockIndex l n v8 v9 ev10) (hK.2.2.2.2.2.2.2) q_7_20 q_1_2 q_7_21 ⟨rfl, rfl⟩ (by decide +kernel) ⟨Nat.le_of_ble_eq_true rfl, Nat.le_of_ble_eq_true rfl⟩ rfl hl.1 rfl (Nat.le_of_ble_eq_true rfl) dX0_startJobs_97 ⟨Nat.le_of_ble_eq_true rfl, Nat.le_of_ble_eq_true rfl⟩ (fun H locs hW => ?_)
              refine lv_dup2_11 G.1 G.2.1 dX0_startJobs_100 rfl rfl ?_
              obtain ⟨v11, ev11, hf⟩ := ob hf
              refine k_ald G hK hW 1 rfl ev11 dX0_startJobs_101 ?_
              refine lv_iconst (v := (1 : Int32)) G.1 G.2.1 dX0_startJobs_102 (by decide) ?_
              refine lv_iadd G.1 G.2.1 dX0_startJobs_103 ?_
              obtain ⟨s12, es12, hf⟩ := ob hf
              refine k_ast (w := wC cy h) G hK hW 1 22 64 rfl (fun _ => rfl) es12 dX0_startJobs_104 (fun H locs hW => ?_)
              refine lv_aload_n G.1 G.2.1 dX0_startJobs_105 rfl (lv_at hl 1 rfl) ?_
              refine k_get G inlX0 hK hW 0 rfl rfl 2 (by decide) q_2_11 rfl dX0_startJobs_106 ?_
              refine lv_aload_n G.1 G.2.1 dX0_startJobs_109 rfl (lv_at hl 1 rfl) ?_
              refine k_get G inlX0 hK hW 0 rfl rfl 4 (by decide) q_2_14 rfl dX0_startJobs_110 ?_
              refine lv_iconst (v := (1 : Int32)) G.1 G.2.1 dX0_startJobs_113 (by decide) ?_
              refine lv_iload_n G.1 G.2.1 dX0_startJobs_114 rfl (lv_at hl 0 rfl) ?_
              obtain ⟨s13, es13, hf⟩ := ob hf
              refine kc_v (wr := []) (w := wC cy h s12) (w' := wC cy h s13) (n := 3) (As := [.int (s12 25 0), .int (1 : Int32), .int y1]) (C := RX1) G hK hA hW (mX1_note l D cy h _ n s12 (s12 25 0) (1 : Int32) y1 es13) (gV q_5_20 q_5_21 q_5_22 q_2_10 q_5_23) ⟨rfl, rfl⟩ (by decide +kernel) ⟨Nat.le_of_ble_eq_true rfl, Nat.le_of_ble_eq_true rfl⟩ (va_recv hK.1 hW.1 (ci := 3) (q0 := 22) rfl rfl) rfl hl.1 rfl (Nat.le_of_ble_eq_true rfl) dX0_startJobs_115 ⟨Nat.le_of_ble_eq_true rfl, Nat.le_of_ble_eq_true rfl⟩ (fun H locs hW => ?_)
              refine lv_iinc (v := (y1 + (1 : Int32))) (lv' := [(1, .int (y1 + (1 : Int32))), (0, .ref (h 103))]) G.1 G.2.1 dX0_startJobs_118 hl (k := 0) rfl (congrArg (y1 + ·) (by decide)) (by decide) rfl (fun ls hl => ?_)
              refine lv_goto (tgt := 2) G.1 G.2.1 dX0_startJobs_121 (by decide) ?_
              exact ih2 _ _ _ _ _ hf hW (lv_sub hl [0, 1] rfl)
            · replace hf := it c59 hf
              refine lv_aload_n G.1 G.2.1 dX0_startJobs_62 rfl (lv_at hl 1 rfl) ?_
              refine k_get G inlX0 hK hW 0 rfl rfl 1 (by decide) q_2_7 rfl dX0_startJobs_63 ?_
              refine k_get G inlX2 hK hW 9 rfl rfl 9 (by decide) q_7_14 rfl dX0_startJobs_66 ?_
              refine lv_iload_n G.1 G.2.1 dX0_startJobs_69 rfl (lv_at hl 0 rfl) ?_
              refine lv_aload_n G.1 G.2.1 dX0_startJobs_70 rfl (lv_at hl 1 rfl) ?_
              refine k_get G inlX0 hK hW 0 rfl rfl 4 (by decide) q_2_14 rfl dX0_startJobs_71 ?_
              obtain ⟨s14, es14, hf⟩ := ob hf
              refine k_ast (w := wC cy h) G hK hW 18 12 24 rfl (fun _ => rfl) es14 dX0_startJobs_74 (fun H locs hW => ?_)
              refine lv_aload_n G.1 G.2.1 dX0_startJobs_75 rfl (lv_at hl 1 rfl) ?_
              refine k_get G inlX0 hK hW 0 rfl rfl 3 (by decide) q_2_13 rfl dX0_startJobs_76 ?_
              refine lv_aload_n G.1 G.2.1 dX0_startJobs_79 rfl (lv_at hl 1 rfl) ?_
              refine k_get G inlX0 hK hW 0 rfl rfl 1 (by decide) q_2_7 rfl dX0_startJobs_80 ?_
              refine k_get G inlX2 hK hW 9 rfl rfl 2 (by decide) q_6_4 rfl dX0_startJobs_83 ?_
              refine lv_iload_n G.1 G.2.1 dX0_startJobs_86 rfl (lv_at hl 0 rfl) ?_
              obtain ⟨v15, ev15, hf⟩ := ob hf
              refine k_ald G hK hW 11 rfl ev15 dX0_startJobs_87 ?_
              refine lv_aload_n G.1 G.2.1 dX0_startJobs_88 rfl (lv_at hl 1 rfl) ?_
              refine k_get G inlX0 hK hW 0 rfl rfl 0 (by decide) q_2_3 rfl dX0_startJobs_89 ?_
              refine k_get G inlX3 hK hW 4 rfl rfl 1 (by decide) q_7_15 rfl dX0_startJobs_92 ?_
              refine lv_iload_n G.1 G.2.1 dX0_startJobs_95 rfl (lv_at hl 0 rfl) ?_
              obtain ⟨v16, ev16, hf⟩ := ob hf
              refine k_ald G hK hW 6 rfl ev16 dX0_startJobs_96 ?_
              obtain ⟨v17, ev17, hf⟩ := ob hf
              refine kc_sN (n := 2) (As := [.int v15, .int v16]) G hW (mX4_blockIndex l n v15 v16 ev17) (hK.2.2.2.2.2.2.2) q_7_20 q_1_2 q_7_21 ⟨rfl, rfl⟩ (by decide +kernel) ⟨Nat.le_of_ble_eq_true rfl, Nat.le_of_ble_eq_true rfl⟩ rfl hl.1 rfl (Nat.le_of_ble_eq_true rfl) dX0_startJobs_97 ⟨Nat.le_of_ble_eq_true rfl, Nat.le_of_ble_eq_true rfl⟩ (fun H locs hW => ?_)
              refine lv_dup2_11 G.1 G.2.1 dX0_startJobs_100 rfl rfl ?_
              obtain ⟨v18, ev18, hf⟩ := ob hf
              refine k_ald G hK hW 1 rfl ev18 dX0_startJobs_101 ?_
              refine lv_iconst (v := (1 : Int32)) G.1 G.2.1 dX0_startJobs_102 (by decide) ?_
              refine lv_iadd G.1 G.2.1 dX0_startJobs_103 ?_
              obtain ⟨s19, es19, hf⟩ := ob hf
              refine k_ast (w := wC cy h) G hK hW 1 22 64 rfl (fun _ => rfl) es19 dX0_startJobs_104 (fun H locs hW => ?_)
              refine lv_aload_n G.1 G.2.1 dX0_startJobs_105 rfl (lv_at hl 1 rfl) ?_
              refine k_get G inlX0 hK hW 0 rfl rfl 2 (by decide) q_2_11 rfl dX0_startJobs_106 ?_
              refine lv_aload_n G.1 G.2.1 dX0_startJobs_109 rfl (lv_at hl 1 rfl) ?_
              refine k_get G inlX0 hK hW 0 rfl rfl 4 (by decide) q_2_14 rfl dX0_startJobs_110 ?_
              refine lv_iconst (v := (1 : Int32)) G.1 G.2.1 dX0_startJobs_113 (by decide) ?_
              refine lv_iload_n G.1 G.2.1 dX0_startJobs_114 rfl (lv_at hl 0 rfl) ?_
              obtain ⟨s20, es20, hf⟩ := ob hf
              refine kc_v (wr := []) (w := wC cy h s19) (w' := wC cy h s20) (n := 3) (As := [.int (s19 25 0), .int (1 : Int32), .int y1]) (C := RX1) G hK hA hW (mX1_note l D cy h _ n s19 (s19 25 0) (1 : Int32) y1 es20) (gV q_5_20 q_5_21 q_5_22 q_2_10 q_5_23) ⟨rfl, rfl⟩ (by decide +kernel) ⟨Nat.le_of_ble_eq_true rfl, Nat.le_of_ble_eq_true rfl⟩ (va_recv hK.1 hW.1 (ci := 3) (q0 := 22) rfl rfl) rfl hl.1 rfl (Nat.le_of_ble_eq_true rfl) dX0_startJobs_115 ⟨Nat.le_of_ble_eq_true rfl, Nat.le_of_ble_eq_true rfl⟩ (fun H locs hW => ?_)
              refine lv_iinc (v := (y1 + (1 : Int32))) (lv' := [(1, .int (y1 + (1 : Int32))), (0, .ref (h 103))]) G.1 G.2.1 dX0_startJobs_118 hl (k := 0) rfl (congrArg (y1 + ·) (by decide)) (by decide) rfl (fun ls hl => ?_)
              refine lv_goto (tgt := 2) G.1 G.2.1 dX0_startJobs_121 (by decide) ?_
              exact ih2 _ _ _ _ _ hf hW (lv_sub hl [0, 1] rfl)
  exact L2 _ _ _ _ _ _ hf hW (lv_sub hl [0, 1] rfl)

set_option maxHeartbeats 4000000 in
set_option maxRecDepth 100000 in
theorem mX0_addJob (l : Launch) (D : va_G) (cy : ClassId) (h : Nat → Nat) (sz n : Nat) (σ : St) (x1 : Int32) (x2 : Int32) (x3 : Int32) (x4 : Int32) {r : Int32} {σ' : St} (hf : fX0_addJob n σ x1 x2 x3 x4 = some (r, σ')) : Mi l yX0_addJob (ws_ yX0_addJob cX0_addJob 6 (some .int)) { frames := 4, cells := 0, slots := 0, locals := 95 } D cy (wC cy h σ) (wC cy h σ') sz [.ref (h 103), .int x1, .int x2, .int x3, .int x4] r := by
  refine Met.ofW (cc := cX0_addJob) (maxL := 6) (ret := (some .int)) (by decide) rfl ?_
  intro p e s m args below meth c s₁ B hml hv
  obtain ⟨rfl, hsz, hP, hK, hD0⟩ := hv
  subst hsz
  have hts := atoms_spec (ws := ws_ yX0_addJob cX0_addJob 6 (some .int)) B.pre
  have G : CallFix p m c cX0_addJob 6 s _ wA RX0 := ⟨B.exec, B.bytes, hml, findClass_of_methodNamed B.named, fun w h => hts w (List.mem_cons_of_mem _ h)⟩
  have hr := B.returns
  have hlk := B.notSynchronized
  have hW : KW D (va_A (wC cy h σ) s.heap.size) s.heap (wC cy h σ) s.heap [] := ⟨hP, hD0.self, va_S.rf⟩
  have hA : ∀ q, s.heap.size ≤ q → va_A (wC cy h σ) s.heap.size q := fun q h => Or.inr h
  have hl := lv_entry ([.ref (h 103), .int x1, .int x2, .int x3, .int x4]) (n := 6) (Nat.le_of_ble_eq_true rfl)
  rw [lg_entry_eq]
  generalize (lg_sl ([.ref (h 103), .int x1, .int x2, .int x3, .int x4]) ++ List.replicate (6 - (lg_sl ([.ref (h 103), .int x1, .int x2, .int x3, .int x4])).length) Slot.unset).toArray = ls at hl ⊢
  have hl : lv_has ls 6 [(0, .ref (h 103)), (1, .int x1), (2, .int x2), (3, .int x3), (4, .int x4)] := hl
  unfold fX0_addJob at hf
  refine lv_aload_n G.1 G.2.1 dX0_addJob_0 rfl (lv_at hl 0 rfl) ?_
  refine k_get G inlX0 hK hW 0 rfl rfl 1 (by decide) q_2_7 rfl dX0_addJob_1 ?_
  refine lv_iload_n G.1 G.2.1 dX0_addJob_4 rfl (lv_at hl 1 rfl) ?_
  refine lv_iload_n G.1 G.2.1 dX0_addJob_5 rfl (lv_at hl 2 rfl) ?_
  refine lv_iload_n G.1 G.2.1 dX0_addJob_6 rfl (lv_at hl 3 rfl) ?_
  refine lv_iload G.1 G.2.1 dX0_addJob_7 (lv_at hl 4 rfl) ?_
  refine lv_aload_n G.1 G.2.1 dX0_addJob_9 rfl (lv_at hl 0 rfl) ?_
  refine k_get G inlX0 hK hW 0 rfl rfl 4 (by decide) q_2_14 rfl dX0_addJob_10 ?_
  obtain ⟨v1, s2, ev1, hf⟩ := ob2 hf
  refine kc_i (wr := []) (w := wC cy h σ) (w' := wC cy h s2) (n := 5) (As := [.int x1, .int x2, .int x3, .int x4, .int (σ 25 0)]) (C := RX2) G hK hA hW (mX2_append l D cy h _ n σ x1 x2 x3 x4 (σ 25 0) ev1) (gV q_5_16 q_5_17 q_5_18 q_2_6 q_5_19) ⟨rfl, rfl⟩ (by decide +kernel) ⟨Nat.le_of_ble_eq_true rfl, Nat.le_of_ble_eq_true rfl⟩ (va_recv hK.1 hW.1 (ci := 4) (q0 := 9) rfl rfl) rfl hl.1 rfl (Nat.le_of_ble_eq_true rfl) dX0_addJob_13 ⟨Nat.le_of_ble_eq_true rfl, Nat.le_of_ble_eq_true rfl⟩ (fun H locs hW => ?_)
  refine lv_istore (lv' := [(5, .int v1), (0, .ref (h 103)), (1, .int x1), (2, .int x2), (3, .int x3), (4, .int x4)]) G.1 G.2.1 dX0_addJob_16 hl (by decide) rfl (fun ls hl => ?_)
  refine lv_aload_n G.1 G.2.1 dX0_addJob_18 rfl (lv_at hl 1 rfl) ?_
  refine k_get G inlX0 hK hW 0 rfl rfl 2 (by decide) q_2_11 rfl dX0_addJob_19 ?_
  refine lv_aload_n G.1 G.2.1 dX0_addJob_22 rfl (lv_at hl 1 rfl) ?_
  refine k_get G inlX0 hK hW 0 rfl rfl 4 (by decide) q_2_14 rfl dX0_addJob_23 ?_
  refine lv_iconst (v := (0 : Int32)) G.1 G.2.1 dX0_addJob_26 (by decide) ?_
  refine lv_iload G.1 G.2.1 dX0_addJob_27 (lv_at hl 0 rfl) ?_
  obtain ⟨s3, es3, hf⟩ := ob hf
  refine kc_v (wr := []) (w := wC cy h s2) (w' := wC cy h s3) (n := 3) (As := [.int (s2 25 0), .int (0 : Int32), .int v1]) (C := RX1) G hK hA hW (mX1_note l D cy h _ n s2 (s2 25 0) (0 : Int32) v1 es3) (gV q_5_20 q_5_21 q_5_22 q_2_10 q_5_23) ⟨rfl, rfl⟩ (by decide +kernel) ⟨Nat.le_of_ble_eq_true rfl, Nat.le_of_ble_eq_true rfl⟩ (va_recv hK.1 hW.1 (ci := 3) (q0 := 22) rfl rfl) rfl hl.1 rfl (Nat.le_of_ble_eq_true rfl) dX0_addJob_29 ⟨Nat.le_of_ble_eq_true rfl, Nat.le_of_ble_eq_true rfl⟩ (fun H locs hW => ?_)
  refine lv_aload_n G.1 G.2.1 dX0_addJob_32 rfl (lv_at hl 1 rfl) ?_
  refine k_get G inlX0 hK hW 0 rfl rfl 1 (by decide) q_2_7 rfl dX0_addJob_33 ?_
  refine k_get G inlX2 hK hW 9 rfl rfl 8 (by decide) q_5_15 rfl dX0_addJob_36 ?_
  refine lv_iload G.1 G.2.1 dX0_addJob_39 (lv_at hl 0 rfl) ?_
  refine lv_aload_n G.1 G.2.1 dX0_addJob_41 rfl (lv_at hl 1 rfl) ?_
  refine lv_iload G.1 G.2.1 dX0_addJob_42 (lv_at hl 0 rfl) ?_
  obtain ⟨v4, s5, ev4, hf⟩ := ob2 hf
  refine kc_i (wr := []) (w := wC cy h s3) (w' := wC cy h s5) (n := 1) (As := [.int v1]) (C := RX0) G hK hA hW (mX0_plan l D cy h _ n s3 v1 ev4) (gV q_6_0 q_6_1 q_6_2 q_1_16 q_6_3) ⟨rfl, rfl⟩ (by decide +kernel) ⟨Nat.le_of_ble_eq_true rfl, Nat.le_of_ble_eq_true rfl⟩ (va_recv hK.1 hW.1 (ci := 2) (q0 := 0) rfl rfl) rfl hl.1 rfl (Nat.le_of_ble_eq_true rfl) dX0_addJob_44 ⟨Nat.le_of_ble_eq_true rfl, Nat.le_of_ble_eq_true rfl⟩ (fun H locs hW => ?_)
  obtain ⟨s6, es6, hf⟩ := ob hf
  refine k_ast (w := wC cy h) G hK hW 17 11 24 rfl (fun _ => rfl) es6 dX0_addJob_47 (fun H locs hW => ?_)
  refine lv_aload_n G.1 G.2.1 dX0_addJob_48 rfl (lv_at hl 1 rfl) ?_
  obtain ⟨s7, es7, hf⟩ := ob hf
  refine kc_v (wr := []) (w := wC cy h s6) (w' := wC cy h s7) (n := 0) (As := []) (C := RX0) G hK hA hW (mX0_startJobs l D cy h _ n s6  es7) (gV q_7_7 q_7_8 q_7_9 q_1_16 q_7_10) ⟨rfl, rfl⟩ (by decide +kernel) ⟨Nat.le_of_ble_eq_true rfl, Nat.le_of_ble_eq_true rfl⟩ (va_recv hK.1 hW.1 (ci := 2) (q0 := 0) rfl rfl) rfl hl.1 rfl (Nat.le_of_ble_eq_true rfl) dX0_addJob_49 ⟨Nat.le_of_ble_eq_true rfl, Nat.le_of_ble_eq_true rfl⟩ (fun H locs hW => ?_)
  refine lv_aload_n G.1 G.2.1 dX0_addJob_52 rfl (lv_at hl 1 rfl) ?_
  refine k_get G inlX0 hK hW 0 rfl rfl 1 (by decide) q_2_7 rfl dX0_addJob_53 ?_
  refine k_get G inlX2 hK hW 9 rfl rfl 8 (by decide) q_5_15 rfl dX0_addJob_56 ?_
  refine lv_iload G.1 G.2.1 dX0_addJob_59 (lv_at hl 0 rfl) ?_
  obtain ⟨v8, ev8, hf⟩ := ob hf
  refine k_ald G hK hW 17 rfl ev8 dX0_addJob_61 ?_
  cases hf
  exact k_iret G hr hlk hK hW dX0_addJob_62

set_option maxHeartbeats 4000000 in
set_option maxRecDepth 100000 in
theorem mX0_unitsUpToNow (l : Launch) (D : va_G) (cy : ClassId) (h : Nat → Nat) (sz n : Nat) (σ : St) (x1 : Int32) {r : Int32} (hf : fX0_unitsUpToNow n σ x1 = some r) : Mi l yX0_unitsUpToNow (ws_ yX0_unitsUpToNow cX0_unitsUpToNow 3 (some .int)) { frames := 0, cells := 0, slots := 0, locals := 0 } D cy (wC cy h σ) (wC cy h σ) sz [.ref (h 103), .int x1] r := by
  refine Met.ofW (cc := cX0_unitsUpToNow) (maxL := 3) (ret := (some .int)) (by decide) rfl ?_
  intro p e s m args below meth c s₁ B hml hv
  obtain ⟨rfl, hsz, hP, hK, hD0⟩ := hv
  subst hsz
  have hts := atoms_spec (ws := ws_ yX0_unitsUpToNow cX0_unitsUpToNow 3 (some .int)) B.pre
  have G : CallFix p m c cX0_unitsUpToNow 3 s _ wA RX0 := ⟨B.exec, B.bytes, hml, findClass_of_methodNamed B.named, fun w h => hts w (List.mem_cons_of_mem _ h)⟩
  have hr := B.returns
  have hlk := B.notSynchronized
  have hW : KW D (va_A (wC cy h σ) s.heap.size) s.heap (wC cy h σ) s.heap [] := ⟨hP, hD0.self, va_S.rf⟩
  have hA : ∀ q, s.heap.size ≤ q → va_A (wC cy h σ) s.heap.size q := fun q h => Or.inr h
  have hl := lv_entry ([.ref (h 103), .int x1]) (n := 3) (Nat.le_of_ble_eq_true rfl)
  rw [lg_entry_eq]
  generalize (lg_sl ([.ref (h 103), .int x1]) ++ List.replicate (3 - (lg_sl ([.ref (h 103), .int x1])).length) Slot.unset).toArray = ls at hl ⊢
  have hl : lv_has ls 3 [(0, .ref (h 103)), (1, .int x1)] := hl
  unfold fX0_unitsUpToNow at hf
  refine lv_aload_n G.1 G.2.1 dX0_unitsUpToNow_0 rfl (lv_at hl 0 rfl) ?_
  refine k_get G inlX0 hK hW 0 rfl rfl 1 (by decide) q_2_7 rfl dX0_unitsUpToNow_1 ?_
  refine k_get G inlX2 hK hW 9 rfl rfl 5 (by decide) q_7_12 rfl dX0_unitsUpToNow_4 ?_
  refine lv_iload_n G.1 G.2.1 dX0_unitsUpToNow_7 rfl (lv_at hl 1 rfl) ?_
  obtain ⟨v1, ev1, hf⟩ := ob hf
  refine k_ald G hK hW 14 rfl ev1 dX0_unitsUpToNow_8 ?_
  refine lv_iconst (v := (1 : Int32)) G.1 G.2.1 dX0_unitsUpToNow_9 (by decide) ?_
  refine lv_icmp_ne (tgt := 30) G.1 G.2.1 dX0_unitsUpToNow_10 (by decide) (fun c10 => ?_) (fun c10 => ?_)
  · replace hf := ie c10 hf
    refine lv_iconst (v := (0 : Int32)) G.1 G.2.1 dX0_unitsUpToNow_30 (by decide) ?_
    refine lv_istore_n (lv' := [(2, .int (0 : Int32)), (0, .ref (h 103)), (1, .int x1)]) G.1 G.2.1 dX0_unitsUpToNow_31 rfl hl (by decide) rfl (fun ls hl => ?_)
    refine lv_aload_n G.1 G.2.1 dX0_unitsUpToNow_32 rfl (lv_at hl 1 rfl) ?_
    refine k_get G inlX0 hK hW 0 rfl rfl 1 (by decide) q_2_7 rfl dX0_unitsUpToNow_33 ?_
    refine k_get G inlX2 hK hW 9 rfl rfl 12 (by decide) q_11_11 rfl dX0_unitsUpToNow_36 ?_
    refine lv_iload_n G.1 G.2.1 dX0_unitsUpToNow_39 rfl (lv_at hl 2 rfl) ?_
    obtain ⟨v2, ev2, hf⟩ := ob hf
    refine k_ald G hK hW 21 rfl ev2 dX0_unitsUpToNow_40 ?_
    refine lv_iload_n G.1 G.2.1 dX0_unitsUpToNow_41 rfl (lv_at hl 0 rfl) ?_
    refine lv_iadd G.1 G.2.1 dX0_unitsUpToNow_42 ?_
    cases hf
    exact k_iret G hr hlk hK hW dX0_unitsUpToNow_43
  · replace hf := it c10 hf
    refine lv_aload_n G.1 G.2.1 dX0_unitsUpToNow_13 rfl (lv_at hl 0 rfl) ?_
    refine k_get G inlX0 hK hW 0 rfl rfl 4 (by decide) q_2_14 rfl dX0_unitsUpToNow_14 ?_
    refine lv_aload_n G.1 G.2.1 dX0_unitsUpToNow_17 rfl (lv_at hl 0 rfl) ?_
    refine k_get G inlX0 hK hW 0 rfl rfl 0 (by decide) q_2_3 rfl dX0_unitsUpToNow_18 ?_
    refine k_get G inlX3 hK hW 4 rfl rfl 2 (by decide) q_7_13 rfl dX0_unitsUpToNow_21 ?_
    refine lv_iload_n G.1 G.2.1 dX0_unitsUpToNow_24 rfl (lv_at hl 1 rfl) ?_
    obtain ⟨v3, ev3, hf⟩ := ob hf
    refine k_ald G hK hW 7 rfl ev3 dX0_unitsUpToNow_25 ?_
    refine lv_isub G.1 G.2.1 dX0_unitsUpToNow_26 ?_
    refine lv_goto (tgt := 31) G.1 G.2.1 dX0_unitsUpToNow_27 (by decide) ?_
    refine lv_istore_n (lv' := [(2, .int ((σ 25 0) - v3)), (0, .ref (h 103)), (1, .int x1)]) G.1 G.2.1 dX0_unitsUpToNow_31 rfl hl (by decide) rfl (fun ls hl => ?_)
    refine lv_aload_n G.1 G.2.1 dX0_unitsUpToNow_32 rfl (lv_at hl 1 rfl) ?_
    refine k_get G inlX0 hK hW 0 rfl rfl 1 (by decide) q_2_7 rfl dX0_unitsUpToNow_33 ?_
    refine k_get G inlX2 hK hW 9 rfl rfl 12 (by decide) q_11_11 rfl dX0_unitsUpToNow_36 ?_
    refine lv_iload_n G.1 G.2.1 dX0_unitsUpToNow_39 rfl (lv_at hl 2 rfl) ?_
    obtain ⟨v4, ev4, hf⟩ := ob hf
    refine k_ald G hK hW 21 rfl ev4 dX0_unitsUpToNow_40 ?_
    refine lv_iload_n G.1 G.2.1 dX0_unitsUpToNow_41 rfl (lv_at hl 0 rfl) ?_
    refine lv_iadd G.1 G.2.1 dX0_unitsUpToNow_42 ?_
    cases hf
    exact k_iret G hr hlk hK hW dX0_unitsUpToNow_43

set_option maxHeartbeats 4000000 in
set_option maxRecDepth 100000 in
theorem mX0_endRun (l : Launch) (D : va_G) (cy : ClassId) (h : Nat → Nat) (sz n : Nat) (σ : St) (x1 : Int32) (x2 : Int32) {σ' : St} (hf : fX0_endRun n σ x1 x2 = some σ') : Mv l yX0_endRun (ws_ yX0_endRun cX0_endRun 3 none) { frames := 1, cells := 0, slots := 0, locals := 22 } D cy (wC cy h σ) (wC cy h σ') sz [.ref (h 103), .int x1, .int x2] := by
  refine Met.ofW (cc := cX0_endRun) (maxL := 3) (ret := none) (by decide) rfl ?_
  intro p e s m args below meth c s₁ B hml hv
  obtain ⟨rfl, hsz, hP, hK, hD0⟩ := hv
  subst hsz
  have hts := atoms_spec (ws := ws_ yX0_endRun cX0_endRun 3 none) B.pre
  have G : CallFix p m c cX0_endRun 3 s _ wA RX0 := ⟨B.exec, B.bytes, hml, findClass_of_methodNamed B.named, fun w h => hts w (List.mem_cons_of_mem _ h)⟩
  have hr := B.returns
  have hlk := B.notSynchronized
  have hW : KW D (va_A (wC cy h σ) s.heap.size) s.heap (wC cy h σ) s.heap [] := ⟨hP, hD0.self, va_S.rf⟩
  have hA : ∀ q, s.heap.size ≤ q → va_A (wC cy h σ) s.heap.size q := fun q h => Or.inr h
  have hl := lv_entry ([.ref (h 103), .int x1, .int x2]) (n := 3) (Nat.le_of_ble_eq_true rfl)
  rw [lg_entry_eq]
  generalize (lg_sl ([.ref (h 103), .int x1, .int x2]) ++ List.replicate (3 - (lg_sl ([.ref (h 103), .int x1, .int x2])).length) Slot.unset).toArray = ls at hl ⊢
  have hl : lv_has ls 3 [(0, .ref (h 103)), (1, .int x1), (2, .int x2)] := hl
  unfold fX0_endRun at hf
  refine lv_aload_n G.1 G.2.1 dX0_endRun_0 rfl (lv_at hl 0 rfl) ?_
  refine k_get G inlX0 hK hW 0 rfl rfl 1 (by decide) q_2_7 rfl dX0_endRun_1 ?_
  refine k_get G inlX2 hK hW 9 rfl rfl 12 (by decide) q_11_11 rfl dX0_endRun_4 ?_
  refine lv_iload_n G.1 G.2.1 dX0_endRun_7 rfl (lv_at hl 1 rfl) ?_
  refine lv_aload_n G.1 G.2.1 dX0_endRun_8 rfl (lv_at hl 0 rfl) ?_
  refine lv_iload_n G.1 G.2.1 dX0_endRun_9 rfl (lv_at hl 1 rfl) ?_
  obtain ⟨v1, ev1, hf⟩ := ob hf
  refine kc_i (wr := []) (w := wC cy h σ) (w' := wC cy h σ) (n := 1) (As := [.int x1]) (C := RX0) G hK hA hW (mX0_unitsUpToNow l D cy h _ n σ x1 ev1) (gV q_11_12 q_11_13 q_11_14 q_1_16 q_11_15) ⟨rfl, rfl⟩ (by decide +kernel) ⟨Nat.le_of_ble_eq_true rfl, Nat.le_of_ble_eq_true rfl⟩ (va_recv hK.1 hW.1 (ci := 2) (q0 := 0) rfl rfl) rfl hl.1 rfl (Nat.le_of_ble_eq_true rfl) dX0_endRun_10 ⟨Nat.le_of_ble_eq_true rfl, Nat.le_of_ble_eq_true rfl⟩ (fun H locs hW => ?_)
  obtain ⟨s2, es2, hf⟩ := ob hf
  refine k_ast (w := wC cy h) G hK hW 21 15 24 rfl (fun _ => rfl) es2 dX0_endRun_13 (fun H locs hW => ?_)
  refine lv_aload_n G.1 G.2.1 dX0_endRun_14 rfl (lv_at hl 0 rfl) ?_
  refine k_get G inlX0 hK hW 0 rfl rfl 1 (by decide) q_2_7 rfl dX0_endRun_15 ?_
  refine k_get G inlX2 hK hW 9 rfl rfl 5 (by decide) q_7_12 rfl dX0_endRun_18 ?_
  refine lv_iload_n G.1 G.2.1 dX0_endRun_21 rfl (lv_at hl 1 rfl) ?_
  refine lv_iload_n G.1 G.2.1 dX0_endRun_22 rfl (lv_at hl 2 rfl) ?_
  obtain ⟨s3, es3, hf⟩ := ob hf
  refine k_ast (w := wC cy h) G hK hW 14 8 24 rfl (fun _ => rfl) es3 dX0_endRun_23 (fun H locs hW => ?_)
  cases hf
  exact k_vret G hr hlk hK hW dX0_endRun_24

set_option maxHeartbeats 4000000 in
set_option maxRecDepth 100000 in
theorem mX0_usageOfUser (l : Launch) (D : va_G) (cy : ClassId) (h : Nat → Nat) (sz n : Nat) (σ : St) (x1 : Int32) {r : Int32} (hf : fX0_usageOfUser n σ x1 = some r) : Mi l yX0_usageOfUser (ws_ yX0_usageOfUser cX0_usageOfUser 4 (some .int)) { frames := 1, cells := 0, slots := 0, locals := 22 } D cy (wC cy h σ) (wC cy h σ) sz [.ref (h 103), .int x1] r := by
  refine Met.ofW (cc := cX0_usageOfUser) (maxL := 4) (ret := (some .int)) (by decide) rfl ?_
  intro p e s m args below meth c s₁ B hml hv
  obtain ⟨rfl, hsz, hP, hK, hD0⟩ := hv
  subst hsz
  have hts := atoms_spec (ws := ws_ yX0_usageOfUser cX0_usageOfUser 4 (some .int)) B.pre
  have G : CallFix p m c cX0_usageOfUser 4 s _ wA RX0 := ⟨B.exec, B.bytes, hml, findClass_of_methodNamed B.named, fun w h => hts w (List.mem_cons_of_mem _ h)⟩
  have hr := B.returns
  have hlk := B.notSynchronized
  have hW : KW D (va_A (wC cy h σ) s.heap.size) s.heap (wC cy h σ) s.heap [] := ⟨hP, hD0.self, va_S.rf⟩
  have hA : ∀ q, s.heap.size ≤ q → va_A (wC cy h σ) s.heap.size q := fun q h => Or.inr h
  have hl := lv_entry ([.ref (h 103), .int x1]) (n := 4) (Nat.le_of_ble_eq_true rfl)
  rw [lg_entry_eq]
  generalize (lg_sl ([.ref (h 103), .int x1]) ++ List.replicate (4 - (lg_sl ([.ref (h 103), .int x1])).length) Slot.unset).toArray = ls at hl ⊢
  have hl : lv_has ls 4 [(0, .ref (h 103)), (1, .int x1)] := hl
  unfold fX0_usageOfUser at hf
  refine lv_iconst (v := (0 : Int32)) G.1 G.2.1 dX0_usageOfUser_0 (by decide) ?_
  refine lv_istore_n (lv' := [(2, .int (0 : Int32)), (0, .ref (h 103)), (1, .int x1)]) G.1 G.2.1 dX0_usageOfUser_1 rfl hl (by decide) rfl (fun ls hl => ?_)
  refine lv_iconst (v := (0 : Int32)) G.1 G.2.1 dX0_usageOfUser_2 (by decide) ?_
  refine lv_istore_n (lv' := [(3, .int (0 : Int32)), (2, .int (0 : Int32)), (0, .ref (h 103)), (1, .int x1)]) G.1 G.2.1 dX0_usageOfUser_3 rfl hl (by decide) rfl (fun ls hl => ?_)
  have L4 : ∀ (fu : Nat) (y1 : Int32) (y2 : Int32) (H : Heap) (locs : List Loc) (ls : Array Slot), lz2 (fX0_usageOfUser_b4 n σ x1) fu y1 y2 = some r → KW D (va_A (wC cy h σ) s.heap.size) s.heap (wC cy h σ) H locs → lv_has ls 4 [(3, .int y1), (2, .int y2), (0, .ref (h 103)), (1, .int x1)] → W p l e (headSpec (ws_ yX0_usageOfUser cX0_usageOfUser 4 (some .int)) { frames := 1, cells := 0, slots := 0, locals := 22 }).room s m (([.ref (h 103), .int x1] : List Value).toArray) below meth c H locs 0 0 (MQ below (va_Qi (fun (r' : Int32) (_ : Unit) => r' = r) (fun _ => KB D (va_A (wC cy h σ) s.heap.size) (wC cy h σ)) (va_A (wC cy h σ) s.heap.size)) (([.ref (h 103), .int x1] : List Value).toArray) s 0 0 (va_A (wC cy h σ) s.heap.size)) (F0 m 4 ls []) := by
    intro fu4
    induction fu4 with
    | zero => intro y1 y2 H locs ls hf; cases hf
    | succ fu4 ih4 =>
      intro y1 y2 H locs ls hf hW hl
      rw [lz2_s] at hf
      unfold fX0_usageOfUser_b4 at hf
      refine lv_iload_n G.1 G.2.1 dX0_usageOfUser_4 rfl (lv_at hl 0 rfl) ?_
      refine lv_aload_n G.1 G.2.1 dX0_usageOfUser_5 rfl (lv_at hl 2 rfl) ?_
      refine k_get G inlX0 hK hW 0 rfl rfl 1 (by decide) q_2_7 rfl dX0_usageOfUser_6 ?_
      refine k_get G inlX2 hK hW 9 rfl rfl 0 (by decide) q_7_11 rfl dX0_usageOfUser_9 ?_
      refine lv_icmp_ge (tgt := 52) G.1 G.2.1 dX0_usageOfUser_12 (by decide) (fun c12 => ?_) (fun c12 => ?_)
      · replace hf := it c12 hf
        refine lv_iload_n G.1 G.2.1 dX0_usageOfUser_52 rfl (lv_at hl 1 rfl) ?_
        cases hf
        exact k_iret G hr hlk hK hW dX0_usageOfUser_53
      · replace hf := ie c12 hf
        refine lv_aload_n G.1 G.2.1 dX0_usageOfUser_15 rfl (lv_at hl 2 rfl) ?_
        refine k_get G inlX0 hK hW 0 rfl rfl 1 (by decide) q_2_7 rfl dX0_usageOfUser_16 ?_
        refine k_get G inlX2 hK hW 9 rfl rfl 1 (by decide) q_12_8 rfl dX0_usageOfUser_19 ?_
        refine lv_iload_n G.1 G.2.1 dX0_usageOfUser_22 rfl (lv_at hl 0 rfl) ?_
        obtain ⟨v4, ev4, hf⟩ := ob hf
        refine k_ald G hK hW 10 rfl ev4 dX0_usageOfUser_23 ?_
        refine lv_iload_n G.1 G.2.1 dX0_usageOfUser_24 rfl (lv_at hl 3 rfl) ?_
        refine lv_icmp_ne (tgt := 46) G.1 G.2.1 dX0_usageOfUser_25 (by decide) (fun c25 => ?_) (fun c25 => ?_)
        · replace hf := ie c25 hf
          refine lv_iinc (v := (y1 + (1 : Int32))) (lv' := [(3, .int (y1 + (1 : Int32))), (2, .int y2), (0, .ref (h 103)), (1, .int x1)]) G.1 G.2.1 dX0_usageOfUser_46 hl (k := 0) rfl (congrArg (y1 + ·) (by decide)) (by decide) rfl (fun ls hl => ?_)
          refine lv_goto (tgt := 4) G.1 G.2.1 dX0_usageOfUser_49 (by decide) ?_
          exact ih4 _ _ _ _ _ hf hW (lv_sub hl [0, 1, 2, 3] rfl)
        · replace hf := it c25 hf
          refine lv_iload_n G.1 G.2.1 dX0_usageOfUser_28 rfl (lv_at hl 1 rfl) ?_
          refine lv_aload_n G.1 G.2.1 dX0_usageOfUser_29 rfl (lv_at hl 2 rfl) ?_
          refine lv_iload_n G.1 G.2.1 dX0_usageOfUser_30 rfl (lv_at hl 0 rfl) ?_
          obtain ⟨v5, ev5, hf⟩ := ob hf
          refine kc_i (wr := []) (w := wC cy h σ) (w' := wC cy h σ) (n := 1) (As := [.int y1]) (C := RX0) G hK hA hW (mX0_unitsUpToNow l D cy h _ n σ y1 ev5) (gV q_11_12 q_11_13 q_11_14 q_1_16 q_11_15) ⟨rfl, rfl⟩ (by decide +kernel) ⟨Nat.le_of_ble_eq_true rfl, Nat.le_of_ble_eq_true rfl⟩ (va_recv hK.1 hW.1 (ci := 2) (q0 := 0) rfl rfl) rfl hl.1 rfl (Nat.le_of_ble_eq_true rfl) dX0_usageOfUser_31 ⟨Nat.le_of_ble_eq_true rfl, Nat.le_of_ble_eq_true rfl⟩ (fun H locs hW => ?_)
          refine lv_aload_n G.1 G.2.1 dX0_usageOfUser_34 rfl (lv_at hl 2 rfl) ?_
          refine k_get G inlX0 hK hW 0 rfl rfl 1 (by decide) q_2_7 rfl dX0_usageOfUser_35 ?_
          refine k_get G inlX2 hK hW 9 rfl rfl 2 (by decide) q_6_4 rfl dX0_usageOfUser_38 ?_
          refine lv_iload_n G.1 G.2.1 dX0_usageOfUser_41 rfl (lv_at hl 0 rfl) ?_
          obtain ⟨v6, ev6, hf⟩ := ob hf
          refine k_ald G hK hW 11 rfl ev6 dX0_usageOfUser_42 ?_
          refine lv_ishl G.1 G.2.1 dX0_usageOfUser_43 ?_
          refine lv_iadd G.1 G.2.1 dX0_usageOfUser_44 ?_
          refine lv_istore_n (lv' := [(2, .int (y2 + (v5 <<< (v6 &&& 31)))), (3, .int y1), (0, .ref (h 103)), (1, .int x1)]) G.1 G.2.1 dX0_usageOfUser_45 rfl hl (by decide) rfl (fun ls hl => ?_)
          refine lv_iinc (v := (y1 + (1 : Int32))) (lv' := [(3, .int (y1 + (1 : Int32))), (2, .int (y2 + (v5 <<< (v6 &&& 31)))), (0, .ref (h 103)), (1, .int x1)]) G.1 G.2.1 dX0_usageOfUser_46 hl (k := 1) rfl (congrArg (y1 + ·) (by decide)) (by decide) rfl (fun ls hl => ?_)
          refine lv_goto (tgt := 4) G.1 G.2.1 dX0_usageOfUser_49 (by decide) ?_
          exact ih4 _ _ _ _ _ hf hW (lv_sub hl [0, 1, 2, 3] rfl)
  exact L4 _ _ _ _ _ _ hf hW (lv_sub hl [0, 1, 2, 3] rfl)

set_option maxHeartbeats 4000000 in
set_option maxRecDepth 100000 in
theorem mX0_goesBefore (l : Launch) (D : va_G) (cy : ClassId) (h : Nat → Nat) (sz n : Nat) (σ : St) (x1 : Int32) (x2 : Int32) {r : Int32} (hf : fX0_goesBefore n σ x1 x2 = some r) : Mi l yX0_goesBefore (ws_ yX0_goesBefore cX0_goesBefore 5 (some .boolean)) { frames := 0, cells := 0, slots := 0, locals := 0 } D cy (wC cy h σ) (wC cy h σ) sz [.ref (h 103), .int x1, .int x2] r := by
  refine Met.ofW (cc := cX0_goesBefore) (maxL := 5) (ret := (some .boolean)) (by decide) rfl ?_
  intro p e s m args below meth c s₁ B hml hv
  obtain ⟨rfl, hsz, hP, hK, hD0⟩ := hv
  subst hsz
  have hts := atoms_spec (ws := ws_ yX0_goesBefore cX0_goesBefore 5 (some .boolean)) B.pre
  have G : CallFix p m c cX0_goesBefore 5 s _ wA RX0 := ⟨B.exec, B.bytes, hml, findClass_of_methodNamed B.named, fun w h => hts w (List.mem_cons_of_mem _ h)⟩
  have hr := B.returns
  have hlk := B.notSynchronized
  have hW : KW D (va_A (wC cy h σ) s.heap.size) s.heap (wC cy h σ) s.heap [] := ⟨hP, hD0.self, va_S.rf⟩
  have hA : ∀ q, s.heap.size ≤ q → va_A (wC cy h σ) s.heap.size q := fun q h => Or.inr h
  have hl := lv_entry ([.ref (h 103), .int x1, .int x2]) (n := 5) (Nat.le_of_ble_eq_true rfl)
  rw [lg_entry_eq]
  generalize (lg_sl ([.ref (h 103), .int x1, .int x2]) ++ List.replicate (5 - (lg_sl ([.ref (h 103), .int x1, .int x2])).length) Slot.unset).toArray = ls at hl ⊢
  have hl : lv_has ls 5 [(0, .ref (h 103)), (1, .int x1), (2, .int x2)] := hl
  unfold fX0_goesBefore at hf
  refine lv_aload_n G.1 G.2.1 dX0_goesBefore_0 rfl (lv_at hl 0 rfl) ?_
  refine k_get G inlX0 hK hW 0 rfl rfl 8 (by decide) q_2_18 rfl dX0_goesBefore_1 ?_
  refine lv_aload_n G.1 G.2.1 dX0_goesBefore_4 rfl (lv_at hl 0 rfl) ?_
  refine k_get G inlX0 hK hW 0 rfl rfl 1 (by decide) q_2_7 rfl dX0_goesBefore_5 ?_
  refine k_get G inlX2 hK hW 9 rfl rfl 1 (by decide) q_12_8 rfl dX0_goesBefore_8 ?_
  refine lv_iload_n G.1 G.2.1 dX0_goesBefore_11 rfl (lv_at hl 1 rfl) ?_
  obtain ⟨v1, ev1, hf⟩ := ob hf
  refine k_ald G hK hW 10 rfl ev1 dX0_goesBefore_12 ?_
  obtain ⟨v2, ev2, hf⟩ := ob hf
  refine k_ald G hK hW 3 rfl ev2 dX0_goesBefore_13 ?_
  refine lv_istore_n (lv' := [(3, .int v2), (0, .ref (h 103)), (1, .int x1), (2, .int x2)]) G.1 G.2.1 dX0_goesBefore_14 rfl hl (by decide) rfl (fun ls hl => ?_)
  refine lv_aload_n G.1 G.2.1 dX0_goesBefore_15 rfl (lv_at hl 1 rfl) ?_
  refine k_get G inlX0 hK hW 0 rfl rfl 8 (by decide) q_2_18 rfl dX0_goesBefore_16 ?_
  refine lv_aload_n G.1 G.2.1 dX0_goesBefore_19 rfl (lv_at hl 1 rfl) ?_
  refine k_get G inlX0 hK hW 0 rfl rfl 1 (by decide) q_2_7 rfl dX0_goesBefore_20 ?_
  refine k_get G inlX2 hK hW 9 rfl rfl 1 (by decide) q_12_8 rfl dX0_goesBefore_23 ?_
  refine lv_iload_n G.1 G.2.1 dX0_goesBefore_26 rfl (lv_at hl 3 rfl) ?_
  obtain ⟨v3, ev3, hf⟩ := ob hf
  refine k_ald G hK hW 10 rfl ev3 dX0_goesBefore_27 ?_
  obtain ⟨v4, ev4, hf⟩ := ob hf
  refine k_ald G hK hW 3 rfl ev4 dX0_goesBefore_28 ?_
  refine lv_istore (lv' := [(4, .int v4), (3, .int v2), (0, .ref (h 103)), (1, .int x1), (2, .int x2)]) G.1 G.2.1 dX0_goesBefore_29 hl (by decide) rfl (fun ls hl => ?_)
  refine lv_iload_n G.1 G.2.1 dX0_goesBefore_31 rfl (lv_at hl 1 rfl) ?_
  refine lv_iload G.1 G.2.1 dX0_goesBefore_32 (lv_at hl 0 rfl) ?_
  refine lv_icmp_eq (tgt := 49) G.1 G.2.1 dX0_goesBefore_34 (by decide) (fun c34 => ?_) (fun c34 => ?_)
  · replace hf := it c34 hf
    refine lv_aload_n G.1 G.2.1 dX0_goesBefore_49 rfl (lv_at hl 2 rfl) ?_
    refine k_get G inlX0 hK hW 0 rfl rfl 0 (by decide) q_2_3 rfl dX0_goesBefore_50 ?_
    refine k_get G inlX3 hK hW 4 rfl rfl 2 (by decide) q_7_13 rfl dX0_goesBefore_53 ?_
    refine lv_iload_n G.1 G.2.1 dX0_goesBefore_56 rfl (lv_at hl 3 rfl) ?_
    obtain ⟨v5, ev5, hf⟩ := ob hf
    refine k_ald G hK hW 7 rfl ev5 dX0_goesBefore_57 ?_
    refine lv_aload_n G.1 G.2.1 dX0_goesBefore_58 rfl (lv_at hl 2 rfl) ?_
    refine k_get G inlX0 hK hW 0 rfl rfl 0 (by decide) q_2_3 rfl dX0_goesBefore_59 ?_
    refine k_get G inlX3 hK hW 4 rfl rfl 2 (by decide) q_7_13 rfl dX0_goesBefore_62 ?_
    refine lv_iload_n G.1 G.2.1 dX0_goesBefore_65 rfl (lv_at hl 4 rfl) ?_
    obtain ⟨v6, ev6, hf⟩ := ob hf
    refine k_ald G hK hW 7 rfl ev6 dX0_goesBefore_66 ?_
    refine lv_icmp_ge (tgt := 74) G.1 G.2.1 dX0_goesBefore_67 (by decide) (fun c67 => ?_) (fun c67 => ?_)
    · replace hf := it c67 hf
      refine lv_iconst (v := (0 : Int32)) G.1 G.2.1 dX0_goesBefore_74 (by decide) ?_
      cases hf
      exact k_zret G hr hlk hK hW rfl dX0_goesBefore_75
    · replace hf := ie c67 hf
      refine lv_iconst (v := (1 : Int32)) G.1 G.2.1 dX0_goesBefore_70 (by decide) ?_
      refine lv_goto (tgt := 75) G.1 G.2.1 dX0_goesBefore_71 (by decide) ?_
      cases hf
      exact k_zret G hr hlk hK hW rfl dX0_goesBefore_75
  · replace hf := ie c34 hf
    refine lv_iload_n G.1 G.2.1 dX0_goesBefore_37 rfl (lv_at hl 1 rfl) ?_
    refine lv_iload G.1 G.2.1 dX0_goesBefore_38 (lv_at hl 0 rfl) ?_
    refine lv_icmp_ge (tgt := 47) G.1 G.2.1 dX0_goesBefore_40 (by decide) (fun c40 => ?_) (fun c40 => ?_)
    · replace hf := it c40 hf
      refine lv_iconst (v := (0 : Int32)) G.1 G.2.1 dX0_goesBefore_47 (by decide) ?_
      cases hf
      exact k_zret G hr hlk hK hW rfl dX0_goesBefore_48
    · replace hf := ie c40 hf
      refine lv_iconst (v := (1 : Int32)) G.1 G.2.1 dX0_goesBefore_43 (by decide) ?_
      refine lv_goto (tgt := 48) G.1 G.2.1 dX0_goesBefore_44 (by decide) ?_
      cases hf
      exact k_zret G hr hlk hK hW rfl dX0_goesBefore_48

set_option maxHeartbeats 4000000 in
set_option maxRecDepth 100000 in
theorem mX0_insertIntoQueue (l : Launch) (D : va_G) (cy : ClassId) (h : Nat → Nat) (sz n : Nat) (σ : St) (x1 : Int32) (x2 : Int32) {σ' : St} (hf : fX0_insertIntoQueue n σ x1 x2 = some σ') : Mv l yX0_insertIntoQueue (ws_ yX0_insertIntoQueue cX0_insertIntoQueue 4 none) { frames := 1, cells := 0, slots := 0, locals := 24 } D cy (wC cy h σ) (wC cy h σ') sz [.ref (h 103), .int x1, .int x2] := by
  refine Met.ofW (cc := cX0_insertIntoQueue) (maxL := 4) (ret := none) (by decide) rfl ?_
  intro p e s m args below meth c s₁ B hml hv
  obtain ⟨rfl, hsz, hP, hK, hD0⟩ := hv
  subst hsz
  have hts := atoms_spec (ws := ws_ yX0_insertIntoQueue cX0_insertIntoQueue 4 none) B.pre
  have G : CallFix p m c cX0_insertIntoQueue 4 s _ wA RX0 := ⟨B.exec, B.bytes, hml, findClass_of_methodNamed B.named, fun w h => hts w (List.mem_cons_of_mem _ h)⟩
  have hr := B.returns
  have hlk := B.notSynchronized
  have hW : KW D (va_A (wC cy h σ) s.heap.size) s.heap (wC cy h σ) s.heap [] := ⟨hP, hD0.self, va_S.rf⟩
  have hA : ∀ q, s.heap.size ≤ q → va_A (wC cy h σ) s.heap.size q := fun q h => Or.inr h
  have hl := lv_entry ([.ref (h 103), .int x1, .int x2]) (n := 4) (Nat.le_of_ble_eq_true rfl)
  rw [lg_entry_eq]
  generalize (lg_sl ([.ref (h 103), .int x1, .int x2]) ++ List.replicate (4 - (lg_sl ([.ref (h 103), .int x1, .int x2])).length) Slot.unset).toArray = ls at hl ⊢
  have hl : lv_has ls 4 [(0, .ref (h 103)), (1, .int x1), (2, .int x2)] := hl
  unfold fX0_insertIntoQueue at hf
  refine lv_iload_n G.1 G.2.1 dX0_insertIntoQueue_0 rfl (lv_at hl 2 rfl) ?_
  refine lv_istore_n (lv' := [(3, .int x2), (0, .ref (h 103)), (1, .int x1), (2, .int x2)]) G.1 G.2.1 dX0_insertIntoQueue_1 rfl hl (by decide) rfl (fun ls hl => ?_)
  have K2_42 : ∀ (y1 : Int32) (s2 : St) (H : Heap) (locs : List Loc) (ls : Array Slot), fX0_insertIntoQueue_k2_42 x1 y1 s2 = some σ' → KW D (va_A (wC cy h σ) s.heap.size) s.heap (wC cy h s2) H locs → lv_has ls 4 [(3, .int y1), (0, .ref (h 103)), (1, .int x1), (2, .int x2)] → W p l e (headSpec (ws_ yX0_insertIntoQueue cX0_insertIntoQueue 4 none) { frames := 1, cells := 0, slots := 0, locals := 24 }).room s m (([.ref (h 103), .int x1, .int x2] : List Value).toArray) below meth c H locs 0 0 (MQ below (va_Qv (fun (_ : Unit) => True) (fun _ => KB D (va_A (wC cy h σ) s.heap.size) (wC cy h σ')) (va_A (wC cy h σ) s.heap.size)) (([.ref (h 103), .int x1, .int x2] : List Value).toArray) s 0 0 (va_A (wC cy h σ) s.heap.size)) (F0 m 42 ls []) := by
    intro y1 s2 H locs ls hf hW hl
    unfold fX0_insertIntoQueue_k2_42 at hf
    refine lv_aload_n G.1 G.2.1 dX0_insertIntoQueue_42 rfl (lv_at hl 1 rfl) ?_
    refine k_get G inlX0 hK hW 0 rfl rfl 7 (by decide) q_2_17 rfl dX0_insertIntoQueue_43 ?_
    refine lv_iload_n G.1 G.2.1 dX0_insertIntoQueue_46 rfl (lv_at hl 0 rfl) ?_
    refine lv_iload_n G.1 G.2.1 dX0_insertIntoQueue_47 rfl (lv_at hl 2 rfl) ?_
    obtain ⟨s3, es3, hf⟩ := ob hf
    refine k_ast (w := wC cy h) G hK hW 2 23 24 rfl (fun _ => rfl) es3 dX0_insertIntoQueue_48 (fun H locs hW => ?_)
    cases hf
    exact k_vret G hr hlk hK hW dX0_insertIntoQueue_49
  have L2 : ∀ (fu : Nat) (y4 : Int32) (s5 : St) (H : Heap) (locs : List Loc) (ls : Array Slot), lz2 (fX0_insertIntoQueue_b2 n x1) fu y4 s5 = some σ' → KW D (va_A (wC cy h σ) s.heap.size) s.heap (wC cy h s5) H locs → lv_has ls 4 [(3, .int y4), (0, .ref (h 103)), (1, .int x1), (2, .int x2)] → W p l e (headSpec (ws_ yX0_insertIntoQueue cX0_insertIntoQueue 4 none) { frames := 1, cells := 0, slots := 0, locals := 24 }).room s m (([.ref (h 103), .int x1, .int x2] : List Value).toArray) below meth c H locs 0 0 (MQ below (va_Qv (fun (_ : Unit) => True) (fun _ => KB D (va_A (wC cy h σ) s.heap.size) (wC cy h σ')) (va_A (wC cy h σ) s.heap.size)) (([.ref (h 103), .int x1, .int x2] : List Value).toArray) s 0 0 (va_A (wC cy h σ) s.heap.size)) (F0 m 2 ls []) := by
    intro fu2
    induction fu2 with
    | zero => intro y4 s5 H locs ls hf; cases hf
    | succ fu2 ih2 =>
      intro y4 s5 H locs ls hf hW hl
      rw [lz2_s] at hf
      unfold fX0_insertIntoQueue_b2 at hf
      refine lv_iload_n G.1 G.2.1 dX0_insertIntoQueue_2 rfl (lv_at hl 0 rfl) ?_
      refine lv_if_le (tgt := 42) G.1 G.2.1 dX0_insertIntoQueue_3 (by decide) (fun c3 => ?_) (fun c3 => ?_)
      · replace hf := it c3 hf
        exact K2_42 _ _ _ _ _ hf hW (lv_sub hl [0, 1, 2, 3] rfl)
      · replace hf := ie c3 hf
        refine lv_aload_n G.1 G.2.1 dX0_insertIntoQueue_6 rfl (lv_at hl 1 rfl) ?_
        refine lv_iload_n G.1 G.2.1 dX0_insertIntoQueue_7 rfl (lv_at hl 2 rfl) ?_
        refine lv_aload_n G.1 G.2.1 dX0_insertIntoQueue_8 rfl (lv_at hl 1 rfl) ?_
        refine k_get G inlX0 hK hW 0 rfl rfl 7 (by decide) q_2_17 rfl dX0_insertIntoQueue_9 ?_
        refine lv_iload_n G.1 G.2.1 dX0_insertIntoQueue_12 rfl (lv_at hl 0 rfl) ?_
        refine lv_iconst (v := (1 : Int32)) G.1 G.2.1 dX0_insertIntoQueue_13 (by decide) ?_
        refine lv_isub G.1 G.2.1 dX0_insertIntoQueue_14 ?_
        obtain ⟨v7, ev7, hf⟩ := ob hf
        refine k_ald G hK hW 2 rfl ev7 dX0_insertIntoQueue_15 ?_
        obtain ⟨v8, ev8, hf⟩ := ob hf
        refine kc_i (wr := []) (w := wC cy h s5) (w' := wC cy h s5) (n := 2) (As := [.int x1, .int v7]) (C := RX0) G hK hA hW (mX0_goesBefore l D cy h _ n s5 x1 v7 ev8) (gV q_12_13 q_12_14 q_12_15 q_1_16 q_12_16) ⟨rfl, rfl⟩ (by decide +kernel) ⟨Nat.le_of_ble_eq_true rfl, Nat.le_of_ble_eq_true rfl⟩ (va_recv hK.1 hW.1 (ci := 2) (q0 := 0) rfl rfl) rfl hl.1 rfl (Nat.le_of_ble_eq_true rfl) dX0_insertIntoQueue_16 ⟨Nat.le_of_ble_eq_true rfl, Nat.le_of_ble_eq_true rfl⟩ (fun H locs hW => ?_)
        refine lv_if_eq (tgt := 42) G.1 G.2.1 dX0_insertIntoQueue_19 (by decide) (fun c19 => ?_) (fun c19 => ?_)
        · replace hf := it c19 hf
          exact K2_42 _ _ _ _ _ hf hW (lv_sub hl [0, 1, 2, 3] rfl)
        · replace hf := ie c19 hf
          refine lv_aload_n G.1 G.2.1 dX0_insertIntoQueue_22 rfl (lv_at hl 1 rfl) ?_
          refine k_get G inlX0 hK hW 0 rfl rfl 7 (by decide) q_2_17 rfl dX0_insertIntoQueue_23 ?_
          refine lv_iload_n G.1 G.2.1 dX0_insertIntoQueue_26 rfl (lv_at hl 0 rfl) ?_
          refine lv_aload_n G.1 G.2.1 dX0_insertIntoQueue_27 rfl (lv_at hl 1 rfl) ?_
          refine k_get G inlX0 hK hW 0 rfl rfl 7 (by decide) q_2_17 rfl dX0_insertIntoQueue_28 ?_
          refine lv_iload_n G.1 G.2.1 dX0_insertIntoQueue_31 rfl (lv_at hl 0 rfl) ?_
          refine lv_iconst (v := (1 : Int32)) G.1 G.2.1 dX0_insertIntoQueue_32 (by decide) ?_
          refine lv_isub G.1 G.2.1 dX0_insertIntoQueue_33 ?_
          obtain ⟨v9, ev9, hf⟩ := ob hf
          refine k_ald G hK hW 2 rfl ev9 dX0_insertIntoQueue_34 ?_
          obtain ⟨s10, es10, hf⟩ := ob hf
          refine k_ast (w := wC cy h) G hK hW 2 23 24 rfl (fun _ => rfl) es10 dX0_insertIntoQueue_35 (fun H locs hW => ?_)
          refine lv_iinc (v := (y4 + (-1 : Int32))) (lv' := [(3, .int (y4 + (-1 : Int32))), (0, .ref (h 103)), (1, .int x1), (2, .int x2)]) G.1 G.2.1 dX0_insertIntoQueue_36 hl (k := 0) rfl (congrArg (y4 + ·) (by decide)) (by decide) rfl (fun ls hl => ?_)
          refine lv_goto (tgt := 2) G.1 G.2.1 dX0_insertIntoQueue_39 (by decide) ?_
          exact ih2 _ _ _ _ _ hf hW (lv_sub hl [0, 1, 2, 3] rfl)
  exact L2 _ _ _ _ _ _ hf hW (lv_sub hl [0, 1, 2, 3] rfl)

set_option maxHeartbeats 4000000 in
set_option maxRecDepth 100000 in
theorem mX0_queueWaiting (l : Launch) (D : va_G) (cy : ClassId) (h : Nat → Nat) (sz n : Nat) (σ : St) {r : Int32} {σ' : St} (hf : fX0_queueWaiting n σ = some (r, σ')) : Mi l yX0_queueWaiting (ws_ yX0_queueWaiting cX0_queueWaiting 3 (some .int)) { frames := 2, cells := 0, slots := 0, locals := 47 } D cy (wC cy h σ) (wC cy h σ') sz [.ref (h 103)] r := by
  refine Met.ofW (cc := cX0_queueWaiting) (maxL := 3) (ret := (some .int)) (by decide) rfl ?_
  intro p e s m args below meth c s₁ B hml hv
  obtain ⟨rfl, hsz, hP, hK, hD0⟩ := hv
  subst hsz
  have hts := atoms_spec (ws := ws_ yX0_queueWaiting cX0_queueWaiting 3 (some .int)) B.pre
  have G : CallFix p m c cX0_queueWaiting 3 s _ wA RX0 := ⟨B.exec, B.bytes, hml, findClass_of_methodNamed B.named, fun w h => hts w (List.mem_cons_of_mem _ h)⟩
  have hr := B.returns
  have hlk := B.notSynchronized
  have hW : KW D (va_A (wC cy h σ) s.heap.size) s.heap (wC cy h σ) s.heap [] := ⟨hP, hD0.self, va_S.rf⟩
  have hA : ∀ q, s.heap.size ≤ q → va_A (wC cy h σ) s.heap.size q := fun q h => Or.inr h
  have hl := lv_entry ([.ref (h 103)]) (n := 3) (Nat.le_of_ble_eq_true rfl)
  rw [lg_entry_eq]
  generalize (lg_sl ([.ref (h 103)]) ++ List.replicate (3 - (lg_sl ([.ref (h 103)])).length) Slot.unset).toArray = ls at hl ⊢
  have hl : lv_has ls 3 [(0, .ref (h 103))] := hl
  unfold fX0_queueWaiting at hf
  refine lv_iconst (v := (0 : Int32)) G.1 G.2.1 dX0_queueWaiting_0 (by decide) ?_
  refine lv_istore_n (lv' := [(1, .int (0 : Int32)), (0, .ref (h 103))]) G.1 G.2.1 dX0_queueWaiting_1 rfl hl (by decide) rfl (fun ls hl => ?_)
  have K2_35 : ∀ (y1 : Int32) (s2 : St) (H : Heap) (locs : List Loc) (ls : Array Slot), fX0_queueWaiting_k2_35 n y1 s2 = some (r, σ') → KW D (va_A (wC cy h σ) s.heap.size) s.heap (wC cy h s2) H locs → lv_has ls 3 [(1, .int y1), (0, .ref (h 103))] → W p l e (headSpec (ws_ yX0_queueWaiting cX0_queueWaiting 3 (some .int)) { frames := 2, cells := 0, slots := 0, locals := 47 }).room s m (([.ref (h 103)] : List Value).toArray) below meth c H locs 0 0 (MQ below (va_Qi (fun (r' : Int32) (_ : Unit) => r' = r) (fun _ => KB D (va_A (wC cy h σ) s.heap.size) (wC cy h σ')) (va_A (wC cy h σ) s.heap.size)) (([.ref (h 103)] : List Value).toArray) s 0 0 (va_A (wC cy h σ) s.heap.size)) (F0 m 35 ls []) := by
    intro y1 s2 H locs ls hf hW hl
    unfold fX0_queueWaiting_k2_35 at hf
    refine lv_iconst (v := (0 : Int32)) G.1 G.2.1 dX0_queueWaiting_35 (by decide) ?_
    refine lv_istore_n (lv' := [(1, .int (0 : Int32)), (0, .ref (h 103))]) G.1 G.2.1 dX0_queueWaiting_36 rfl hl (by decide) rfl (fun ls hl => ?_)
    refine lv_iconst (v := (0 : Int32)) G.1 G.2.1 dX0_queueWaiting_37 (by decide) ?_
    refine lv_istore_n (lv' := [(2, .int (0 : Int32)), (1, .int (0 : Int32)), (0, .ref (h 103))]) G.1 G.2.1 dX0_queueWaiting_38 rfl hl (by decide) rfl (fun ls hl => ?_)
    have L39 : ∀ (fu : Nat) (y3 : Int32) (y4 : Int32) (s5 : St) (H : Heap) (locs : List Loc) (ls : Array Slot), lz3 (fX0_queueWaiting_b39 n) fu y3 y4 s5 = some (r, σ') → KW D (va_A (wC cy h σ) s.heap.size) s.heap (wC cy h s5) H locs → lv_has ls 3 [(2, .int y3), (1, .int y4), (0, .ref (h 103))] → W p l e (headSpec (ws_ yX0_queueWaiting cX0_queueWaiting 3 (some .int)) { frames := 2, cells := 0, slots := 0, locals := 47 }).room s m (([.ref (h 103)] : List Value).toArray) below meth c H locs 0 0 (MQ below (va_Qi (fun (r' : Int32) (_ : Unit) => r' = r) (fun _ => KB D (va_A (wC cy h σ) s.heap.size) (wC cy h σ')) (va_A (wC cy h σ) s.heap.size)) (([.ref (h 103)] : List Value).toArray) s 0 0 (va_A (wC cy h σ) s.heap.size)) (F0 m 39 ls []) := by
      intro fu39
      induction fu39 with
      | zero => intro y3 y4 s5 H locs ls hf; cases hf
      | succ fu39 ih39 =>
        intro y3 y4 s5 H locs ls hf hW hl
        rw [lz3_s] at hf
        unfold fX0_queueWaiting_b39 at hf
        refine lv_iload_n G.1 G.2.1 dX0_queueWaiting_39 rfl (lv_at hl 0 rfl) ?_
        refine lv_aload_n G.1 G.2.1 dX0_queueWaiting_40 rfl (lv_at hl 2 rfl) ?_
        refine k_get G inlX0 hK hW 0 rfl rfl 1 (by decide) q_2_7 rfl dX0_queueWaiting_41 ?_
        refine k_get G inlX2 hK hW 9 rfl rfl 0 (by decide) q_7_11 rfl dX0_queueWaiting_44 ?_
        refine lv_icmp_ge (tgt := 77) G.1 G.2.1 dX0_queueWaiting_47 (by decide) (fun c47 => ?_) (fun c47 => ?_)
        · replace hf := it c47 hf
          refine lv_iload_n G.1 G.2.1 dX0_queueWaiting_77 rfl (lv_at hl 1 rfl) ?_
          cases hf
          exact k_iret G hr hlk hK hW dX0_queueWaiting_78
        · replace hf := ie c47 hf
          refine lv_aload_n G.1 G.2.1 dX0_queueWaiting_50 rfl (lv_at hl 2 rfl) ?_
          refine k_get G inlX0 hK hW 0 rfl rfl 1 (by decide) q_2_7 rfl dX0_queueWaiting_51 ?_
          refine k_get G inlX2 hK hW 9 rfl rfl 5 (by decide) q_7_12 rfl dX0_queueWaiting_54 ?_
          refine lv_iload_n G.1 G.2.1 dX0_queueWaiting_57 rfl (lv_at hl 0 rfl) ?_
          obtain ⟨v7, ev7, hf⟩ := ob hf
          refine k_ald G hK hW 14 rfl ev7 dX0_queueWaiting_58 ?_
          refine lv_if_ne (tgt := 71) G.1 G.2.1 dX0_queueWaiting_59 (by decide) (fun c59 => ?_) (fun c59 => ?_)
          · replace hf := ie c59 hf
            refine lv_iinc (v := (y3 + (1 : Int32))) (lv' := [(2, .int (y3 + (1 : Int32))), (1, .int y4), (0, .ref (h 103))]) G.1 G.2.1 dX0_queueWaiting_71 hl (k := 0) rfl (congrArg (y3 + ·) (by decide)) (by decide) rfl (fun ls hl => ?_)
            refine lv_goto (tgt := 39) G.1 G.2.1 dX0_queueWaiting_74 (by decide) ?_
            exact ih39 _ _ _ _ _ _ hf hW (lv_sub hl [0, 1, 2] rfl)
          · replace hf := it c59 hf
            refine lv_aload_n G.1 G.2.1 dX0_queueWaiting_62 rfl (lv_at hl 2 rfl) ?_
            refine lv_iload_n G.1 G.2.1 dX0_queueWaiting_63 rfl (lv_at hl 0 rfl) ?_
            refine lv_iload_n G.1 G.2.1 dX0_queueWaiting_64 rfl (lv_at hl 1 rfl) ?_
            obtain ⟨s8, es8, hf⟩ := ob hf
            refine kc_v (wr := []) (w := wC cy h s5) (w' := wC cy h s8) (n := 2) (As := [.int y3, .int y4]) (C := RX0) G hK hA hW (mX0_insertIntoQueue l D cy h _ n s5 y3 y4 es8) (gV q_12_9 q_12_10 q_12_11 q_1_16 q_12_12) ⟨rfl, rfl⟩ (by decide +kernel) ⟨Nat.le_of_ble_eq_true rfl, Nat.le_of_ble_eq_true rfl⟩ (va_recv hK.1 hW.1 (ci := 2) (q0 := 0) rfl rfl) rfl hl.1 rfl (Nat.le_of_ble_eq_true rfl) dX0_queueWaiting_65 ⟨Nat.le_of_ble_eq_true rfl, Nat.le_of_ble_eq_true rfl⟩ (fun H locs hW => ?_)
            refine lv_iinc (v := (y4 + (1 : Int32))) (lv' := [(1, .int (y4 + (1 : Int32))), (2, .int y3), (0, .ref (h 103))]) G.1 G.2.1 dX0_queueWaiting_68 hl (k := 1) rfl (congrArg (y4 + ·) (by decide)) (by decide) rfl (fun ls hl => ?_)
            refine lv_iinc (v := (y3 + (1 : Int32))) (lv' := [(2, .int (y3 + (1 : Int32))), (1, .int (y4 + (1 : Int32))), (0, .ref (h 103))]) G.1 G.2.1 dX0_queueWaiting_71 hl (k := 1) rfl (congrArg (y3 + ·) (by decide)) (by decide) rfl (fun ls hl => ?_)
            refine lv_goto (tgt := 39) G.1 G.2.1 dX0_queueWaiting_74 (by decide) ?_
            exact ih39 _ _ _ _ _ _ hf hW (lv_sub hl [0, 1, 2] rfl)
    exact L39 _ _ _ _ _ _ _ hf hW (lv_sub hl [0, 1, 2] rfl)
  have L2 : ∀ (fu : Nat) (y9 : Int32) (s10 : St) (H : Heap) (locs : List Loc) (ls : Array Slot), lz2 (fX0_queueWaiting_b2 n) fu y9 s10 = some (r, σ') → KW D (va_A (wC cy h σ) s.heap.size) s.heap (wC cy h s10) H locs → lv_has ls 3 [(1, .int y9), (0, .ref (h 103))] → W p l e (headSpec (ws_ yX0_queueWaiting cX0_queueWaiting 3 (some .int)) { frames := 2, cells := 0, slots := 0, locals := 47 }).room s m (([.ref (h 103)] : List Value).toArray) below meth c H locs 0 0 (MQ below (va_Qi (fun (r' : Int32) (_ : Unit) => r' = r) (fun _ => KB D (va_A (wC cy h σ) s.heap.size) (wC cy h σ')) (va_A (wC cy h σ) s.heap.size)) (([.ref (h 103)] : List Value).toArray) s 0 0 (va_A (wC cy h σ) s.heap.size)) (F0 m 2 ls []) := by
    intro fu2
    induction fu2 with
    | zero => intro y9 s10 H locs ls hf; cases hf
    | succ fu2 ih2 =>
      intro y9 s10 H locs ls hf hW hl
      rw [lz2_s] at hf
      unfold fX0_queueWaiting_b2 at hf
      refine lv_iload_n G.1 G.2.1 dX0_queueWaiting_2 rfl (lv_at hl 0 rfl) ?_
      refine lv_iconst (v := (4 : Int32)) G.1 G.2.1 dX0_queueWaiting_3 (by decide) ?_
      refine lv_icmp_ge (tgt := 35) G.1 G.2.1 dX0_queueWaiting_4 (by decide) (fun c4 => ?_) (fun c4 => ?_)
      · replace hf := it c4 hf
        exact K2_35 _ _ _ _ _ hf hW (lv_sub hl [0, 1] rfl)
      · replace hf := ie c4 hf
        refine lv_aload_n G.1 G.2.1 dX0_queueWaiting_7 rfl (lv_at hl 1 rfl) ?_
        refine k_get G inlX0 hK hW 0 rfl rfl 8 (by decide) q_2_18 rfl dX0_queueWaiting_8 ?_
        refine lv_iload_n G.1 G.2.1 dX0_queueWaiting_11 rfl (lv_at hl 0 rfl) ?_
        refine lv_aload_n G.1 G.2.1 dX0_queueWaiting_12 rfl (lv_at hl 1 rfl) ?_
        refine k_get G inlX0 hK hW 0 rfl rfl 6 (by decide) q_2_16 rfl dX0_queueWaiting_13 ?_
        refine lv_if_eq (tgt := 27) G.1 G.2.1 dX0_queueWaiting_16 (by decide) (fun c16 => ?_) (fun c16 => ?_)
        · replace hf := it c16 hf
          refine lv_iconst (v := (0 : Int32)) G.1 G.2.1 dX0_queueWaiting_27 (by decide) ?_
          obtain ⟨s12, es12, hf⟩ := ob hf
          refine k_ast (w := wC cy h) G hK hW 3 24 4 rfl (fun _ => rfl) es12 dX0_queueWaiting_28 (fun H locs hW => ?_)
          refine lv_iinc (v := (y9 + (1 : Int32))) (lv' := [(1, .int (y9 + (1 : Int32))), (0, .ref (h 103))]) G.1 G.2.1 dX0_queueWaiting_29 hl (k := 0) rfl (congrArg (y9 + ·) (by decide)) (by decide) rfl (fun ls hl => ?_)
          refine lv_goto (tgt := 2) G.1 G.2.1 dX0_queueWaiting_32 (by decide) ?_
          exact ih2 _ _ _ _ _ hf hW (lv_sub hl [0, 1] rfl)
        · replace hf := ie c16 hf
          refine lv_aload_n G.1 G.2.1 dX0_queueWaiting_19 rfl (lv_at hl 1 rfl) ?_
          refine lv_iload_n G.1 G.2.1 dX0_queueWaiting_20 rfl (lv_at hl 0 rfl) ?_
          obtain ⟨v13, ev13, hf⟩ := ob hf
          refine kc_i (wr := []) (w := wC cy h s10) (w' := wC cy h s10) (n := 1) (As := [.int y9]) (C := RX0) G hK hA hW (mX0_usageOfUser l D cy h _ n s10 y9 ev13) (gV q_12_4 q_12_5 q_12_6 q_1_16 q_12_7) ⟨rfl, rfl⟩ (by decide +kernel) ⟨Nat.le_of_ble_eq_true rfl, Nat.le_of_ble_eq_true rfl⟩ (va_recv hK.1 hW.1 (ci := 2) (q0 := 0) rfl rfl) rfl hl.1 rfl (Nat.le_of_ble_eq_true rfl) dX0_queueWaiting_21 ⟨Nat.le_of_ble_eq_true rfl, Nat.le_of_ble_eq_true rfl⟩ (fun H locs hW => ?_)
          refine lv_goto (tgt := 28) G.1 G.2.1 dX0_queueWaiting_24 (by decide) ?_
          obtain ⟨s14, es14, hf⟩ := ob hf
          refine k_ast (w := wC cy h) G hK hW 3 24 4 rfl (fun _ => rfl) es14 dX0_queueWaiting_28 (fun H locs hW => ?_)
          refine lv_iinc (v := (y9 + (1 : Int32))) (lv' := [(1, .int (y9 + (1 : Int32))), (0, .ref (h 103))]) G.1 G.2.1 dX0_queueWaiting_29 hl (k := 0) rfl (congrArg (y9 + ·) (by decide)) (by decide) rfl (fun ls hl => ?_)
          refine lv_goto (tgt := 2) G.1 G.2.1 dX0_queueWaiting_32 (by decide) ?_
          exact ih2 _ _ _ _ _ hf hW (lv_sub hl [0, 1] rfl)
  exact L2 _ _ _ _ _ _ hf hW (lv_sub hl [0, 1] rfl)

set_option maxHeartbeats 4000000 in
set_option maxRecDepth 100000 in
theorem mX0_replan (l : Launch) (D : va_G) (cy : ClassId) (h : Nat → Nat) (sz n : Nat) (σ : St) {σ' : St} (hf : fX0_replan n σ = some σ') : Mv l yX0_replan (ws_ yX0_replan cX0_replan 5 none) { frames := 4, cells := 0, slots := 0, locals := 95 } D cy (wC cy h σ) (wC cy h σ') sz [.ref (h 103)] := by
  refine Met.ofW (cc := cX0_replan) (maxL := 5) (ret := none) (by decide) rfl ?_
  intro p e s m args below meth c s₁ B hml hv
  obtain ⟨rfl, hsz, hP, hK, hD0⟩ := hv
  subst hsz
  have hts := atoms_spec (ws := ws_ yX0_replan cX0_replan 5 none) B.pre
  have G : CallFix p m c cX0_replan 5 s _ wA RX0 := ⟨B.exec, B.bytes, hml, findClass_of_methodNamed B.named, fun w h => hts w (List.mem_cons_of_mem _ h)⟩
  have hr := B.returns
  have hlk := B.notSynchronized
  have hW : KW D (va_A (wC cy h σ) s.heap.size) s.heap (wC cy h σ) s.heap [] := ⟨hP, hD0.self, va_S.rf⟩
  have hA : ∀ q, s.heap.size ≤ q → va_A (wC cy h σ) s.heap.size q := fun q h => Or.inr h
  have hl := lv_entry ([.ref (h 103)]) (n := 5) (Nat.le_of_ble_eq_true rfl)
  rw [lg_entry_eq]
  generalize (lg_sl ([.ref (h 103)]) ++ List.replicate (5 - (lg_sl ([.ref (h 103)])).length) Slot.unset).toArray = ls at hl ⊢
  have hl : lv_has ls 5 [(0, .ref (h 103))] := hl
  unfold fX0_replan at hf
  refine lv_aload_n G.1 G.2.1 dX0_replan_0 rfl (lv_at hl 0 rfl) ?_
  obtain ⟨v1, s2, ev1, hf⟩ := ob2 hf
  refine kc_i (wr := []) (w := wC cy h σ) (w' := wC cy h s2) (n := 0) (As := []) (C := RX0) G hK hA hW (mX0_queueWaiting l D cy h _ n σ  ev1) (gV q_12_0 q_12_1 q_12_2 q_1_16 q_12_3) ⟨rfl, rfl⟩ (by decide +kernel) ⟨Nat.le_of_ble_eq_true rfl, Nat.le_of_ble_eq_true rfl⟩ (va_recv hK.1 hW.1 (ci := 2) (q0 := 0) rfl rfl) rfl hl.1 rfl (Nat.le_of_ble_eq_true rfl) dX0_replan_1 ⟨Nat.le_of_ble_eq_true rfl, Nat.le_of_ble_eq_true rfl⟩ (fun H locs hW => ?_)
  refine lv_istore_n (lv' := [(1, .int v1), (0, .ref (h 103))]) G.1 G.2.1 dX0_replan_4 rfl hl (by decide) rfl (fun ls hl => ?_)
  refine lv_iconst (v := (0 : Int32)) G.1 G.2.1 dX0_replan_5 (by decide) ?_
  refine lv_istore_n (lv' := [(2, .int (0 : Int32)), (1, .int v1), (0, .ref (h 103))]) G.1 G.2.1 dX0_replan_6 rfl hl (by decide) rfl (fun ls hl => ?_)
  have L7 : ∀ (fu : Nat) (y3 : Int32) (s4 : St) (H : Heap) (locs : List Loc) (ls : Array Slot), lz2 (fX0_replan_b7 n v1) fu y3 s4 = some σ' → KW D (va_A (wC cy h σ) s.heap.size) s.heap (wC cy h s4) H locs → lv_has ls 5 [(2, .int y3), (1, .int v1), (0, .ref (h 103))] → W p l e (headSpec (ws_ yX0_replan cX0_replan 5 none) { frames := 4, cells := 0, slots := 0, locals := 95 }).room s m (([.ref (h 103)] : List Value).toArray) below meth c H locs 0 0 (MQ below (va_Qv (fun (_ : Unit) => True) (fun _ => KB D (va_A (wC cy h σ) s.heap.size) (wC cy h σ')) (va_A (wC cy h σ) s.heap.size)) (([.ref (h 103)] : List Value).toArray) s 0 0 (va_A (wC cy h σ) s.heap.size)) (F0 m 7 ls []) := by
    intro fu7
    induction fu7 with
    | zero => intro y3 s4 H locs ls hf; cases hf
    | succ fu7 ih7 =>
      intro y3 s4 H locs ls hf hW hl
      rw [lz2_s] at hf
      unfold fX0_replan_b7 at hf
      refine lv_iload_n G.1 G.2.1 dX0_replan_7 rfl (lv_at hl 0 rfl) ?_
      refine lv_iload_n G.1 G.2.1 dX0_replan_8 rfl (lv_at hl 1 rfl) ?_
      refine lv_icmp_ge (tgt := 67) G.1 G.2.1 dX0_replan_9 (by decide) (fun c9 => ?_) (fun c9 => ?_)
      · replace hf := it c9 hf
        cases hf
        exact k_vret G hr hlk hK hW dX0_replan_67
      · replace hf := ie c9 hf
        refine lv_aload_n G.1 G.2.1 dX0_replan_12 rfl (lv_at hl 2 rfl) ?_
        refine k_get G inlX0 hK hW 0 rfl rfl 7 (by decide) q_2_17 rfl dX0_replan_13 ?_
        refine lv_iload_n G.1 G.2.1 dX0_replan_16 rfl (lv_at hl 0 rfl) ?_
        obtain ⟨v6, ev6, hf⟩ := ob hf
        refine k_ald G hK hW 2 rfl ev6 dX0_replan_17 ?_
        refine lv_istore_n (lv' := [(3, .int v6), (2, .int y3), (1, .int v1), (0, .ref (h 103))]) G.1 G.2.1 dX0_replan_18 rfl hl (by decide) rfl (fun ls hl => ?_)
        refine lv_aload_n G.1 G.2.1 dX0_replan_19 rfl (lv_at hl 3 rfl) ?_
        refine k_get G inlX0 hK hW 0 rfl rfl 0 (by decide) q_2_3 rfl dX0_replan_20 ?_
        refine k_get G inlX3 hK hW 4 rfl rfl 2 (by decide) q_7_13 rfl dX0_replan_23 ?_
        refine lv_iload_n G.1 G.2.1 dX0_replan_26 rfl (lv_at hl 0 rfl) ?_
        obtain ⟨v7, ev7, hf⟩ := ob hf
        refine k_ald G hK hW 7 rfl ev7 dX0_replan_27 ?_
        refine lv_istore (lv' := [(4, .int v7), (3, .int v6), (2, .int y3), (1, .int v1), (0, .ref (h 103))]) G.1 G.2.1 dX0_replan_28 hl (by decide) rfl (fun ls hl => ?_)
        refine lv_aload_n G.1 G.2.1 dX0_replan_30 rfl (lv_at hl 4 rfl) ?_
        refine k_get G inlX0 hK hW 0 rfl rfl 0 (by decide) q_2_3 rfl dX0_replan_31 ?_
        refine lv_iload_n G.1 G.2.1 dX0_replan_34 rfl (lv_at hl 1 rfl) ?_
        obtain ⟨s8, es8, hf⟩ := ob hf
        refine kc_v (wr := []) (w := wC cy h s4) (w' := wC cy h s8) (n := 1) (As := [.int v6]) (C := RX3) G hK hA hW (mX3_clearSlot l D cy h _ n s4 v6 es8) (gV q_11_16 q_11_17 q_11_18 q_2_2 q_11_19) ⟨rfl, rfl⟩ (by decide +kernel) ⟨Nat.le_of_ble_eq_true rfl, Nat.le_of_ble_eq_true rfl⟩ (va_recv hK.1 hW.1 (ci := 5) (q0 := 4) rfl rfl) rfl hl.1 rfl (Nat.le_of_ble_eq_true rfl) dX0_replan_35 ⟨Nat.le_of_ble_eq_true rfl, Nat.le_of_ble_eq_true rfl⟩ (fun H locs hW => ?_)
        refine lv_aload_n G.1 G.2.1 dX0_replan_38 rfl (lv_at hl 4 rfl) ?_
        refine lv_iload_n G.1 G.2.1 dX0_replan_39 rfl (lv_at hl 1 rfl) ?_
        obtain ⟨v9, s10, ev9, hf⟩ := ob2 hf
        refine kc_i (wr := []) (w := wC cy h s8) (w' := wC cy h s10) (n := 1) (As := [.int v6]) (C := RX0) G hK hA hW (mX0_plan l D cy h _ n s8 v6 ev9) (gV q_6_0 q_6_1 q_6_2 q_1_16 q_6_3) ⟨rfl, rfl⟩ (by decide +kernel) ⟨Nat.le_of_ble_eq_true rfl, Nat.le_of_ble_eq_true rfl⟩ (va_recv hK.1 hW.1 (ci := 2) (q0 := 0) rfl rfl) rfl hl.1 rfl (Nat.le_of_ble_eq_true rfl) dX0_replan_40 ⟨Nat.le_of_ble_eq_true rfl, Nat.le_of_ble_eq_true rfl⟩ (fun H locs hW => ?_)
        refine lv_iload G.1 G.2.1 dX0_replan_43 (lv_at hl 0 rfl) ?_
        refine lv_icmp_ge (tgt := 61) G.1 G.2.1 dX0_replan_45 (by decide) (fun c45 => ?_) (fun c45 => ?_)
        · replace hf := it c45 hf
          refine lv_iinc (v := (y3 + (1 : Int32))) (lv' := [(2, .int (y3 + (1 : Int32))), (4, .int v7), (3, .int v6), (1, .int v1), (0, .ref (h 103))]) G.1 G.2.1 dX0_replan_61 hl (k := 2) rfl (congrArg (y3 + ·) (by decide)) (by decide) rfl (fun ls hl => ?_)
          refine lv_goto (tgt := 7) G.1 G.2.1 dX0_replan_64 (by decide) ?_
          exact ih7 _ _ _ _ _ hf hW (lv_sub hl [0, 3, 4] rfl)
        · replace hf := ie c45 hf
          refine lv_aload_n G.1 G.2.1 dX0_replan_48 rfl (lv_at hl 4 rfl) ?_
          refine k_get G inlX0 hK hW 0 rfl rfl 2 (by decide) q_2_11 rfl dX0_replan_49 ?_
          refine lv_aload_n G.1 G.2.1 dX0_replan_52 rfl (lv_at hl 4 rfl) ?_
          refine k_get G inlX0 hK hW 0 rfl rfl 4 (by decide) q_2_14 rfl dX0_replan_53 ?_
          refine lv_iconst (v := (5 : Int32)) G.1 G.2.1 dX0_replan_56 (by decide) ?_
          refine lv_iload_n G.1 G.2.1 dX0_replan_57 rfl (lv_at hl 1 rfl) ?_
          obtain ⟨s11, es11, hf⟩ := ob hf
          refine kc_v (wr := []) (w := wC cy h s10) (w' := wC cy h s11) (n := 3) (As := [.int (s10 25 0), .int (5 : Int32), .int v6]) (C := RX1) G hK hA hW (mX1_note l D cy h _ n s10 (s10 25 0) (5 : Int32) v6 es11) (gV q_5_20 q_5_21 q_5_22 q_2_10 q_5_23) ⟨rfl, rfl⟩ (by decide +kernel) ⟨Nat.le_of_ble_eq_true rfl, Nat.le_of_ble_eq_true rfl⟩ (va_recv hK.1 hW.1 (ci := 3) (q0 := 22) rfl rfl) rfl hl.1 rfl (Nat.le_of_ble_eq_true rfl) dX0_replan_58 ⟨Nat.le_of_ble_eq_true rfl, Nat.le_of_ble_eq_true rfl⟩ (fun H locs hW => ?_)
          refine lv_iinc (v := (y3 + (1 : Int32))) (lv' := [(2, .int (y3 + (1 : Int32))), (4, .int v7), (3, .int v6), (1, .int v1), (0, .ref (h 103))]) G.1 G.2.1 dX0_replan_61 hl (k := 2) rfl (congrArg (y3 + ·) (by decide)) (by decide) rfl (fun ls hl => ?_)
          refine lv_goto (tgt := 7) G.1 G.2.1 dX0_replan_64 (by decide) ?_
          exact ih7 _ _ _ _ _ hf hW (lv_sub hl [0, 3, 4] rfl)
  exact L7 _ _ _ _ _ _ hf hW (lv_sub hl [0, 1, 2] rfl)

set_option maxHeartbeats 4000000 in
set_option maxRecDepth 100000 in
theorem mX0_dropJob (l : Launch) (D : va_G) (cy : ClassId) (h : Nat → Nat) (sz n : Nat) (σ : St) (x1 : Int32) {σ' : St} (hf : fX0_dropJob n σ x1 = some σ') : Mv l yX0_dropJob (ws_ yX0_dropJob cX0_dropJob 2 none) { frames := 5, cells := 0, slots := 0, locals := 119 } D cy (wC cy h σ) (wC cy h σ') sz [.ref (h 103), .int x1] := by
  refine Met.ofW (cc := cX0_dropJob) (maxL := 2) (ret := none) (by decide) rfl ?_
  intro p e s m args below meth c s₁ B hml hv
  obtain ⟨rfl, hsz, hP, hK, hD0⟩ := hv
  subst hsz
  have hts := atoms_spec (ws := ws_ yX0_dropJob cX0_dropJob 2 none) B.pre
  have G : CallFix p m c cX0_dropJob 2 s _ wA RX0 := ⟨B.exec, B.bytes, hml, findClass_of_methodNamed B.named, fun w h => hts w (List.mem_cons_of_mem _ h)⟩
  have hr := B.returns
  have hlk := B.notSynchronized
  have hW : KW D (va_A (wC cy h σ) s.heap.size) s.heap (wC cy h σ) s.heap [] := ⟨hP, hD0.self, va_S.rf⟩
  have hA : ∀ q, s.heap.size ≤ q → va_A (wC cy h σ) s.heap.size q := fun q h => Or.inr h
  have hl := lv_entry ([.ref (h 103), .int x1]) (n := 2) (Nat.le_of_ble_eq_true rfl)
  rw [lg_entry_eq]
  generalize (lg_sl ([.ref (h 103), .int x1]) ++ List.replicate (2 - (lg_sl ([.ref (h 103), .int x1])).length) Slot.unset).toArray = ls at hl ⊢
  have hl : lv_has ls 2 [(0, .ref (h 103)), (1, .int x1)] := hl
  unfold fX0_dropJob at hf
  refine lv_aload_n G.1 G.2.1 dX0_dropJob_0 rfl (lv_at hl 0 rfl) ?_
  refine lv_iload_n G.1 G.2.1 dX0_dropJob_1 rfl (lv_at hl 1 rfl) ?_
  refine lv_iconst (v := (3 : Int32)) G.1 G.2.1 dX0_dropJob_2 (by decide) ?_
  obtain ⟨s1, es1, hf⟩ := ob hf
  refine kc_v (wr := []) (w := wC cy h σ) (w' := wC cy h s1) (n := 2) (As := [.int x1, .int (3 : Int32)]) (C := RX0) G hK hA hW (mX0_endRun l D cy h _ n σ x1 (3 : Int32) es1) (gV q_11_7 q_11_8 q_11_9 q_1_16 q_11_10) ⟨rfl, rfl⟩ (by decide +kernel) ⟨Nat.le_of_ble_eq_true rfl, Nat.le_of_ble_eq_true rfl⟩ (va_recv hK.1 hW.1 (ci := 2) (q0 := 0) rfl rfl) rfl hl.1 rfl (Nat.le_of_ble_eq_true rfl) dX0_dropJob_3 ⟨Nat.le_of_ble_eq_true rfl, Nat.le_of_ble_eq_true rfl⟩ (fun H locs hW => ?_)
  refine lv_aload_n G.1 G.2.1 dX0_dropJob_6 rfl (lv_at hl 0 rfl) ?_
  refine k_get G inlX0 hK hW 0 rfl rfl 0 (by decide) q_2_3 rfl dX0_dropJob_7 ?_
  refine lv_iload_n G.1 G.2.1 dX0_dropJob_10 rfl (lv_at hl 1 rfl) ?_
  obtain ⟨s2, es2, hf⟩ := ob hf
  refine kc_v (wr := []) (w := wC cy h s1) (w' := wC cy h s2) (n := 1) (As := [.int x1]) (C := RX3) G hK hA hW (mX3_clearSlot l D cy h _ n s1 x1 es2) (gV q_11_16 q_11_17 q_11_18 q_2_2 q_11_19) ⟨rfl, rfl⟩ (by decide +kernel) ⟨Nat.le_of_ble_eq_true rfl, Nat.le_of_ble_eq_true rfl⟩ (va_recv hK.1 hW.1 (ci := 5) (q0 := 4) rfl rfl) rfl hl.1 rfl (Nat.le_of_ble_eq_true rfl) dX0_dropJob_11 ⟨Nat.le_of_ble_eq_true rfl, Nat.le_of_ble_eq_true rfl⟩ (fun H locs hW => ?_)
  refine lv_aload_n G.1 G.2.1 dX0_dropJob_14 rfl (lv_at hl 0 rfl) ?_
  refine k_get G inlX0 hK hW 0 rfl rfl 2 (by decide) q_2_11 rfl dX0_dropJob_15 ?_
  refine lv_aload_n G.1 G.2.1 dX0_dropJob_18 rfl (lv_at hl 0 rfl) ?_
  refine k_get G inlX0 hK hW 0 rfl rfl 4 (by decide) q_2_14 rfl dX0_dropJob_19 ?_
  refine lv_iconst (v := (3 : Int32)) G.1 G.2.1 dX0_dropJob_22 (by decide) ?_
  refine lv_iload_n G.1 G.2.1 dX0_dropJob_23 rfl (lv_at hl 1 rfl) ?_
  obtain ⟨s3, es3, hf⟩ := ob hf
  refine kc_v (wr := []) (w := wC cy h s2) (w' := wC cy h s3) (n := 3) (As := [.int (s2 25 0), .int (3 : Int32), .int x1]) (C := RX1) G hK hA hW (mX1_note l D cy h _ n s2 (s2 25 0) (3 : Int32) x1 es3) (gV q_5_20 q_5_21 q_5_22 q_2_10 q_5_23) ⟨rfl, rfl⟩ (by decide +kernel) ⟨Nat.le_of_ble_eq_true rfl, Nat.le_of_ble_eq_true rfl⟩ (va_recv hK.1 hW.1 (ci := 3) (q0 := 22) rfl rfl) rfl hl.1 rfl (Nat.le_of_ble_eq_true rfl) dX0_dropJob_24 ⟨Nat.le_of_ble_eq_true rfl, Nat.le_of_ble_eq_true rfl⟩ (fun H locs hW => ?_)
  refine lv_aload_n G.1 G.2.1 dX0_dropJob_27 rfl (lv_at hl 0 rfl) ?_
  obtain ⟨s4, es4, hf⟩ := ob hf
  refine kc_v (wr := []) (w := wC cy h s3) (w' := wC cy h s4) (n := 0) (As := []) (C := RX0) G hK hA hW (mX0_replan l D cy h _ n s3  es4) (gV q_11_20 q_11_21 q_11_22 q_1_16 q_11_23) ⟨rfl, rfl⟩ (by decide +kernel) ⟨Nat.le_of_ble_eq_true rfl, Nat.le_of_ble_eq_true rfl⟩ (va_recv hK.1 hW.1 (ci := 2) (q0 := 0) rfl rfl) rfl hl.1 rfl (Nat.le_of_ble_eq_true rfl) dX0_dropJob_28 ⟨Nat.le_of_ble_eq_true rfl, Nat.le_of_ble_eq_true rfl⟩ (fun H locs hW => ?_)
  refine lv_aload_n G.1 G.2.1 dX0_dropJob_31 rfl (lv_at hl 0 rfl) ?_
  obtain ⟨s5, es5, hf⟩ := ob hf
  refine kc_v (wr := []) (w := wC cy h s4) (w' := wC cy h s5) (n := 0) (As := []) (C := RX0) G hK hA hW (mX0_startJobs l D cy h _ n s4  es5) (gV q_7_7 q_7_8 q_7_9 q_1_16 q_7_10) ⟨rfl, rfl⟩ (by decide +kernel) ⟨Nat.le_of_ble_eq_true rfl, Nat.le_of_ble_eq_true rfl⟩ (va_recv hK.1 hW.1 (ci := 2) (q0 := 0) rfl rfl) rfl hl.1 rfl (Nat.le_of_ble_eq_true rfl) dX0_dropJob_32 ⟨Nat.le_of_ble_eq_true rfl, Nat.le_of_ble_eq_true rfl⟩ (fun H locs hW => ?_)
  cases hf
  exact k_vret G hr hlk hK hW dX0_dropJob_35

set_option maxHeartbeats 4000000 in
set_option maxRecDepth 100000 in
theorem mX0_interrupt (l : Launch) (D : va_G) (cy : ClassId) (h : Nat → Nat) (sz n : Nat) (σ : St) (x1 : Int32) (x2 : Int32) {r : Int32} {σ' : St} (hf : fX0_interrupt n σ x1 x2 = some (r, σ')) : Mi l yX0_interrupt (ws_ yX0_interrupt cX0_interrupt 5 (some .int)) { frames := 5, cells := 0, slots := 0, locals := 119 } D cy (wC cy h σ) (wC cy h σ') sz [.ref (h 103), .int x1, .int x2] r := by
  refine Met.ofW (cc := cX0_interrupt) (maxL := 5) (ret := (some .int)) (by decide) rfl ?_
  intro p e s m args below meth c s₁ B hml hv
  obtain ⟨rfl, hsz, hP, hK, hD0⟩ := hv
  subst hsz
  have hts := atoms_spec (ws := ws_ yX0_interrupt cX0_interrupt 5 (some .int)) B.pre
  have G : CallFix p m c cX0_interrupt 5 s _ wA RX0 := ⟨B.exec, B.bytes, hml, findClass_of_methodNamed B.named, fun w h => hts w (List.mem_cons_of_mem _ h)⟩
  have hr := B.returns
  have hlk := B.notSynchronized
  have hW : KW D (va_A (wC cy h σ) s.heap.size) s.heap (wC cy h σ) s.heap [] := ⟨hP, hD0.self, va_S.rf⟩
  have hA : ∀ q, s.heap.size ≤ q → va_A (wC cy h σ) s.heap.size q := fun q h => Or.inr h
  have hl := lv_entry ([.ref (h 103), .int x1, .int x2]) (n := 5) (Nat.le_of_ble_eq_true rfl)
  rw [lg_entry_eq]
  generalize (lg_sl ([.ref (h 103), .int x1, .int x2]) ++ List.replicate (5 - (lg_sl ([.ref (h 103), .int x1, .int x2])).length) Slot.unset).toArray = ls at hl ⊢
  have hl : lv_has ls 5 [(0, .ref (h 103)), (1, .int x1), (2, .int x2)] := hl
  unfold fX0_interrupt at hf
  refine lv_iload_n G.1 G.2.1 dX0_interrupt_0 rfl (lv_at hl 2 rfl) ?_
  refine lv_aload_n G.1 G.2.1 dX0_interrupt_1 rfl (lv_at hl 0 rfl) ?_
  refine k_get G inlX0 hK hW 0 rfl rfl 4 (by decide) q_2_14 rfl dX0_interrupt_2 ?_
  refine lv_aload_n G.1 G.2.1 dX0_interrupt_5 rfl (lv_at hl 0 rfl) ?_
  refine k_get G inlX0 hK hW 0 rfl rfl 0 (by decide) q_2_3 rfl dX0_interrupt_6 ?_
  refine k_get G inlX3 hK hW 4 rfl rfl 2 (by decide) q_7_13 rfl dX0_interrupt_9 ?_
  refine lv_iload_n G.1 G.2.1 dX0_interrupt_12 rfl (lv_at hl 1 rfl) ?_
  obtain ⟨v1, ev1, hf⟩ := ob hf
  refine k_ald G hK hW 7 rfl ev1 dX0_interrupt_13 ?_
  refine lv_isub G.1 G.2.1 dX0_interrupt_14 ?_
  refine lv_isub G.1 G.2.1 dX0_interrupt_15 ?_
  refine lv_istore_n (lv' := [(3, .int (x2 - ((σ 25 0) - v1))), (0, .ref (h 103)), (1, .int x1), (2, .int x2)]) G.1 G.2.1 dX0_interrupt_16 rfl hl (by decide) rfl (fun ls hl => ?_)
  refine lv_aload_n G.1 G.2.1 dX0_interrupt_17 rfl (lv_at hl 1 rfl) ?_
  refine k_get G inlX0 hK hW 0 rfl rfl 1 (by decide) q_2_7 rfl dX0_interrupt_18 ?_
  refine k_get G inlX2 hK hW 9 rfl rfl 3 (by decide) q_6_5 rfl dX0_interrupt_21 ?_
  refine lv_iload_n G.1 G.2.1 dX0_interrupt_24 rfl (lv_at hl 2 rfl) ?_
  refine lv_dup2_11 G.1 G.2.1 dX0_interrupt_25 rfl rfl ?_
  obtain ⟨v2, ev2, hf⟩ := ob hf
  refine k_ald G hK hW 12 rfl ev2 dX0_interrupt_26 ?_
  refine lv_iload_n G.1 G.2.1 dX0_interrupt_27 rfl (lv_at hl 0 rfl) ?_
  refine lv_iadd G.1 G.2.1 dX0_interrupt_28 ?_
  obtain ⟨s3, es3, hf⟩ := ob hf
  refine k_ast (w := wC cy h) G hK hW 12 6 24 rfl (fun _ => rfl) es3 dX0_interrupt_29 (fun H locs hW => ?_)
  refine lv_aload_n G.1 G.2.1 dX0_interrupt_30 rfl (lv_at hl 1 rfl) ?_
  refine k_get G inlX0 hK hW 0 rfl rfl 1 (by decide) q_2_7 rfl dX0_interrupt_31 ?_
  refine k_get G inlX2 hK hW 9 rfl rfl 4 (by decide) q_11_5 rfl dX0_interrupt_34 ?_
  refine lv_iload_n G.1 G.2.1 dX0_interrupt_37 rfl (lv_at hl 2 rfl) ?_
  refine lv_dup2_11 G.1 G.2.1 dX0_interrupt_38 rfl rfl ?_
  obtain ⟨v4, ev4, hf⟩ := ob hf
  refine k_ald G hK hW 13 rfl ev4 dX0_interrupt_39 ?_
  refine lv_iload_n G.1 G.2.1 dX0_interrupt_40 rfl (lv_at hl 0 rfl) ?_
  refine lv_iadd G.1 G.2.1 dX0_interrupt_41 ?_
  obtain ⟨s5, es5, hf⟩ := ob hf
  refine k_ast (w := wC cy h) G hK hW 13 7 24 rfl (fun _ => rfl) es5 dX0_interrupt_42 (fun H locs hW => ?_)
  refine lv_aload_n G.1 G.2.1 dX0_interrupt_43 rfl (lv_at hl 1 rfl) ?_
  refine k_get G inlX0 hK hW 0 rfl rfl 1 (by decide) q_2_7 rfl dX0_interrupt_44 ?_
  refine k_get G inlX2 hK hW 9 rfl rfl 11 (by decide) q_15_11 rfl dX0_interrupt_47 ?_
  refine lv_iload_n G.1 G.2.1 dX0_interrupt_50 rfl (lv_at hl 2 rfl) ?_
  refine lv_dup2_11 G.1 G.2.1 dX0_interrupt_51 rfl rfl ?_
  obtain ⟨v6, ev6, hf⟩ := ob hf
  refine k_ald G hK hW 20 rfl ev6 dX0_interrupt_52 ?_
  refine lv_iconst (v := (1 : Int32)) G.1 G.2.1 dX0_interrupt_53 (by decide) ?_
  refine lv_iadd G.1 G.2.1 dX0_interrupt_54 ?_
  obtain ⟨s7, es7, hf⟩ := ob hf
  refine k_ast (w := wC cy h) G hK hW 20 14 24 rfl (fun _ => rfl) es7 dX0_interrupt_55 (fun H locs hW => ?_)
  refine lv_aload_n G.1 G.2.1 dX0_interrupt_56 rfl (lv_at hl 1 rfl) ?_
  refine lv_iload_n G.1 G.2.1 dX0_interrupt_57 rfl (lv_at hl 2 rfl) ?_
  refine lv_iconst (v := (4 : Int32)) G.1 G.2.1 dX0_interrupt_58 (by decide) ?_
  obtain ⟨s8, es8, hf⟩ := ob hf
  refine kc_v (wr := []) (w := wC cy h s7) (w' := wC cy h s8) (n := 2) (As := [.int x1, .int (4 : Int32)]) (C := RX0) G hK hA hW (mX0_endRun l D cy h _ n s7 x1 (4 : Int32) es8) (gV q_11_7 q_11_8 q_11_9 q_1_16 q_11_10) ⟨rfl, rfl⟩ (by decide +kernel) ⟨Nat.le_of_ble_eq_true rfl, Nat.le_of_ble_eq_true rfl⟩ (va_recv hK.1 hW.1 (ci := 2) (q0 := 0) rfl rfl) rfl hl.1 rfl (Nat.le_of_ble_eq_true rfl) dX0_interrupt_59 ⟨Nat.le_of_ble_eq_true rfl, Nat.le_of_ble_eq_true rfl⟩ (fun H locs hW => ?_)
  refine lv_aload_n G.1 G.2.1 dX0_interrupt_62 rfl (lv_at hl 1 rfl) ?_
  refine k_get G inlX0 hK hW 0 rfl rfl 0 (by decide) q_2_3 rfl dX0_interrupt_63 ?_
  refine lv_iload_n G.1 G.2.1 dX0_interrupt_66 rfl (lv_at hl 2 rfl) ?_
  obtain ⟨s9, es9, hf⟩ := ob hf
  refine kc_v (wr := []) (w := wC cy h s8) (w' := wC cy h s9) (n := 1) (As := [.int x1]) (C := RX3) G hK hA hW (mX3_clearSlot l D cy h _ n s8 x1 es9) (gV q_11_16 q_11_17 q_11_18 q_2_2 q_11_19) ⟨rfl, rfl⟩ (by decide +kernel) ⟨Nat.le_of_ble_eq_true rfl, Nat.le_of_ble_eq_true rfl⟩ (va_recv hK.1 hW.1 (ci := 5) (q0 := 4) rfl rfl) rfl hl.1 rfl (Nat.le_of_ble_eq_true rfl) dX0_interrupt_67 ⟨Nat.le_of_ble_eq_true rfl, Nat.le_of_ble_eq_true rfl⟩ (fun H locs hW => ?_)
  refine lv_aload_n G.1 G.2.1 dX0_interrupt_70 rfl (lv_at hl 1 rfl) ?_
  refine k_get G inlX0 hK hW 0 rfl rfl 2 (by decide) q_2_11 rfl dX0_interrupt_71 ?_
  refine lv_aload_n G.1 G.2.1 dX0_interrupt_74 rfl (lv_at hl 1 rfl) ?_
  refine k_get G inlX0 hK hW 0 rfl rfl 4 (by decide) q_2_14 rfl dX0_interrupt_75 ?_
  refine lv_iconst (v := (4 : Int32)) G.1 G.2.1 dX0_interrupt_78 (by decide) ?_
  refine lv_iload_n G.1 G.2.1 dX0_interrupt_79 rfl (lv_at hl 2 rfl) ?_
  obtain ⟨s10, es10, hf⟩ := ob hf
  refine kc_v (wr := []) (w := wC cy h s9) (w' := wC cy h s10) (n := 3) (As := [.int (s9 25 0), .int (4 : Int32), .int x1]) (C := RX1) G hK hA hW (mX1_note l D cy h _ n s9 (s9 25 0) (4 : Int32) x1 es10) (gV q_5_20 q_5_21 q_5_22 q_2_10 q_5_23) ⟨rfl, rfl⟩ (by decide +kernel) ⟨Nat.le_of_ble_eq_true rfl, Nat.le_of_ble_eq_true rfl⟩ (va_recv hK.1 hW.1 (ci := 3) (q0 := 22) rfl rfl) rfl hl.1 rfl (Nat.le_of_ble_eq_true rfl) dX0_interrupt_80 ⟨Nat.le_of_ble_eq_true rfl, Nat.le_of_ble_eq_true rfl⟩ (fun H locs hW => ?_)
  refine lv_aload_n G.1 G.2.1 dX0_interrupt_83 rfl (lv_at hl 1 rfl) ?_
  obtain ⟨s11, es11, hf⟩ := ob hf
  refine kc_v (wr := []) (w := wC cy h s10) (w' := wC cy h s11) (n := 0) (As := []) (C := RX0) G hK hA hW (mX0_replan l D cy h _ n s10  es11) (gV q_11_20 q_11_21 q_11_22 q_1_16 q_11_23) ⟨rfl, rfl⟩ (by decide +kernel) ⟨Nat.le_of_ble_eq_true rfl, Nat.le_of_ble_eq_true rfl⟩ (va_recv hK.1 hW.1 (ci := 2) (q0 := 0) rfl rfl) rfl hl.1 rfl (Nat.le_of_ble_eq_true rfl) dX0_interrupt_84 ⟨Nat.le_of_ble_eq_true rfl, Nat.le_of_ble_eq_true rfl⟩ (fun H locs hW => ?_)
  refine lv_aload_n G.1 G.2.1 dX0_interrupt_87 rfl (lv_at hl 1 rfl) ?_
  refine k_get G inlX0 hK hW 0 rfl rfl 1 (by decide) q_2_7 rfl dX0_interrupt_88 ?_
  refine k_get G inlX2 hK hW 9 rfl rfl 5 (by decide) q_7_12 rfl dX0_interrupt_91 ?_
  refine lv_iload_n G.1 G.2.1 dX0_interrupt_94 rfl (lv_at hl 2 rfl) ?_
  refine lv_iconst (v := (0 : Int32)) G.1 G.2.1 dX0_interrupt_95 (by decide) ?_
  obtain ⟨s12, es12, hf⟩ := ob hf
  refine k_ast (w := wC cy h) G hK hW 14 8 24 rfl (fun _ => rfl) es12 dX0_interrupt_96 (fun H locs hW => ?_)
  refine lv_aload_n G.1 G.2.1 dX0_interrupt_97 rfl (lv_at hl 1 rfl) ?_
  refine lv_iload_n G.1 G.2.1 dX0_interrupt_98 rfl (lv_at hl 2 rfl) ?_
  obtain ⟨v13, s14, ev13, hf⟩ := ob2 hf
  refine kc_i (wr := []) (w := wC cy h s12) (w' := wC cy h s14) (n := 1) (As := [.int x1]) (C := RX0) G hK hA hW (mX0_plan l D cy h _ n s12 x1 ev13) (gV q_6_0 q_6_1 q_6_2 q_1_16 q_6_3) ⟨rfl, rfl⟩ (by decide +kernel) ⟨Nat.le_of_ble_eq_true rfl, Nat.le_of_ble_eq_true rfl⟩ (va_recv hK.1 hW.1 (ci := 2) (q0 := 0) rfl rfl) rfl hl.1 rfl (Nat.le_of_ble_eq_true rfl) dX0_interrupt_99 ⟨Nat.le_of_ble_eq_true rfl, Nat.le_of_ble_eq_true rfl⟩ (fun H locs hW => ?_)
  refine lv_istore (lv' := [(4, .int v13), (3, .int (x2 - ((σ 25 0) - v1))), (0, .ref (h 103)), (1, .int x1), (2, .int x2)]) G.1 G.2.1 dX0_interrupt_102 hl (by decide) rfl (fun ls hl => ?_)
  refine lv_aload_n G.1 G.2.1 dX0_interrupt_104 rfl (lv_at hl 2 rfl) ?_
  obtain ⟨s15, es15, hf⟩ := ob hf
  refine kc_v (wr := []) (w := wC cy h s14) (w' := wC cy h s15) (n := 0) (As := []) (C := RX0) G hK hA hW (mX0_startJobs l D cy h _ n s14  es15) (gV q_7_7 q_7_8 q_7_9 q_1_16 q_7_10) ⟨rfl, rfl⟩ (by decide +kernel) ⟨Nat.le_of_ble_eq_true rfl, Nat.le_of_ble_eq_true rfl⟩ (va_recv hK.1 hW.1 (ci := 2) (q0 := 0) rfl rfl) rfl hl.1 rfl (Nat.le_of_ble_eq_true rfl) dX0_interrupt_105 ⟨Nat.le_of_ble_eq_true rfl, Nat.le_of_ble_eq_true rfl⟩ (fun H locs hW => ?_)
  refine lv_iload G.1 G.2.1 dX0_interrupt_108 (lv_at hl 0 rfl) ?_
  cases hf
  exact k_iret G hr hlk hK hW dX0_interrupt_110

set_option maxHeartbeats 4000000 in
set_option maxRecDepth 100000 in
theorem mX0_addReservation (l : Launch) (D : va_G) (cy : ClassId) (h : Nat → Nat) (sz n : Nat) (σ : St) (x1 : Int32) (x2 : Int32) (x3 : Int32) {r : Int32} {σ' : St} (hf : fX0_addReservation n σ x1 x2 x3 = some (r, σ')) : Mi l yX0_addReservation (ws_ yX0_addReservation cX0_addReservation 6 (some .int)) { frames := 3, cells := 0, slots := 0, locals := 68 } D cy (wC cy h σ) (wC cy h σ') sz [.ref (h 103), .int x1, .int x2, .int x3] r := by
  refine Met.ofW (cc := cX0_addReservation) (maxL := 6) (ret := (some .int)) (by decide) rfl ?_
  intro p e s m args below meth c s₁ B hml hv
  obtain ⟨rfl, hsz, hP, hK, hD0⟩ := hv
  subst hsz
  have hts := atoms_spec (ws := ws_ yX0_addReservation cX0_addReservation 6 (some .int)) B.pre
  have G : CallFix p m c cX0_addReservation 6 s _ wA RX0 := ⟨B.exec, B.bytes, hml, findClass_of_methodNamed B.named, fun w h => hts w (List.mem_cons_of_mem _ h)⟩
  have hr := B.returns
  have hlk := B.notSynchronized
  have hW : KW D (va_A (wC cy h σ) s.heap.size) s.heap (wC cy h σ) s.heap [] := ⟨hP, hD0.self, va_S.rf⟩
  have hA : ∀ q, s.heap.size ≤ q → va_A (wC cy h σ) s.heap.size q := fun q h => Or.inr h
  have hl := lv_entry ([.ref (h 103), .int x1, .int x2, .int x3]) (n := 6) (Nat.le_of_ble_eq_true rfl)
  rw [lg_entry_eq]
  generalize (lg_sl ([.ref (h 103), .int x1, .int x2, .int x3]) ++ List.replicate (6 - (lg_sl ([.ref (h 103), .int x1, .int x2, .int x3])).length) Slot.unset).toArray = ls at hl ⊢
  have hl : lv_has ls 6 [(0, .ref (h 103)), (1, .int x1), (2, .int x2), (3, .int x3)] := hl
  unfold fX0_addReservation at hf
  refine lv_aload_n G.1 G.2.1 dX0_addReservation_0 rfl (lv_at hl 0 rfl) ?_
  refine k_get G inlX0 hK hW 0 rfl rfl 5 (by decide) q_2_15 rfl dX0_addReservation_1 ?_
  refine lv_istore (lv' := [(4, .int (σ 26 0)), (0, .ref (h 103)), (1, .int x1), (2, .int x2), (3, .int x3)]) G.1 G.2.1 dX0_addReservation_4 hl (by decide) rfl (fun ls hl => ?_)
  refine lv_aload_n G.1 G.2.1 dX0_addReservation_6 rfl (lv_at hl 1 rfl) ?_
  refine k_get G inlX0 hK hW 0 rfl rfl 0 (by decide) q_2_3 rfl dX0_addReservation_7 ?_
  refine lv_iload_n G.1 G.2.1 dX0_addReservation_10 rfl (lv_at hl 2 rfl) ?_
  refine lv_iload_n G.1 G.2.1 dX0_addReservation_11 rfl (lv_at hl 3 rfl) ?_
  refine lv_iload_n G.1 G.2.1 dX0_addReservation_12 rfl (lv_at hl 4 rfl) ?_
  obtain ⟨v1, ev1, hf⟩ := ob hf
  refine kc_i (wr := []) (w := wC cy h σ) (w' := wC cy h σ) (n := 3) (As := [.int x1, .int x2, .int x3]) (C := RX3) G hK hA hW (mX3_lowestFree l D cy h _ n σ x1 x2 x3 ev1) (gV q_6_23 q_7_0 q_7_1 q_2_2 q_7_2) ⟨rfl, rfl⟩ (by decide +kernel) ⟨Nat.le_of_ble_eq_true rfl, Nat.le_of_ble_eq_true rfl⟩ (va_recv hK.1 hW.1 (ci := 5) (q0 := 4) rfl rfl) rfl hl.1 rfl (Nat.le_of_ble_eq_true rfl) dX0_addReservation_13 ⟨Nat.le_of_ble_eq_true rfl, Nat.le_of_ble_eq_true rfl⟩ (fun H locs hW => ?_)
  refine lv_istore (lv' := [(5, .int v1), (4, .int (σ 26 0)), (0, .ref (h 103)), (1, .int x1), (2, .int x2), (3, .int x3)]) G.1 G.2.1 dX0_addReservation_16 hl (by decide) rfl (fun ls hl => ?_)
  refine lv_aload_n G.1 G.2.1 dX0_addReservation_18 rfl (lv_at hl 2 rfl) ?_
  refine k_get G inlX0 hK hW 0 rfl rfl 0 (by decide) q_2_3 rfl dX0_addReservation_19 ?_
  refine lv_bipush (v := (24 : Int32)) G.1 G.2.1 dX0_addReservation_22 (by decide) ?_
  refine lv_iload G.1 G.2.1 dX0_addReservation_24 (lv_at hl 1 rfl) ?_
  refine lv_iadd G.1 G.2.1 dX0_addReservation_26 ?_
  refine lv_iload_n G.1 G.2.1 dX0_addReservation_27 rfl (lv_at hl 3 rfl) ?_
  refine lv_iload G.1 G.2.1 dX0_addReservation_28 (lv_at hl 0 rfl) ?_
  refine lv_iload_n G.1 G.2.1 dX0_addReservation_30 rfl (lv_at hl 4 rfl) ?_
  refine lv_iload_n G.1 G.2.1 dX0_addReservation_31 rfl (lv_at hl 5 rfl) ?_
  obtain ⟨s2, es2, hf⟩ := ob hf
  refine kc_v (wr := []) (w := wC cy h σ) (w' := wC cy h s2) (n := 5) (As := [.int ((24 : Int32) + (σ 26 0)), .int x1, .int v1, .int x2, .int x3]) (C := RX3) G hK hA hW (mX3_give l D cy h _ n σ ((24 : Int32) + (σ 26 0)) x1 v1 x2 x3 es2) (gV q_7_3 q_7_4 q_7_5 q_2_2 q_7_6) ⟨rfl, rfl⟩ (by decide +kernel) ⟨Nat.le_of_ble_eq_true rfl, Nat.le_of_ble_eq_true rfl⟩ (va_recv hK.1 hW.1 (ci := 5) (q0 := 4) rfl rfl) rfl hl.1 rfl (Nat.le_of_ble_eq_true rfl) dX0_addReservation_32 ⟨Nat.le_of_ble_eq_true rfl, Nat.le_of_ble_eq_true rfl⟩ (fun H locs hW => ?_)
  refine lv_aload_n G.1 G.2.1 dX0_addReservation_35 rfl (lv_at hl 2 rfl) ?_
  refine lv_dup G.1 G.2.1 dX0_addReservation_36 rfl ?_
  refine k_get G inlX0 hK hW 0 rfl rfl 5 (by decide) q_2_15 rfl dX0_addReservation_37 ?_
  refine lv_iconst (v := (1 : Int32)) G.1 G.2.1 dX0_addReservation_40 (by decide) ?_
  refine lv_iadd G.1 G.2.1 dX0_addReservation_41 ?_
  obtain ⟨s3, es3, hf⟩ := ob hf
  refine k_put (w := wC cy h) G inlX0 tyX0 tyX0_ok nmX0 hK hW 0 26 rfl rfl 5 (by decide) q_2_15 rfl (by decide +kernel) (Nat.le_of_ble_eq_true rfl) rfl es3 dX0_addReservation_42 (fun H locs hW => ?_)
  refine lv_iload G.1 G.2.1 dX0_addReservation_45 (lv_at hl 1 rfl) ?_
  cases hf
  exact k_iret G hr hlk hK hW dX0_addReservation_47

set_option maxHeartbeats 4000000 in
set_option maxRecDepth 100000 in
theorem mX0_dropReservation (l : Launch) (D : va_G) (cy : ClassId) (h : Nat → Nat) (sz n : Nat) (σ : St) (x1 : Int32) {σ' : St} (hf : fX0_dropReservation n σ x1 = some σ') : Mv l yX0_dropReservation (ws_ yX0_dropReservation cX0_dropReservation 2 none) { frames := 5, cells := 0, slots := 0, locals := 119 } D cy (wC cy h σ) (wC cy h σ') sz [.ref (h 103), .int x1] := by
  refine Met.ofW (cc := cX0_dropReservation) (maxL := 2) (ret := none) (by decide) rfl ?_
  intro p e s m args below meth c s₁ B hml hv
  obtain ⟨rfl, hsz, hP, hK, hD0⟩ := hv
  subst hsz
  have hts := atoms_spec (ws := ws_ yX0_dropReservation cX0_dropReservation 2 none) B.pre
  have G : CallFix p m c cX0_dropReservation 2 s _ wA RX0 := ⟨B.exec, B.bytes, hml, findClass_of_methodNamed B.named, fun w h => hts w (List.mem_cons_of_mem _ h)⟩
  have hr := B.returns
  have hlk := B.notSynchronized
  have hW : KW D (va_A (wC cy h σ) s.heap.size) s.heap (wC cy h σ) s.heap [] := ⟨hP, hD0.self, va_S.rf⟩
  have hA : ∀ q, s.heap.size ≤ q → va_A (wC cy h σ) s.heap.size q := fun q h => Or.inr h
  have hl := lv_entry ([.ref (h 103), .int x1]) (n := 2) (Nat.le_of_ble_eq_true rfl)
  rw [lg_entry_eq]
  generalize (lg_sl ([.ref (h 103), .int x1]) ++ List.replicate (2 - (lg_sl ([.ref (h 103), .int x1])).length) Slot.unset).toArray = ls at hl ⊢
  have hl : lv_has ls 2 [(0, .ref (h 103)), (1, .int x1)] := hl
  unfold fX0_dropReservation at hf
  refine lv_aload_n G.1 G.2.1 dX0_dropReservation_0 rfl (lv_at hl 0 rfl) ?_
  refine k_get G inlX0 hK hW 0 rfl rfl 0 (by decide) q_2_3 rfl dX0_dropReservation_1 ?_
  refine lv_bipush (v := (24 : Int32)) G.1 G.2.1 dX0_dropReservation_4 (by decide) ?_
  refine lv_iload_n G.1 G.2.1 dX0_dropReservation_6 rfl (lv_at hl 1 rfl) ?_
  refine lv_iadd G.1 G.2.1 dX0_dropReservation_7 ?_
  obtain ⟨s1, es1, hf⟩ := ob hf
  refine kc_v (wr := []) (w := wC cy h σ) (w' := wC cy h s1) (n := 1) (As := [.int ((24 : Int32) + x1)]) (C := RX3) G hK hA hW (mX3_clearSlot l D cy h _ n σ ((24 : Int32) + x1) es1) (gV q_11_16 q_11_17 q_11_18 q_2_2 q_11_19) ⟨rfl, rfl⟩ (by decide +kernel) ⟨Nat.le_of_ble_eq_true rfl, Nat.le_of_ble_eq_true rfl⟩ (va_recv hK.1 hW.1 (ci := 5) (q0 := 4) rfl rfl) rfl hl.1 rfl (Nat.le_of_ble_eq_true rfl) dX0_dropReservation_8 ⟨Nat.le_of_ble_eq_true rfl, Nat.le_of_ble_eq_true rfl⟩ (fun H locs hW => ?_)
  refine lv_aload_n G.1 G.2.1 dX0_dropReservation_11 rfl (lv_at hl 0 rfl) ?_
  obtain ⟨s2, es2, hf⟩ := ob hf
  refine kc_v (wr := []) (w := wC cy h s1) (w' := wC cy h s2) (n := 0) (As := []) (C := RX0) G hK hA hW (mX0_replan l D cy h _ n s1  es2) (gV q_11_20 q_11_21 q_11_22 q_1_16 q_11_23) ⟨rfl, rfl⟩ (by decide +kernel) ⟨Nat.le_of_ble_eq_true rfl, Nat.le_of_ble_eq_true rfl⟩ (va_recv hK.1 hW.1 (ci := 2) (q0 := 0) rfl rfl) rfl hl.1 rfl (Nat.le_of_ble_eq_true rfl) dX0_dropReservation_12 ⟨Nat.le_of_ble_eq_true rfl, Nat.le_of_ble_eq_true rfl⟩ (fun H locs hW => ?_)
  refine lv_aload_n G.1 G.2.1 dX0_dropReservation_15 rfl (lv_at hl 0 rfl) ?_
  obtain ⟨s3, es3, hf⟩ := ob hf
  refine kc_v (wr := []) (w := wC cy h s2) (w' := wC cy h s3) (n := 0) (As := []) (C := RX0) G hK hA hW (mX0_startJobs l D cy h _ n s2  es3) (gV q_7_7 q_7_8 q_7_9 q_1_16 q_7_10) ⟨rfl, rfl⟩ (by decide +kernel) ⟨Nat.le_of_ble_eq_true rfl, Nat.le_of_ble_eq_true rfl⟩ (va_recv hK.1 hW.1 (ci := 2) (q0 := 0) rfl rfl) rfl hl.1 rfl (Nat.le_of_ble_eq_true rfl) dX0_dropReservation_16 ⟨Nat.le_of_ble_eq_true rfl, Nat.le_of_ble_eq_true rfl⟩ (fun H locs hW => ?_)
  cases hf
  exact k_vret G hr hlk hK hW dX0_dropReservation_19

set_option maxHeartbeats 4000000 in
set_option maxRecDepth 100000 in
theorem mX0_finishJobs (l : Launch) (D : va_G) (cy : ClassId) (h : Nat → Nat) (sz n : Nat) (σ : St) {r : Int32} {σ' : St} (hf : fX0_finishJobs n σ = some (r, σ')) : Mi l yX0_finishJobs (ws_ yX0_finishJobs cX0_finishJobs 3 (some .int)) { frames := 2, cells := 0, slots := 0, locals := 44 } D cy (wC cy h σ) (wC cy h σ') sz [.ref (h 103)] r := by
  refine Met.ofW (cc := cX0_finishJobs) (maxL := 3) (ret := (some .int)) (by decide) rfl ?_
  intro p e s m args below meth c s₁ B hml hv
  obtain ⟨rfl, hsz, hP, hK, hD0⟩ := hv
  subst hsz
  have hts := atoms_spec (ws := ws_ yX0_finishJobs cX0_finishJobs 3 (some .int)) B.pre
  have G : CallFix p m c cX0_finishJobs 3 s _ wA RX0 := ⟨B.exec, B.bytes, hml, findClass_of_methodNamed B.named, fun w h => hts w (List.mem_cons_of_mem _ h)⟩
  have hr := B.returns
  have hlk := B.notSynchronized
  have hW : KW D (va_A (wC cy h σ) s.heap.size) s.heap (wC cy h σ) s.heap [] := ⟨hP, hD0.self, va_S.rf⟩
  have hA : ∀ q, s.heap.size ≤ q → va_A (wC cy h σ) s.heap.size q := fun q h => Or.inr h
  have hl := lv_entry ([.ref (h 103)]) (n := 3) (Nat.le_of_ble_eq_true rfl)
  rw [lg_entry_eq]
  generalize (lg_sl ([.ref (h 103)]) ++ List.replicate (3 - (lg_sl ([.ref (h 103)])).length) Slot.unset).toArray = ls at hl ⊢
  have hl : lv_has ls 3 [(0, .ref (h 103))] := hl
  unfold fX0_finishJobs at hf
  refine lv_iconst (v := (0 : Int32)) G.1 G.2.1 dX0_finishJobs_0 (by decide) ?_
  refine lv_istore_n (lv' := [(1, .int (0 : Int32)), (0, .ref (h 103))]) G.1 G.2.1 dX0_finishJobs_1 rfl hl (by decide) rfl (fun ls hl => ?_)
  refine lv_iconst (v := (0 : Int32)) G.1 G.2.1 dX0_finishJobs_2 (by decide) ?_
  refine lv_istore_n (lv' := [(2, .int (0 : Int32)), (1, .int (0 : Int32)), (0, .ref (h 103))]) G.1 G.2.1 dX0_finishJobs_3 rfl hl (by decide) rfl (fun ls hl => ?_)
  have L4 : ∀ (fu : Nat) (y1 : Int32) (y2 : Int32) (s3 : St) (H : Heap) (locs : List Loc) (ls : Array Slot), lz3 (fX0_finishJobs_b4 n) fu y1 y2 s3 = some (r, σ') → KW D (va_A (wC cy h σ) s.heap.size) s.heap (wC cy h s3) H locs → lv_has ls 3 [(2, .int y1), (1, .int y2), (0, .ref (h 103))] → W p l e (headSpec (ws_ yX0_finishJobs cX0_finishJobs 3 (some .int)) { frames := 2, cells := 0, slots := 0, locals := 44 }).room s m (([.ref (h 103)] : List Value).toArray) below meth c H locs 0 0 (MQ below (va_Qi (fun (r' : Int32) (_ : Unit) => r' = r) (fun _ => KB D (va_A (wC cy h σ) s.heap.size) (wC cy h σ')) (va_A (wC cy h σ) s.heap.size)) (([.ref (h 103)] : List Value).toArray) s 0 0 (va_A (wC cy h σ) s.heap.size)) (F0 m 4 ls []) := by
    intro fu4
    induction fu4 with
    | zero => intro y1 y2 s3 H locs ls hf; cases hf
    | succ fu4 ih4 =>
      intro y1 y2 s3 H locs ls hf hW hl
      rw [lz3_s] at hf
      unfold fX0_finishJobs_b4 at hf
      refine lv_iload_n G.1 G.2.1 dX0_finishJobs_4 rfl (lv_at hl 0 rfl) ?_
      refine lv_aload_n G.1 G.2.1 dX0_finishJobs_5 rfl (lv_at hl 2 rfl) ?_
      refine k_get G inlX0 hK hW 0 rfl rfl 1 (by decide) q_2_7 rfl dX0_finishJobs_6 ?_
      refine k_get G inlX2 hK hW 9 rfl rfl 0 (by decide) q_7_11 rfl dX0_finishJobs_9 ?_
      refine lv_icmp_ge (tgt := 103) G.1 G.2.1 dX0_finishJobs_12 (by decide) (fun c12 => ?_) (fun c12 => ?_)
      · replace hf := it c12 hf
        refine lv_iload_n G.1 G.2.1 dX0_finishJobs_103 rfl (lv_at hl 1 rfl) ?_
        cases hf
        exact k_iret G hr hlk hK hW dX0_finishJobs_104
      · replace hf := ie c12 hf
        refine lv_aload_n G.1 G.2.1 dX0_finishJobs_15 rfl (lv_at hl 2 rfl) ?_
        refine k_get G inlX0 hK hW 0 rfl rfl 1 (by decide) q_2_7 rfl dX0_finishJobs_16 ?_
        refine k_get G inlX2 hK hW 9 rfl rfl 5 (by decide) q_7_12 rfl dX0_finishJobs_19 ?_
        refine lv_iload_n G.1 G.2.1 dX0_finishJobs_22 rfl (lv_at hl 0 rfl) ?_
        obtain ⟨v5, ev5, hf⟩ := ob hf
        refine k_ald G hK hW 14 rfl ev5 dX0_finishJobs_23 ?_
        refine lv_iconst (v := (1 : Int32)) G.1 G.2.1 dX0_finishJobs_24 (by decide) ?_
        refine lv_icmp_ne (tgt := 97) G.1 G.2.1 dX0_finishJobs_25 (by decide) (fun c25 => ?_) (fun c25 => ?_)
        · replace hf := ie c25 hf
          refine lv_iinc (v := (y1 + (1 : Int32))) (lv' := [(2, .int (y1 + (1 : Int32))), (1, .int y2), (0, .ref (h 103))]) G.1 G.2.1 dX0_finishJobs_97 hl (k := 0) rfl (congrArg (y1 + ·) (by decide)) (by decide) rfl (fun ls hl => ?_)
          refine lv_goto (tgt := 4) G.1 G.2.1 dX0_finishJobs_100 (by decide) ?_
          exact ih4 _ _ _ _ _ _ hf hW (lv_sub hl [0, 1, 2] rfl)
        · replace hf := it c25 hf
          refine lv_aload_n G.1 G.2.1 dX0_finishJobs_28 rfl (lv_at hl 2 rfl) ?_
          refine k_get G inlX0 hK hW 0 rfl rfl 4 (by decide) q_2_14 rfl dX0_finishJobs_29 ?_
          refine lv_aload_n G.1 G.2.1 dX0_finishJobs_32 rfl (lv_at hl 2 rfl) ?_
          refine k_get G inlX0 hK hW 0 rfl rfl 0 (by decide) q_2_3 rfl dX0_finishJobs_33 ?_
          refine k_get G inlX3 hK hW 4 rfl rfl 2 (by decide) q_7_13 rfl dX0_finishJobs_36 ?_
          refine lv_iload_n G.1 G.2.1 dX0_finishJobs_39 rfl (lv_at hl 0 rfl) ?_
          obtain ⟨v6, ev6, hf⟩ := ob hf
          refine k_ald G hK hW 7 rfl ev6 dX0_finishJobs_40 ?_
          refine lv_isub G.1 G.2.1 dX0_finishJobs_41 ?_
          refine lv_aload_n G.1 G.2.1 dX0_finishJobs_42 rfl (lv_at hl 2 rfl) ?_
          refine k_get G inlX0 hK hW 0 rfl rfl 1 (by decide) q_2_7 rfl dX0_finishJobs_43 ?_
          refine k_get G inlX2 hK hW 9 rfl rfl 4 (by decide) q_11_5 rfl dX0_finishJobs_46 ?_
          refine lv_iload_n G.1 G.2.1 dX0_finishJobs_49 rfl (lv_at hl 0 rfl) ?_
          obtain ⟨v7, ev7, hf⟩ := ob hf
          refine k_ald G hK hW 13 rfl ev7 dX0_finishJobs_50 ?_
          refine lv_icmp_ne (tgt := 97) G.1 G.2.1 dX0_finishJobs_51 (by decide) (fun c51 => ?_) (fun c51 => ?_)
          · replace hf := ie c51 hf
            refine lv_iinc (v := (y1 + (1 : Int32))) (lv' := [(2, .int (y1 + (1 : Int32))), (1, .int y2), (0, .ref (h 103))]) G.1 G.2.1 dX0_finishJobs_97 hl (k := 0) rfl (congrArg (y1 + ·) (by decide)) (by decide) rfl (fun ls hl => ?_)
            refine lv_goto (tgt := 4) G.1 G.2.1 dX0_finishJobs_100 (by decide) ?_
            exact ih4 _ _ _ _ _ _ hf hW (lv_sub hl [0, 1, 2] rfl)
          · replace hf := it c51 hf
            refine lv_aload_n G.1 G.2.1 dX0_finishJobs_54 rfl (lv_at hl 2 rfl) ?_
            refine lv_iload_n G.1 G.2.1 dX0_finishJobs_55 rfl (lv_at hl 0 rfl) ?_
            refine lv_iconst (v := (2 : Int32)) G.1 G.2.1 dX0_finishJobs_56 (by decide) ?_
            obtain ⟨s8, es8, hf⟩ := ob hf
            refine kc_v (wr := []) (w := wC cy h s3) (w' := wC cy h s8) (n := 2) (As := [.int y1, .int (2 : Int32)]) (C := RX0) G hK hA hW (mX0_endRun l D cy h _ n s3 y1 (2 : Int32) es8) (gV q_11_7 q_11_8 q_11_9 q_1_16 q_11_10) ⟨rfl, rfl⟩ (by decide +kernel) ⟨Nat.le_of_ble_eq_true rfl, Nat.le_of_ble_eq_true rfl⟩ (va_recv hK.1 hW.1 (ci := 2) (q0 := 0) rfl rfl) rfl hl.1 rfl (Nat.le_of_ble_eq_true rfl) dX0_finishJobs_57 ⟨Nat.le_of_ble_eq_true rfl, Nat.le_of_ble_eq_true rfl⟩ (fun H locs hW => ?_)
            refine lv_aload_n G.1 G.2.1 dX0_finishJobs_60 rfl (lv_at hl 2 rfl) ?_
            refine k_get G inlX0 hK hW 0 rfl rfl 0 (by decide) q_2_3 rfl dX0_finishJobs_61 ?_
            refine lv_iload_n G.1 G.2.1 dX0_finishJobs_64 rfl (lv_at hl 0 rfl) ?_
            obtain ⟨s9, es9, hf⟩ := ob hf
            refine kc_v (wr := []) (w := wC cy h s8) (w' := wC cy h s9) (n := 1) (As := [.int y1]) (C := RX3) G hK hA hW (mX3_clearSlot l D cy h _ n s8 y1 es9) (gV q_11_16 q_11_17 q_11_18 q_2_2 q_11_19) ⟨rfl, rfl⟩ (by decide +kernel) ⟨Nat.le_of_ble_eq_true rfl, Nat.le_of_ble_eq_true rfl⟩ (va_recv hK.1 hW.1 (ci := 5) (q0 := 4) rfl rfl) rfl hl.1 rfl (Nat.le_of_ble_eq_true rfl) dX0_finishJobs_65 ⟨Nat.le_of_ble_eq_true rfl, Nat.le_of_ble_eq_true rfl⟩ (fun H locs hW => ?_)
            refine lv_aload_n G.1 G.2.1 dX0_finishJobs_68 rfl (lv_at hl 2 rfl) ?_
            refine k_get G inlX0 hK hW 0 rfl rfl 1 (by decide) q_2_7 rfl dX0_finishJobs_69 ?_
            refine k_get G inlX2 hK hW 9 rfl rfl 10 (by decide) q_11_6 rfl dX0_finishJobs_72 ?_
            refine lv_iload_n G.1 G.2.1 dX0_finishJobs_75 rfl (lv_at hl 0 rfl) ?_
            refine lv_aload_n G.1 G.2.1 dX0_finishJobs_76 rfl (lv_at hl 2 rfl) ?_
            refine k_get G inlX0 hK hW 0 rfl rfl 4 (by decide) q_2_14 rfl dX0_finishJobs_77 ?_
            obtain ⟨s10, es10, hf⟩ := ob hf
            refine k_ast (w := wC cy h) G hK hW 19 13 24 rfl (fun _ => rfl) es10 dX0_finishJobs_80 (fun H locs hW => ?_)
            refine lv_aload_n G.1 G.2.1 dX0_finishJobs_81 rfl (lv_at hl 2 rfl) ?_
            refine k_get G inlX0 hK hW 0 rfl rfl 2 (by decide) q_2_11 rfl dX0_finishJobs_82 ?_
            refine lv_aload_n G.1 G.2.1 dX0_finishJobs_85 rfl (lv_at hl 2 rfl) ?_
            refine k_get G inlX0 hK hW 0 rfl rfl 4 (by decide) q_2_14 rfl dX0_finishJobs_86 ?_
            refine lv_iconst (v := (2 : Int32)) G.1 G.2.1 dX0_finishJobs_89 (by decide) ?_
            refine lv_iload_n G.1 G.2.1 dX0_finishJobs_90 rfl (lv_at hl 0 rfl) ?_
            obtain ⟨s11, es11, hf⟩ := ob hf
            refine kc_v (wr := []) (w := wC cy h s10) (w' := wC cy h s11) (n := 3) (As := [.int (s10 25 0), .int (2 : Int32), .int y1]) (C := RX1) G hK hA hW (mX1_note l D cy h _ n s10 (s10 25 0) (2 : Int32) y1 es11) (gV q_5_20 q_5_21 q_5_22 q_2_10 q_5_23) ⟨rfl, rfl⟩ (by decide +kernel) ⟨Nat.le_of_ble_eq_true rfl, Nat.le_of_ble_eq_true rfl⟩ (va_recv hK.1 hW.1 (ci := 3) (q0 := 22) rfl rfl) rfl hl.1 rfl (Nat.le_of_ble_eq_true rfl) dX0_finishJobs_91 ⟨Nat.le_of_ble_eq_true rfl, Nat.le_of_ble_eq_true rfl⟩ (fun H locs hW => ?_)
            refine lv_iinc (v := (y2 + (1 : Int32))) (lv' := [(1, .int (y2 + (1 : Int32))), (2, .int y1), (0, .ref (h 103))]) G.1 G.2.1 dX0_finishJobs_94 hl (k := 1) rfl (congrArg (y2 + ·) (by decide)) (by decide) rfl (fun ls hl => ?_)
            refine lv_iinc (v := (y1 + (1 : Int32))) (lv' := [(2, .int (y1 + (1 : Int32))), (1, .int (y2 + (1 : Int32))), (0, .ref (h 103))]) G.1 G.2.1 dX0_finishJobs_97 hl (k := 1) rfl (congrArg (y1 + ·) (by decide)) (by decide) rfl (fun ls hl => ?_)
            refine lv_goto (tgt := 4) G.1 G.2.1 dX0_finishJobs_100 (by decide) ?_
            exact ih4 _ _ _ _ _ _ hf hW (lv_sub hl [0, 1, 2] rfl)
  exact L4 _ _ _ _ _ _ _ hf hW (lv_sub hl [0, 1, 2] rfl)

set_option maxHeartbeats 4000000 in
set_option maxRecDepth 100000 in
theorem mX0_tick (l : Launch) (D : va_G) (cy : ClassId) (h : Nat → Nat) (sz n : Nat) (σ : St) {r : Int32} {σ' : St} (hf : fX0_tick n σ = some (r, σ')) : Mi l yX0_tick (ws_ yX0_tick cX0_tick 2 (some .int)) { frames := 5, cells := 0, slots := 0, locals := 119 } D cy (wC cy h σ) (wC cy h σ') sz [.ref (h 103)] r := by
  refine Met.ofW (cc := cX0_tick) (maxL := 2) (ret := (some .int)) (by decide) rfl ?_
  intro p e s m args below meth c s₁ B hml hv
  obtain ⟨rfl, hsz, hP, hK, hD0⟩ := hv
  subst hsz
  have hts := atoms_spec (ws := ws_ yX0_tick cX0_tick 2 (some .int)) B.pre
  have G : CallFix p m c cX0_tick 2 s _ wA RX0 := ⟨B.exec, B.bytes, hml, findClass_of_methodNamed B.named, fun w h => hts w (List.mem_cons_of_mem _ h)⟩
  have hr := B.returns
  have hlk := B.notSynchronized
  have hW : KW D (va_A (wC cy h σ) s.heap.size) s.heap (wC cy h σ) s.heap [] := ⟨hP, hD0.self, va_S.rf⟩
  have hA : ∀ q, s.heap.size ≤ q → va_A (wC cy h σ) s.heap.size q := fun q h => Or.inr h
  have hl := lv_entry ([.ref (h 103)]) (n := 2) (Nat.le_of_ble_eq_true rfl)
  rw [lg_entry_eq]
  generalize (lg_sl ([.ref (h 103)]) ++ List.replicate (2 - (lg_sl ([.ref (h 103)])).length) Slot.unset).toArray = ls at hl ⊢
  have hl : lv_has ls 2 [(0, .ref (h 103))] := hl
  unfold fX0_tick at hf
  refine lv_aload_n G.1 G.2.1 dX0_tick_0 rfl (lv_at hl 0 rfl) ?_
  refine lv_dup G.1 G.2.1 dX0_tick_1 rfl ?_
  refine k_get G inlX0 hK hW 0 rfl rfl 4 (by decide) q_2_14 rfl dX0_tick_2 ?_
  refine lv_iconst (v := (1 : Int32)) G.1 G.2.1 dX0_tick_5 (by decide) ?_
  refine lv_iadd G.1 G.2.1 dX0_tick_6 ?_
  obtain ⟨s1, es1, hf⟩ := ob hf
  refine k_put (w := wC cy h) G inlX0 tyX0 tyX0_ok nmX0 hK hW 0 25 rfl rfl 4 (by decide) q_2_14 rfl (by decide +kernel) (Nat.le_of_ble_eq_true rfl) rfl es1 dX0_tick_7 (fun H locs hW => ?_)
  refine lv_aload_n G.1 G.2.1 dX0_tick_10 rfl (lv_at hl 0 rfl) ?_
  obtain ⟨v2, s3, ev2, hf⟩ := ob2 hf
  refine kc_i (wr := []) (w := wC cy h s1) (w' := wC cy h s3) (n := 0) (As := []) (C := RX0) G hK hA hW (mX0_finishJobs l D cy h _ n s1  ev2) (gV q_11_1 q_11_2 q_11_3 q_1_16 q_11_4) ⟨rfl, rfl⟩ (by decide +kernel) ⟨Nat.le_of_ble_eq_true rfl, Nat.le_of_ble_eq_true rfl⟩ (va_recv hK.1 hW.1 (ci := 2) (q0 := 0) rfl rfl) rfl hl.1 rfl (Nat.le_of_ble_eq_true rfl) dX0_tick_11 ⟨Nat.le_of_ble_eq_true rfl, Nat.le_of_ble_eq_true rfl⟩ (fun H locs hW => ?_)
  refine lv_istore_n (lv' := [(1, .int v2), (0, .ref (h 103))]) G.1 G.2.1 dX0_tick_14 rfl hl (by decide) rfl (fun ls hl => ?_)
  refine lv_iload_n G.1 G.2.1 dX0_tick_15 rfl (lv_at hl 0 rfl) ?_
  refine lv_if_le (tgt := 23) G.1 G.2.1 dX0_tick_16 (by decide) (fun c16 => ?_) (fun c16 => ?_)
  · replace hf := it c16 hf
    refine lv_aload_n G.1 G.2.1 dX0_tick_23 rfl (lv_at hl 1 rfl) ?_
    obtain ⟨s4, es4, hf⟩ := ob hf
    refine kc_v (wr := []) (w := wC cy h s3) (w' := wC cy h s4) (n := 0) (As := []) (C := RX0) G hK hA hW (mX0_startJobs l D cy h _ n s3  es4) (gV q_7_7 q_7_8 q_7_9 q_1_16 q_7_10) ⟨rfl, rfl⟩ (by decide +kernel) ⟨Nat.le_of_ble_eq_true rfl, Nat.le_of_ble_eq_true rfl⟩ (va_recv hK.1 hW.1 (ci := 2) (q0 := 0) rfl rfl) rfl hl.1 rfl (Nat.le_of_ble_eq_true rfl) dX0_tick_24 ⟨Nat.le_of_ble_eq_true rfl, Nat.le_of_ble_eq_true rfl⟩ (fun H locs hW => ?_)
    refine lv_iload_n G.1 G.2.1 dX0_tick_27 rfl (lv_at hl 0 rfl) ?_
    cases hf
    exact k_iret G hr hlk hK hW dX0_tick_28
  · replace hf := ie c16 hf
    refine lv_aload_n G.1 G.2.1 dX0_tick_19 rfl (lv_at hl 1 rfl) ?_
    obtain ⟨s5, es5, hf⟩ := ob hf
    refine kc_v (wr := []) (w := wC cy h s3) (w' := wC cy h s5) (n := 0) (As := []) (C := RX0) G hK hA hW (mX0_replan l D cy h _ n s3  es5) (gV q_11_20 q_11_21 q_11_22 q_1_16 q_11_23) ⟨rfl, rfl⟩ (by decide +kernel) ⟨Nat.le_of_ble_eq_true rfl, Nat.le_of_ble_eq_true rfl⟩ (va_recv hK.1 hW.1 (ci := 2) (q0 := 0) rfl rfl) rfl hl.1 rfl (Nat.le_of_ble_eq_true rfl) dX0_tick_20 ⟨Nat.le_of_ble_eq_true rfl, Nat.le_of_ble_eq_true rfl⟩ (fun H locs hW => ?_)
    refine lv_aload_n G.1 G.2.1 dX0_tick_23 rfl (lv_at hl 1 rfl) ?_
    obtain ⟨s6, es6, hf⟩ := ob hf
    refine kc_v (wr := []) (w := wC cy h s5) (w' := wC cy h s6) (n := 0) (As := []) (C := RX0) G hK hA hW (mX0_startJobs l D cy h _ n s5  es6) (gV q_7_7 q_7_8 q_7_9 q_1_16 q_7_10) ⟨rfl, rfl⟩ (by decide +kernel) ⟨Nat.le_of_ble_eq_true rfl, Nat.le_of_ble_eq_true rfl⟩ (va_recv hK.1 hW.1 (ci := 2) (q0 := 0) rfl rfl) rfl hl.1 rfl (Nat.le_of_ble_eq_true rfl) dX0_tick_24 ⟨Nat.le_of_ble_eq_true rfl, Nat.le_of_ble_eq_true rfl⟩ (fun H locs hW => ?_)
    refine lv_iload_n G.1 G.2.1 dX0_tick_27 rfl (lv_at hl 0 rfl) ?_
    cases hf
    exact k_iret G hr hlk hK hW dX0_tick_28

set_option maxHeartbeats 4000000 in
set_option maxRecDepth 100000 in
theorem mX0_copyFrom (l : Launch) (D : va_G) (cy : ClassId) (h : Nat → Nat) (h2 : Nat → Nat) (sz n : Nat) (σ2 : St) (σ : St) {σ' : St} (hf : fX0_copyFrom n σ2 σ = some σ') : Mv l yX0_copyFrom (ws_ yX0_copyFrom cX0_copyFrom 2 none) { frames := 2, cells := 0, slots := 0, locals := 81 } D cy (wCC cy h h2 σ2 σ) (wCC cy h h2 σ2 σ') sz [.ref (h 103), .ref (h2 103)] := by
  refine Met.ofW (cc := cX0_copyFrom) (maxL := 2) (ret := none) (by decide) rfl ?_
  intro p e s m args below meth c s₁ B hml hv
  obtain ⟨rfl, hsz, hP, hK, hD0⟩ := hv
  subst hsz
  have hts := atoms_spec (ws := ws_ yX0_copyFrom cX0_copyFrom 2 none) B.pre
  have G : CallFix p m c cX0_copyFrom 2 s _ wA RX0 := ⟨B.exec, B.bytes, hml, findClass_of_methodNamed B.named, fun w h => hts w (List.mem_cons_of_mem _ h)⟩
  have hr := B.returns
  have hlk := B.notSynchronized
  have hW : KW D (va_A (wCC cy h h2 σ2 σ) s.heap.size) s.heap (wCC cy h h2 σ2 σ) s.heap [] := ⟨hP, hD0.self, va_S.rf⟩
  have hA : ∀ q, s.heap.size ≤ q → va_A (wCC cy h h2 σ2 σ) s.heap.size q := fun q h => Or.inr h
  have hl := lv_entry ([.ref (h 103), .ref (h2 103)]) (n := 2) (Nat.le_of_ble_eq_true rfl)
  rw [lg_entry_eq]
  generalize (lg_sl ([.ref (h 103), .ref (h2 103)]) ++ List.replicate (2 - (lg_sl ([.ref (h 103), .ref (h2 103)])).length) Slot.unset).toArray = ls at hl ⊢
  have hl : lv_has ls 2 [(0, .ref (h 103)), (1, .ref (h2 103))] := hl
  unfold fX0_copyFrom at hf
  refine lv_aload_n G.1 G.2.1 dX0_copyFrom_0 rfl (lv_at hl 0 rfl) ?_
  refine k_get G inlX0 hK hW 0 rfl rfl 0 (by decide) q_2_3 rfl dX0_copyFrom_1 ?_
  refine lv_aload_n G.1 G.2.1 dX0_copyFrom_4 rfl (lv_at hl 1 rfl) ?_
  refine k_get G inlX0 hK hW 26 rfl rfl 0 (by decide) q_2_3 rfl dX0_copyFrom_5 ?_
  obtain ⟨s1, es1, hf⟩ := ob hf
  refine kc_v (wr := []) (w := wCC cy h h2 σ2 σ) (w' := wCC cy h h2 σ2 s1) (n := 1) (As := [.ref (h2 100)]) (C := RX3) G hK hA hW (mX3_copyFrom l D cy h h2 _ n σ2 σ  es1) (gV q_34_8 q_34_9 q_34_10 q_2_2 q_34_11) ⟨rfl, rfl⟩ (by decide +kernel) ⟨Nat.le_of_ble_eq_true rfl, Nat.le_of_ble_eq_true rfl⟩ (va_recv hK.1 hW.1 (ci := 5) (q0 := 4) rfl rfl) rfl hl.1 rfl (Nat.le_of_ble_eq_true rfl) dX0_copyFrom_8 ⟨Nat.le_of_ble_eq_true rfl, Nat.le_of_ble_eq_true rfl⟩ (fun H locs hW => ?_)
  refine lv_aload_n G.1 G.2.1 dX0_copyFrom_11 rfl (lv_at hl 0 rfl) ?_
  refine k_get G inlX0 hK hW 0 rfl rfl 1 (by decide) q_2_7 rfl dX0_copyFrom_12 ?_
  refine lv_aload_n G.1 G.2.1 dX0_copyFrom_15 rfl (lv_at hl 1 rfl) ?_
  refine k_get G inlX0 hK hW 26 rfl rfl 1 (by decide) q_2_7 rfl dX0_copyFrom_16 ?_
  obtain ⟨s2, es2, hf⟩ := ob hf
  refine kc_v (wr := []) (w := wCC cy h h2 σ2 s1) (w' := wCC cy h h2 σ2 s2) (n := 1) (As := [.ref (h2 101)]) (C := RX2) G hK hA hW (mX2_copyFrom l D cy h h2 _ n σ2 s1  es2) (gV q_34_13 q_34_14 q_34_15 q_2_6 q_34_16) ⟨rfl, rfl⟩ (by decide +kernel) ⟨Nat.le_of_ble_eq_true rfl, Nat.le_of_ble_eq_true rfl⟩ (va_recv hK.1 hW.1 (ci := 4) (q0 := 9) rfl rfl) rfl hl.1 rfl (Nat.le_of_ble_eq_true rfl) dX0_copyFrom_19 ⟨Nat.le_of_ble_eq_true rfl, Nat.le_of_ble_eq_true rfl⟩ (fun H locs hW => ?_)
  refine lv_aload_n G.1 G.2.1 dX0_copyFrom_22 rfl (lv_at hl 0 rfl) ?_
  refine k_get G inlX0 hK hW 0 rfl rfl 2 (by decide) q_2_11 rfl dX0_copyFrom_23 ?_
  refine lv_aload_n G.1 G.2.1 dX0_copyFrom_26 rfl (lv_at hl 1 rfl) ?_
  refine k_get G inlX0 hK hW 26 rfl rfl 2 (by decide) q_2_11 rfl dX0_copyFrom_27 ?_
  obtain ⟨s3, es3, hf⟩ := ob hf
  refine kc_v (wr := []) (w := wCC cy h h2 σ2 s2) (w' := wCC cy h h2 σ2 s3) (n := 1) (As := [.ref (h2 102)]) (C := RX1) G hK hA hW (mX1_copyFrom l D cy h h2 _ n σ2 s2  es3) (gV q_34_18 q_34_19 q_34_20 q_2_10 q_34_21) ⟨rfl, rfl⟩ (by decide +kernel) ⟨Nat.le_of_ble_eq_true rfl, Nat.le_of_ble_eq_true rfl⟩ (va_recv hK.1 hW.1 (ci := 3) (q0 := 22) rfl rfl) rfl hl.1 rfl (Nat.le_of_ble_eq_true rfl) dX0_copyFrom_30 ⟨Nat.le_of_ble_eq_true rfl, Nat.le_of_ble_eq_true rfl⟩ (fun H locs hW => ?_)
  refine lv_aload_n G.1 G.2.1 dX0_copyFrom_33 rfl (lv_at hl 1 rfl) ?_
  refine k_get G inlX0 hK hW 26 rfl rfl 3 (by decide) q_2_13 rfl dX0_copyFrom_34 ?_
  refine lv_iconst (v := (0 : Int32)) G.1 G.2.1 dX0_copyFrom_37 (by decide) ?_
  refine lv_aload_n G.1 G.2.1 dX0_copyFrom_38 rfl (lv_at hl 0 rfl) ?_
  refine k_get G inlX0 hK hW 0 rfl rfl 3 (by decide) q_2_13 rfl dX0_copyFrom_39 ?_
  refine lv_iconst (v := (0 : Int32)) G.1 G.2.1 dX0_copyFrom_42 (by decide) ?_
  refine lv_aload_n G.1 G.2.1 dX0_copyFrom_43 rfl (lv_at hl 0 rfl) ?_
  refine k_get G inlX0 hK hW 0 rfl rfl 3 (by decide) q_2_13 rfl dX0_copyFrom_44 ?_
  refine va_alen (v := (64 : Int32)) G.1 G.2.1 hK.1 hW.1 1 0 rfl rfl rfl dX0_copyFrom_47 ?_
  obtain ⟨s4, es4, hf⟩ := ob hf
  refine k_cpy (w := wCC cy h h2 σ2) G hK hW 27 1 22 64 64 rfl rfl (fun _ => rfl) q_34_4 q_34_5 q_34_6 q_34_7 es4 hl.1 (Nat.le_of_ble_eq_true rfl) (Nat.le_of_ble_eq_true rfl) dX0_copyFrom_48 (fun H locs hW => ?_)
  refine lv_aload_n G.1 G.2.1 dX0_copyFrom_51 rfl (lv_at hl 0 rfl) ?_
  refine lv_aload_n G.1 G.2.1 dX0_copyFrom_52 rfl (lv_at hl 1 rfl) ?_
  refine k_get G inlX0 hK hW 26 rfl rfl 4 (by decide) q_2_14 rfl dX0_copyFrom_53 ?_
  obtain ⟨s5, es5, hf⟩ := ob hf
  refine k_put (w := wCC cy h h2 σ2) G inlX0 tyX0 tyX0_ok nmX0 hK hW 0 25 rfl rfl 4 (by decide) q_2_14 rfl (by decide +kernel) (Nat.le_of_ble_eq_true rfl) rfl es5 dX0_copyFrom_56 (fun H locs hW => ?_)
  refine lv_aload_n G.1 G.2.1 dX0_copyFrom_59 rfl (lv_at hl 0 rfl) ?_
  refine lv_aload_n G.1 G.2.1 dX0_copyFrom_60 rfl (lv_at hl 1 rfl) ?_
  refine k_get G inlX0 hK hW 26 rfl rfl 5 (by decide) q_2_15 rfl dX0_copyFrom_61 ?_
  obtain ⟨s6, es6, hf⟩ := ob hf
  refine k_put (w := wCC cy h h2 σ2) G inlX0 tyX0 tyX0_ok nmX0 hK hW 0 26 rfl rfl 5 (by decide) q_2_15 rfl (by decide +kernel) (Nat.le_of_ble_eq_true rfl) rfl es6 dX0_copyFrom_64 (fun H locs hW => ?_)
  refine lv_aload_n G.1 G.2.1 dX0_copyFrom_67 rfl (lv_at hl 0 rfl) ?_
  refine lv_aload_n G.1 G.2.1 dX0_copyFrom_68 rfl (lv_at hl 1 rfl) ?_
  refine k_get G inlX0 hK hW 26 rfl rfl 6 (by decide) q_2_16 rfl dX0_copyFrom_69 ?_
  obtain ⟨s7, es7, hf⟩ := ob hf
  refine k_putz (w := wCC cy h h2 σ2) G inlX0 tyX0 tyX0_ok nmX0 hK hW 0 27 rfl rfl 6 (by decide) q_2_16 rfl (by decide +kernel) (Nat.le_of_ble_eq_true rfl) rfl es7 dX0_copyFrom_72 (fun H locs hW => ?_)
  cases hf
  exact k_vret G hr hlk hK hW dX0_copyFrom_75
