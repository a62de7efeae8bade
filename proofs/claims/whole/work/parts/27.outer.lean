set_option maxHeartbeats 4000000 in
set_option maxRecDepth 100000 in
theorem mX4_submit (l : Launch) (hT : l.stackTraces = false) (D : va_G) (cy : ClassId) (h : Nat → Nat) (kp : Nat) (sz n : Nat) (σ : St) (x1 : Int32) (x2 : Int32) (x3 : Int32) (x4 : Int32) {o : XRg Int32} (hf : fX4_submit n σ x1 x2 x3 x4 = some o) : Xi l yX4_submit (ws_ yX4_submit cX4_submit 5 (some .int)) { frames := 6, cells := 1, slots := 6, locals := 120 } D cy (wB cy h kp) σ sz [.ref (h 104), .int x1, .int x2, .int x3, .int x4] o 1 6 := by
  refine vx_ofW (cc := cX4_submit) (maxL := 5) (ret := (some .int)) (by decide) rfl ?_
  intro p e s m args below meth c s₁ B hml htab hv
  obtain ⟨rfl, hsz, hP, hK, hD0, hX⟩ := hv
  subst hsz
  have hts := atoms_spec (ws := ws_ yX4_submit cX4_submit 5 (some .int)) B.pre
  have G : CallFix p m c cX4_submit 5 s _ wA RX4 := ⟨B.exec, B.bytes, hml, findClass_of_methodNamed B.named, fun w h => hts w (List.mem_cons_of_mem _ h)⟩
  have hr := B.returns
  have hlk := B.notSynchronized
  have hW : KW D (va_A (wB cy h kp σ) s.heap.size) s.heap (wB cy h kp σ) s.heap [] := ⟨hP, hD0.self, va_S.rf⟩
  have hA : ∀ q, s.heap.size ≤ q → va_A (wB cy h kp σ) s.heap.size q := fun q h => Or.inr h
  have hl := lv_entry ([.ref (h 104), .int x1, .int x2, .int x3, .int x4]) (n := 5) (Nat.le_of_ble_eq_true rfl)
  rw [lg_entry_eq]
  generalize (lg_sl ([.ref (h 104), .int x1, .int x2, .int x3, .int x4]) ++ List.replicate (5 - (lg_sl ([.ref (h 104), .int x1, .int x2, .int x3, .int x4])).length) Slot.unset).toArray = ls at hl ⊢
  have hl : lv_has ls 5 [(0, .ref (h 104)), (1, .int x1), (2, .int x2), (3, .int x3), (4, .int x4)] := hl
  unfold fX4_submit at hf
  refine lv_iload_n G.1 G.2.1 dX4_submit_0 rfl (lv_at hl 1 rfl) ?_
  obtain ⟨v1, ev1, hf⟩ := ob hf
  refine kc_s (n := 1) (As := [.int x1]) G hW (mX4_isUser l n x1 ev1) (gS q_5_2 q_5_3 q_1_2 q_5_4) ⟨rfl, rfl⟩ (by decide +kernel) ⟨Nat.le_of_ble_eq_true rfl, Nat.le_of_ble_eq_true rfl⟩ rfl hl.1 rfl (Nat.le_of_ble_eq_true rfl) dX4_submit_1 ⟨Nat.le_of_ble_eq_true rfl, Nat.le_of_ble_eq_true rfl⟩ (fun H locs hW => ?_)
  refine lv_if_eq (tgt := 33) G.1 G.2.1 dX4_submit_4 (by decide) (fun c4 => ?_) (fun c4 => ?_)
  · replace hf := it c4 hf
    exact kx_throw (w := wB cy h kp) G hT hX hW htab hlk hl.1 (41, xIA) (List.mem_of_getElem? (i := 0) rfl) (39, "a number is out of range") (List.mem_of_getElem? (i := 18) rfl) q_4_20 q_4_21 dX4_submit_33 dX4_submit_36 dX4_submit_37 dX4_submit_39 dX4_submit_42 (Nat.le_of_ble_eq_true rfl) (Nat.le_of_ble_eq_true rfl) (Nat.le_of_ble_eq_true rfl) (Nat.le_of_ble_eq_true rfl) (Option.some.inj hf).symm (Nat.le_of_ble_eq_true rfl) (Nat.le_of_ble_eq_true rfl)
  · replace hf := ie c4 hf
    refine lv_iload_n G.1 G.2.1 dX4_submit_7 rfl (lv_at hl 2 rfl) ?_
    obtain ⟨v2, ev2, hf⟩ := ob hf
    refine kc_s (n := 1) (As := [.int x2]) G hW (mX4_isOrder l n x2 ev2) (gS q_5_5 q_5_6 q_1_2 q_5_7) ⟨rfl, rfl⟩ (by decide +kernel) ⟨Nat.le_of_ble_eq_true rfl, Nat.le_of_ble_eq_true rfl⟩ rfl hl.1 rfl (Nat.le_of_ble_eq_true rfl) dX4_submit_8 ⟨Nat.le_of_ble_eq_true rfl, Nat.le_of_ble_eq_true rfl⟩ (fun H locs hW => ?_)
    refine lv_if_eq (tgt := 33) G.1 G.2.1 dX4_submit_11 (by decide) (fun c11 => ?_) (fun c11 => ?_)
    · replace hf := it c11 hf
      exact kx_throw (w := wB cy h kp) G hT hX hW htab hlk hl.1 (41, xIA) (List.mem_of_getElem? (i := 0) rfl) (39, "a number is out of range") (List.mem_of_getElem? (i := 18) rfl) q_4_20 q_4_21 dX4_submit_33 dX4_submit_36 dX4_submit_37 dX4_submit_39 dX4_submit_42 (Nat.le_of_ble_eq_true rfl) (Nat.le_of_ble_eq_true rfl) (Nat.le_of_ble_eq_true rfl) (Nat.le_of_ble_eq_true rfl) (Option.some.inj hf).symm (Nat.le_of_ble_eq_true rfl) (Nat.le_of_ble_eq_true rfl)
    · replace hf := ie c11 hf
      refine lv_iload_n G.1 G.2.1 dX4_submit_14 rfl (lv_at hl 3 rfl) ?_
      obtain ⟨v3, ev3, hf⟩ := ob hf
      refine kc_s (n := 1) (As := [.int x3]) G hW (mX4_isLength l n x3 ev3) (gS q_5_8 q_5_9 q_1_2 q_5_10) ⟨rfl, rfl⟩ (by decide +kernel) ⟨Nat.le_of_ble_eq_true rfl, Nat.le_of_ble_eq_true rfl⟩ rfl hl.1 rfl (Nat.le_of_ble_eq_true rfl) dX4_submit_15 ⟨Nat.le_of_ble_eq_true rfl, Nat.le_of_ble_eq_true rfl⟩ (fun H locs hW => ?_)
      refine lv_if_eq (tgt := 33) G.1 G.2.1 dX4_submit_18 (by decide) (fun c18 => ?_) (fun c18 => ?_)
      · replace hf := it c18 hf
        exact kx_throw (w := wB cy h kp) G hT hX hW htab hlk hl.1 (41, xIA) (List.mem_of_getElem? (i := 0) rfl) (39, "a number is out of range") (List.mem_of_getElem? (i := 18) rfl) q_4_20 q_4_21 dX4_submit_33 dX4_submit_36 dX4_submit_37 dX4_submit_39 dX4_submit_42 (Nat.le_of_ble_eq_true rfl) (Nat.le_of_ble_eq_true rfl) (Nat.le_of_ble_eq_true rfl) (Nat.le_of_ble_eq_true rfl) (Option.some.inj hf).symm (Nat.le_of_ble_eq_true rfl) (Nat.le_of_ble_eq_true rfl)
      · replace hf := ie c18 hf
        refine lv_iload G.1 G.2.1 dX4_submit_21 (lv_at hl 4 rfl) ?_
        refine lv_iconst (v := (1 : Int32)) G.1 G.2.1 dX4_submit_23 (by decide) ?_
        refine lv_icmp_lt (tgt := 33) G.1 G.2.1 dX4_submit_24 (by decide) (fun c24 => ?_) (fun c24 => ?_)
        · replace hf := it c24 hf
          exact kx_throw (w := wB cy h kp) G hT hX hW htab hlk hl.1 (41, xIA) (List.mem_of_getElem? (i := 0) rfl) (39, "a number is out of range") (List.mem_of_getElem? (i := 18) rfl) q_4_20 q_4_21 dX4_submit_33 dX4_submit_36 dX4_submit_37 dX4_submit_39 dX4_submit_42 (Nat.le_of_ble_eq_true rfl) (Nat.le_of_ble_eq_true rfl) (Nat.le_of_ble_eq_true rfl) (Nat.le_of_ble_eq_true rfl) (Option.some.inj hf).symm (Nat.le_of_ble_eq_true rfl) (Nat.le_of_ble_eq_true rfl)
        · replace hf := ie c24 hf
          refine lv_iload G.1 G.2.1 dX4_submit_27 (lv_at hl 4 rfl) ?_
          refine lv_iload_n G.1 G.2.1 dX4_submit_29 rfl (lv_at hl 3 rfl) ?_
          refine lv_icmp_le (tgt := 43) G.1 G.2.1 dX4_submit_30 (by decide) (fun c30 => ?_) (fun c30 => ?_)
          · replace hf := it c30 hf
            refine lv_aload_n G.1 G.2.1 dX4_submit_43 rfl (lv_at hl 0 rfl) ?_
            refine k_get G inlX4 hK hW 0 rfl rfl 0 (by decide) q_1_17 rfl dX4_submit_44 ?_
            refine k_get G inlX0 hK hW 1 rfl rfl 1 (by decide) q_5_0 rfl dX4_submit_47 ?_
            refine k_get G inlX2 hK hW 10 rfl rfl 0 (by decide) q_5_1 rfl dX4_submit_50 ?_
            refine lv_bipush (v := (24 : Int32)) G.1 G.2.1 dX4_submit_53 (by decide) ?_
            refine lv_icmp_lt (tgt := 68) G.1 G.2.1 dX4_submit_55 (by decide) (fun c55 => ?_) (fun c55 => ?_)
            · replace hf := it c55 hf
              refine lv_aload_n G.1 G.2.1 dX4_submit_68 rfl (lv_at hl 0 rfl) ?_
              refine k_get G inlX4 hK hW 0 rfl rfl 0 (by decide) q_1_17 rfl dX4_submit_69 ?_
              refine lv_iload_n G.1 G.2.1 dX4_submit_72 rfl (lv_at hl 1 rfl) ?_
              refine lv_iload_n G.1 G.2.1 dX4_submit_73 rfl (lv_at hl 2 rfl) ?_
              refine lv_iload_n G.1 G.2.1 dX4_submit_74 rfl (lv_at hl 3 rfl) ?_
              refine lv_iload G.1 G.2.1 dX4_submit_75 (lv_at hl 4 rfl) ?_
              obtain ⟨v4, s5, ev4, hf⟩ := ob2 hf
              refine kc_i (wr := [(h 104, .inr (6, [.ref (h 103), .ref kp, .int (σ 28 0), .int (σ 29 0)]))]) (w := wC cy h σ) (w' := wC cy h s5) (n := 4) (As := [.int x1, .int x2, .int x3, .int x4]) (C := RX0) G hK hA hW (mX0_addJob l D cy h _ n σ x1 x2 x3 x4 ev4) (gV q_5_11 q_5_12 q_5_13 q_1_16 q_5_14) ⟨rfl, rfl⟩ (by decide +kernel) ⟨Nat.le_of_ble_eq_true rfl, Nat.le_of_ble_eq_true rfl⟩ (va_recv hK.1 hW.1 (ci := 2) (q0 := 1) rfl rfl) rfl hl.1 rfl (Nat.le_of_ble_eq_true rfl) dX4_submit_77 ⟨Nat.le_of_ble_eq_true rfl, Nat.le_of_ble_eq_true rfl⟩ (fun H locs hW => ?_)
              obtain ⟨s6, es6, hf⟩ := ob hf
              replace hW : KW D (va_A (wB cy h kp σ) s.heap.size) s.heap (wB cy h kp s6) H locs := by cases es6; exact hW
              exact kx_iret (w := wB cy h kp) G hr hlk hW (Option.some.inj hf).symm (Nat.le_of_ble_eq_true rfl) (Nat.le_of_ble_eq_true rfl) dX4_submit_80
            · replace hf := ie c55 hf
              exact kx_throw (w := wB cy h kp) G hT hX hW htab hlk hl.1 (57, xIS) (List.mem_of_getElem? (i := 1) rfl) (55, "there are 24 jobs") (List.mem_of_getElem? (i := 19) rfl) q_4_22 q_4_23 dX4_submit_58 dX4_submit_61 dX4_submit_62 dX4_submit_64 dX4_submit_67 (Nat.le_of_ble_eq_true rfl) (Nat.le_of_ble_eq_true rfl) (Nat.le_of_ble_eq_true rfl) (Nat.le_of_ble_eq_true rfl) (Option.some.inj hf).symm (Nat.le_of_ble_eq_true rfl) (Nat.le_of_ble_eq_true rfl)
          · replace hf := ie c30 hf
            exact kx_throw (w := wB cy h kp) G hT hX hW htab hlk hl.1 (41, xIA) (List.mem_of_getElem? (i := 0) rfl) (39, "a number is out of range") (List.mem_of_getElem? (i := 18) rfl) q_4_20 q_4_21 dX4_submit_33 dX4_submit_36 dX4_submit_37 dX4_submit_39 dX4_submit_42 (Nat.le_of_ble_eq_true rfl) (Nat.le_of_ble_eq_true rfl) (Nat.le_of_ble_eq_true rfl) (Nat.le_of_ble_eq_true rfl) (Option.some.inj hf).symm (Nat.le_of_ble_eq_true rfl) (Nat.le_of_ble_eq_true rfl)

set_option maxHeartbeats 4000000 in
set_option maxRecDepth 100000 in
theorem mX4_advance (l : Launch) (hT : l.stackTraces = false) (D : va_G) (cy : ClassId) (h : Nat → Nat) (kp : Nat) (sz n : Nat) (σ : St) (x1 : Int32) {o : XRg Int32} (hf : fX4_advance n σ x1 = some o) : Xi l yX4_advance (ws_ yX4_advance cX4_advance 4 (some .int)) { frames := 6, cells := 1, slots := 6, locals := 140 } D cy (wB cy h kp) σ sz [.ref (h 104), .int x1] o 1 6 := by
  refine vx_ofW (cc := cX4_advance) (maxL := 4) (ret := (some .int)) (by decide) rfl ?_
  intro p e s m args below meth c s₁ B hml htab hv
  obtain ⟨rfl, hsz, hP, hK, hD0, hX⟩ := hv
  subst hsz
  have hts := atoms_spec (ws := ws_ yX4_advance cX4_advance 4 (some .int)) B.pre
  have G : CallFix p m c cX4_advance 4 s _ wA RX4 := ⟨B.exec, B.bytes, hml, findClass_of_methodNamed B.named, fun w h => hts w (List.mem_cons_of_mem _ h)⟩
  have hr := B.returns
  have hlk := B.notSynchronized
  have hW : KW D (va_A (wB cy h kp σ) s.heap.size) s.heap (wB cy h kp σ) s.heap [] := ⟨hP, hD0.self, va_S.rf⟩
  have hA : ∀ q, s.heap.size ≤ q → va_A (wB cy h kp σ) s.heap.size q := fun q h => Or.inr h
  have hl := lv_entry ([.ref (h 104), .int x1]) (n := 4) (Nat.le_of_ble_eq_true rfl)
  rw [lg_entry_eq]
  generalize (lg_sl ([.ref (h 104), .int x1]) ++ List.replicate (4 - (lg_sl ([.ref (h 104), .int x1])).length) Slot.unset).toArray = ls at hl ⊢
  have hl : lv_has ls 4 [(0, .ref (h 104)), (1, .int x1)] := hl
  unfold fX4_advance at hf
  refine lv_iload_n G.1 G.2.1 dX4_advance_0 rfl (lv_at hl 1 rfl) ?_
  refine lv_iconst (v := (1 : Int32)) G.1 G.2.1 dX4_advance_1 (by decide) ?_
  refine lv_icmp_lt (tgt := 11) G.1 G.2.1 dX4_advance_2 (by decide) (fun c2 => ?_) (fun c2 => ?_)
  · replace hf := it c2 hf
    exact kx_throw (w := wB cy h kp) G hT hX hW htab hlk hl.1 (41, xIA) (List.mem_of_getElem? (i := 0) rfl) (62, "the number of ticks is out of range") (List.mem_of_getElem? (i := 20) rfl) q_4_20 q_4_21 dX4_advance_11 dX4_advance_14 dX4_advance_15 dX4_advance_17 dX4_advance_20 (Nat.le_of_ble_eq_true rfl) (Nat.le_of_ble_eq_true rfl) (Nat.le_of_ble_eq_true rfl) (Nat.le_of_ble_eq_true rfl) (Option.some.inj hf).symm (Nat.le_of_ble_eq_true rfl) (Nat.le_of_ble_eq_true rfl)
  · replace hf := ie c2 hf
    refine lv_iload_n G.1 G.2.1 dX4_advance_5 rfl (lv_at hl 1 rfl) ?_
    refine lv_bipush (v := (50 : Int32)) G.1 G.2.1 dX4_advance_6 (by decide) ?_
    refine lv_icmp_le (tgt := 21) G.1 G.2.1 dX4_advance_8 (by decide) (fun c8 => ?_) (fun c8 => ?_)
    · replace hf := it c8 hf
      refine lv_aload_n G.1 G.2.1 dX4_advance_21 rfl (lv_at hl 0 rfl) ?_
      refine k_get G inlX4 hK hW 0 rfl rfl 0 (by decide) q_1_17 rfl dX4_advance_22 ?_
      refine k_get G inlX0 hK hW 1 rfl rfl 4 (by decide) q_10_20 rfl dX4_advance_25 ?_
      refine lv_iload_n G.1 G.2.1 dX4_advance_28 rfl (lv_at hl 1 rfl) ?_
      refine lv_iadd G.1 G.2.1 dX4_advance_29 ?_
      refine lv_sipush (v := (1000 : Int32)) G.1 G.2.1 dX4_advance_30 (by decide) ?_
      refine lv_icmp_le (tgt := 46) G.1 G.2.1 dX4_advance_33 (by decide) (fun c33 => ?_) (fun c33 => ?_)
      · replace hf := it c33 hf
        refine lv_iconst (v := (0 : Int32)) G.1 G.2.1 dX4_advance_46 (by decide) ?_
        refine lv_istore_n (lv' := [(2, .int (0 : Int32)), (0, .ref (h 104)), (1, .int x1)]) G.1 G.2.1 dX4_advance_47 rfl hl (by decide) rfl (fun ls hl => ?_)
        refine lv_iconst (v := (0 : Int32)) G.1 G.2.1 dX4_advance_48 (by decide) ?_
        refine lv_istore_n (lv' := [(3, .int (0 : Int32)), (2, .int (0 : Int32)), (0, .ref (h 104)), (1, .int x1)]) G.1 G.2.1 dX4_advance_49 rfl hl (by decide) rfl (fun ls hl => ?_)
        have L50 : ∀ (fu : Nat) (y1 : Int32) (y2 : Int32) (s3 : St) (H : Heap) (locs : List Loc) (ls : Array Slot), lz3 (fX4_advance_b50 n x1) fu y1 y2 s3 = some o → KW D (va_A (wB cy h kp σ) s.heap.size) s.heap (wB cy h kp s3) H locs → lv_has ls 4 [(3, .int y1), (2, .int y2), (0, .ref (h 104)), (1, .int x1)] → W p l e (headSpec (ws_ yX4_advance cX4_advance 4 (some .int)) { frames := 6, cells := 1, slots := 6, locals := 140 }).room s m (([.ref (h 104), .int x1] : List Value).toArray) below meth c H locs 0 0 (vx_MQ below (XQi D (va_A (wB cy h kp σ) s.heap.size) (wB cy h kp) o) (XCo D (va_A (wB cy h kp σ) s.heap.size) (wB cy h kp) o) (([.ref (h 104), .int x1] : List Value).toArray) s 1 6 (va_A (wB cy h kp σ) s.heap.size)) (F0 m 50 ls []) := by
          intro fu50
          induction fu50 with
          | zero => intro y1 y2 s3 H locs ls hf; cases hf
          | succ fu50 ih50 =>
            intro y1 y2 s3 H locs ls hf hW hl
            rw [lz3_s] at hf
            unfold fX4_advance_b50 at hf
            refine lv_iload_n G.1 G.2.1 dX4_advance_50 rfl (lv_at hl 0 rfl) ?_
            refine lv_iload_n G.1 G.2.1 dX4_advance_51 rfl (lv_at hl 3 rfl) ?_
            refine lv_icmp_ge (tgt := 71) G.1 G.2.1 dX4_advance_52 (by decide) (fun c52 => ?_) (fun c52 => ?_)
            · replace hf := it c52 hf
              refine lv_iload_n G.1 G.2.1 dX4_advance_71 rfl (lv_at hl 1 rfl) ?_
              exact kx_iret (w := wB cy h kp) G hr hlk hW (Option.some.inj hf).symm (Nat.le_of_ble_eq_true rfl) (Nat.le_of_ble_eq_true rfl) dX4_advance_72
            · replace hf := ie c52 hf
              refine lv_iload_n G.1 G.2.1 dX4_advance_55 rfl (lv_at hl 1 rfl) ?_
              refine lv_aload_n G.1 G.2.1 dX4_advance_56 rfl (lv_at hl 2 rfl) ?_
              refine k_get G inlX4 hK hW 0 rfl rfl 0 (by decide) q_1_17 rfl dX4_advance_57 ?_
              obtain ⟨v5, s6, ev5, hf⟩ := ob2 hf
              refine kc_i (wr := [(h 104, .inr (6, [.ref (h 103), .ref kp, .int (s3 28 0), .int (s3 29 0)]))]) (w := wC cy h s3) (w' := wC cy h s6) (n := 0) (As := []) (C := RX0) G hK hA hW (mX0_tick l D cy h _ n s3  ev5) (gV q_10_21 q_10_22 q_10_23 q_1_16 q_11_0) ⟨rfl, rfl⟩ (by decide +kernel) ⟨Nat.le_of_ble_eq_true rfl, Nat.le_of_ble_eq_true rfl⟩ (va_recv hK.1 hW.1 (ci := 2) (q0 := 1) rfl rfl) rfl hl.1 rfl (Nat.le_of_ble_eq_true rfl) dX4_advance_60 ⟨Nat.le_of_ble_eq_true rfl, Nat.le_of_ble_eq_true rfl⟩ (fun H locs hW => ?_)
              obtain ⟨s7, es7, hf⟩ := ob hf
              replace hW : KW D (va_A (wB cy h kp σ) s.heap.size) s.heap (wB cy h kp s7) H locs := by cases es7; exact hW
              refine lv_iadd G.1 G.2.1 dX4_advance_63 ?_
              refine lv_istore_n (lv' := [(2, .int (y2 + v5)), (3, .int y1), (0, .ref (h 104)), (1, .int x1)]) G.1 G.2.1 dX4_advance_64 rfl hl (by decide) rfl (fun ls hl => ?_)
              refine lv_iinc (v := (y1 + (1 : Int32))) (lv' := [(3, .int (y1 + (1 : Int32))), (2, .int (y2 + v5)), (0, .ref (h 104)), (1, .int x1)]) G.1 G.2.1 dX4_advance_65 hl (k := 1) rfl (congrArg (y1 + ·) (by decide)) (by decide) rfl (fun ls hl => ?_)
              refine lv_goto (tgt := 50) G.1 G.2.1 dX4_advance_68 (by decide) ?_
              exact ih50 _ _ _ _ _ _ hf hW (lv_sub hl [0, 1, 2, 3] rfl)
        exact L50 _ _ _ _ _ _ _ hf hW (lv_sub hl [0, 1, 2, 3] rfl)
      · replace hf := ie c33 hf
        exact kx_throw (w := wB cy h kp) G hT hX hW htab hlk hl.1 (57, xIS) (List.mem_of_getElem? (i := 1) rfl) (67, "the clock would become greater than 1000") (List.mem_of_getElem? (i := 21) rfl) q_4_22 q_4_23 dX4_advance_36 dX4_advance_39 dX4_advance_40 dX4_advance_42 dX4_advance_45 (Nat.le_of_ble_eq_true rfl) (Nat.le_of_ble_eq_true rfl) (Nat.le_of_ble_eq_true rfl) (Nat.le_of_ble_eq_true rfl) (Option.some.inj hf).symm (Nat.le_of_ble_eq_true rfl) (Nat.le_of_ble_eq_true rfl)
    · replace hf := ie c8 hf
      exact kx_throw (w := wB cy h kp) G hT hX hW htab hlk hl.1 (41, xIA) (List.mem_of_getElem? (i := 0) rfl) (62, "the number of ticks is out of range") (List.mem_of_getElem? (i := 20) rfl) q_4_20 q_4_21 dX4_advance_11 dX4_advance_14 dX4_advance_15 dX4_advance_17 dX4_advance_20 (Nat.le_of_ble_eq_true rfl) (Nat.le_of_ble_eq_true rfl) (Nat.le_of_ble_eq_true rfl) (Nat.le_of_ble_eq_true rfl) (Option.some.inj hf).symm (Nat.le_of_ble_eq_true rfl) (Nat.le_of_ble_eq_true rfl)

set_option maxHeartbeats 4000000 in
set_option maxRecDepth 100000 in
theorem mX4_checkJob (l : Launch) (hT : l.stackTraces = false) (D : va_G) (cy : ClassId) (h : Nat → Nat) (kp : Nat) (sz n : Nat) (σ : St) (x1 : Int32) {o : XRg Int32} (hf : fX4_checkJob n σ x1 = some o) : Xv l yX4_checkJob (ws_ yX4_checkJob cX4_checkJob 2 none) { frames := 6, cells := 1, slots := 6, locals := 90 } D cy (wB cy h kp) σ sz [.ref (h 104), .int x1] o 1 6 := by
  refine vx_ofW (cc := cX4_checkJob) (maxL := 2) (ret := none) (by decide) rfl ?_
  intro p e s m args below meth c s₁ B hml htab hv
  obtain ⟨rfl, hsz, hP, hK, hD0, hX⟩ := hv
  subst hsz
  have hts := atoms_spec (ws := ws_ yX4_checkJob cX4_checkJob 2 none) B.pre
  have G : CallFix p m c cX4_checkJob 2 s _ wA RX4 := ⟨B.exec, B.bytes, hml, findClass_of_methodNamed B.named, fun w h => hts w (List.mem_cons_of_mem _ h)⟩
  have hr := B.returns
  have hlk := B.notSynchronized
  have hW : KW D (va_A (wB cy h kp σ) s.heap.size) s.heap (wB cy h kp σ) s.heap [] := ⟨hP, hD0.self, va_S.rf⟩
  have hA : ∀ q, s.heap.size ≤ q → va_A (wB cy h kp σ) s.heap.size q := fun q h => Or.inr h
  have hl := lv_entry ([.ref (h 104), .int x1]) (n := 2) (Nat.le_of_ble_eq_true rfl)
  rw [lg_entry_eq]
  generalize (lg_sl ([.ref (h 104), .int x1]) ++ List.replicate (2 - (lg_sl ([.ref (h 104), .int x1])).length) Slot.unset).toArray = ls at hl ⊢
  have hl : lv_has ls 2 [(0, .ref (h 104)), (1, .int x1)] := hl
  unfold fX4_checkJob at hf
  refine lv_iload_n G.1 G.2.1 dX4_checkJob_0 rfl (lv_at hl 1 rfl) ?_
  refine lv_if_lt (tgt := 18) G.1 G.2.1 dX4_checkJob_1 (by decide) (fun c1 => ?_) (fun c1 => ?_)
  · replace hf := it c1 hf
    exact kx_throw (w := wB cy h kp) G hT hX hW htab hlk hl.1 (165, xIO) (List.mem_of_getElem? (i := 2) rfl) (249, "there is no such job") (List.mem_of_getElem? (i := 13) rfl) q_14_6 q_14_7 dX4_checkJob_18 dX4_checkJob_21 dX4_checkJob_22 dX4_checkJob_24 dX4_checkJob_27 (Nat.le_of_ble_eq_true rfl) (Nat.le_of_ble_eq_true rfl) (Nat.le_of_ble_eq_true rfl) (Nat.le_of_ble_eq_true rfl) (Option.some.inj hf).symm (Nat.le_of_ble_eq_true rfl) (Nat.le_of_ble_eq_true rfl)
  · replace hf := ie c1 hf
    refine lv_iload_n G.1 G.2.1 dX4_checkJob_4 rfl (lv_at hl 1 rfl) ?_
    refine lv_aload_n G.1 G.2.1 dX4_checkJob_5 rfl (lv_at hl 0 rfl) ?_
    refine k_get G inlX4 hK hW 0 rfl rfl 0 (by decide) q_1_17 rfl dX4_checkJob_6 ?_
    refine k_get G inlX0 hK hW 1 rfl rfl 1 (by decide) q_5_0 rfl dX4_checkJob_9 ?_
    refine k_get G inlX2 hK hW 10 rfl rfl 0 (by decide) q_5_1 rfl dX4_checkJob_12 ?_
    refine lv_icmp_lt (tgt := 28) G.1 G.2.1 dX4_checkJob_15 (by decide) (fun c15 => ?_) (fun c15 => ?_)
    · replace hf := it c15 hf
      exact kx_vret (w := wB cy h kp) G hr hlk hW (Option.some.inj hf).symm (Nat.le_of_ble_eq_true rfl) (Nat.le_of_ble_eq_true rfl) dX4_checkJob_28
    · replace hf := ie c15 hf
      exact kx_throw (w := wB cy h kp) G hT hX hW htab hlk hl.1 (165, xIO) (List.mem_of_getElem? (i := 2) rfl) (249, "there is no such job") (List.mem_of_getElem? (i := 13) rfl) q_14_6 q_14_7 dX4_checkJob_18 dX4_checkJob_21 dX4_checkJob_22 dX4_checkJob_24 dX4_checkJob_27 (Nat.le_of_ble_eq_true rfl) (Nat.le_of_ble_eq_true rfl) (Nat.le_of_ble_eq_true rfl) (Nat.le_of_ble_eq_true rfl) (Option.some.inj hf).symm (Nat.le_of_ble_eq_true rfl) (Nat.le_of_ble_eq_true rfl)

set_option maxHeartbeats 4000000 in
set_option maxRecDepth 100000 in
theorem mX4_checkAllocated (l : Launch) (hT : l.stackTraces = false) (D : va_G) (cy : ClassId) (h : Nat → Nat) (kp : Nat) (sz n : Nat) (σ : St) (x1 : Int32) {o : XRg Int32} (hf : fX4_checkAllocated n σ x1 = some o) : Xv l yX4_checkAllocated (ws_ yX4_checkAllocated cX4_checkAllocated 3 none) { frames := 6, cells := 1, slots := 6, locals := 90 } D cy (wB cy h kp) σ sz [.ref (h 104), .int x1] o 1 6 := by
  refine vx_ofW (cc := cX4_checkAllocated) (maxL := 3) (ret := none) (by decide) rfl ?_
  intro p e s m args below meth c s₁ B hml htab hv
  obtain ⟨rfl, hsz, hP, hK, hD0, hX⟩ := hv
  subst hsz
  have hts := atoms_spec (ws := ws_ yX4_checkAllocated cX4_checkAllocated 3 none) B.pre
  have G : CallFix p m c cX4_checkAllocated 3 s _ wA RX4 := ⟨B.exec, B.bytes, hml, findClass_of_methodNamed B.named, fun w h => hts w (List.mem_cons_of_mem _ h)⟩
  have hr := B.returns
  have hlk := B.notSynchronized
  have hW : KW D (va_A (wB cy h kp σ) s.heap.size) s.heap (wB cy h kp σ) s.heap [] := ⟨hP, hD0.self, va_S.rf⟩
  have hA : ∀ q, s.heap.size ≤ q → va_A (wB cy h kp σ) s.heap.size q := fun q h => Or.inr h
  have hl := lv_entry ([.ref (h 104), .int x1]) (n := 3) (Nat.le_of_ble_eq_true rfl)
  rw [lg_entry_eq]
  generalize (lg_sl ([.ref (h 104), .int x1]) ++ List.replicate (3 - (lg_sl ([.ref (h 104), .int x1])).length) Slot.unset).toArray = ls at hl ⊢
  have hl : lv_has ls 3 [(0, .ref (h 104)), (1, .int x1)] := hl
  unfold fX4_checkAllocated at hf
  refine lv_aload_n G.1 G.2.1 dX4_checkAllocated_0 rfl (lv_at hl 0 rfl) ?_
  refine k_get G inlX4 hK hW 0 rfl rfl 0 (by decide) q_1_17 rfl dX4_checkAllocated_1 ?_
  refine k_get G inlX0 hK hW 1 rfl rfl 1 (by decide) q_5_0 rfl dX4_checkAllocated_4 ?_
  refine k_get G inlX2 hK hW 10 rfl rfl 5 (by decide) q_14_1 rfl dX4_checkAllocated_7 ?_
  refine lv_iload_n G.1 G.2.1 dX4_checkAllocated_10 rfl (lv_at hl 1 rfl) ?_
  obtain ⟨v1, ev1, hf⟩ := ob hf
  refine k_ald G hK hW 15 rfl ev1 dX4_checkAllocated_11 ?_
  refine lv_istore_n (lv' := [(2, .int v1), (0, .ref (h 104)), (1, .int x1)]) G.1 G.2.1 dX4_checkAllocated_12 rfl hl (by decide) rfl (fun ls hl => ?_)
  refine lv_iload_n G.1 G.2.1 dX4_checkAllocated_13 rfl (lv_at hl 0 rfl) ?_
  refine lv_if_eq (tgt := 32) G.1 G.2.1 dX4_checkAllocated_14 (by decide) (fun c14 => ?_) (fun c14 => ?_)
  · replace hf := it c14 hf
    exact kx_vret (w := wB cy h kp) G hr hlk hW (Option.some.inj hf).symm (Nat.le_of_ble_eq_true rfl) (Nat.le_of_ble_eq_true rfl) dX4_checkAllocated_32
  · replace hf := ie c14 hf
    refine lv_iload_n G.1 G.2.1 dX4_checkAllocated_17 rfl (lv_at hl 0 rfl) ?_
    refine lv_iconst (v := (1 : Int32)) G.1 G.2.1 dX4_checkAllocated_18 (by decide) ?_
    refine lv_icmp_eq (tgt := 32) G.1 G.2.1 dX4_checkAllocated_19 (by decide) (fun c19 => ?_) (fun c19 => ?_)
    · replace hf := it c19 hf
      exact kx_vret (w := wB cy h kp) G hr hlk hW (Option.some.inj hf).symm (Nat.le_of_ble_eq_true rfl) (Nat.le_of_ble_eq_true rfl) dX4_checkAllocated_32
    · replace hf := ie c19 hf
      exact kx_throw (w := wB cy h kp) G hT hX hW htab hlk hl.1 (57, xIS) (List.mem_of_getElem? (i := 1) rfl) (251, "the job is neither waiting nor running") (List.mem_of_getElem? (i := 14) rfl) q_4_22 q_4_23 dX4_checkAllocated_22 dX4_checkAllocated_25 dX4_checkAllocated_26 dX4_checkAllocated_28 dX4_checkAllocated_31 (Nat.le_of_ble_eq_true rfl) (Nat.le_of_ble_eq_true rfl) (Nat.le_of_ble_eq_true rfl) (Nat.le_of_ble_eq_true rfl) (Option.some.inj hf).symm (Nat.le_of_ble_eq_true rfl) (Nat.le_of_ble_eq_true rfl)

set_option maxHeartbeats 4000000 in
set_option maxRecDepth 100000 in
theorem mX4_cancel (l : Launch) (hT : l.stackTraces = false) (D : va_G) (cy : ClassId) (h : Nat → Nat) (kp : Nat) (sz n : Nat) (σ : St) (x1 : Int32) {o : XRg Int32} (hf : fX4_cancel n σ x1 = some o) : Xi l yX4_cancel (ws_ yX4_cancel cX4_cancel 3 (some .int)) { frames := 7, cells := 2, slots := 12, locals := 140 } D cy (wB cy h kp) σ sz [.ref (h 104), .int x1] o 2 12 := by
  refine vx_ofW (cc := cX4_cancel) (maxL := 3) (ret := (some .int)) (by decide) rfl ?_
  intro p e s m args below meth c s₁ B hml htab hv
  obtain ⟨rfl, hsz, hP, hK, hD0, hX⟩ := hv
  subst hsz
  have hts := atoms_spec (ws := ws_ yX4_cancel cX4_cancel 3 (some .int)) B.pre
  have G : CallFix p m c cX4_cancel 3 s _ wA RX4 := ⟨B.exec, B.bytes, hml, findClass_of_methodNamed B.named, fun w h => hts w (List.mem_cons_of_mem _ h)⟩
  have hr := B.returns
  have hlk := B.notSynchronized
  have hW : KW D (va_A (wB cy h kp σ) s.heap.size) s.heap (wB cy h kp σ) s.heap [] := ⟨hP, hD0.self, va_S.rf⟩
  have hA : ∀ q, s.heap.size ≤ q → va_A (wB cy h kp σ) s.heap.size q := fun q h => Or.inr h
  have hl := lv_entry ([.ref (h 104), .int x1]) (n := 3) (Nat.le_of_ble_eq_true rfl)
  rw [lg_entry_eq]
  generalize (lg_sl ([.ref (h 104), .int x1]) ++ List.replicate (3 - (lg_sl ([.ref (h 104), .int x1])).length) Slot.unset).toArray = ls at hl ⊢
  have hl : lv_has ls 3 [(0, .ref (h 104)), (1, .int x1)] := hl
  unfold fX4_cancel at hf
  refine lv_aload_n G.1 G.2.1 dX4_cancel_0 rfl (lv_at hl 0 rfl) ?_
  refine lv_iload_n G.1 G.2.1 dX4_cancel_1 rfl (lv_at hl 1 rfl) ?_
  refine kxc_v (w := wB cy h kp) (n := 1) (As := [.int x1]) (C := RX4) G hK hX hA hW htab hlk hf (fun z hz => mX4_checkJob l hT D cy h kp _ n σ x1 hz) (gV q_14_2 q_14_3 q_14_4 q_1_2 q_14_5) ⟨rfl, rfl⟩ (by decide +kernel) ⟨Nat.le_of_ble_eq_true rfl, Nat.le_of_ble_eq_true rfl⟩ (va_recv hK.1 hW.1 (ci := 6) (q0 := 0) rfl rfl) rfl hl.1 rfl (Nat.le_of_ble_eq_true rfl) dX4_cancel_2 ⟨Nat.le_of_ble_eq_true rfl, Nat.le_of_ble_eq_true rfl⟩ (Nat.le_of_ble_eq_true rfl) (Nat.le_of_ble_eq_true rfl) (fun v1 s2 H locs hf hW => ?_)
  refine lv_aload_n G.1 G.2.1 dX4_cancel_5 rfl (lv_at hl 0 rfl) ?_
  refine lv_iload_n G.1 G.2.1 dX4_cancel_6 rfl (lv_at hl 1 rfl) ?_
  refine kxc_v (w := wB cy h kp) (n := 1) (As := [.int x1]) (C := RX4) G hK hX hA hW htab hlk hf (fun z hz => mX4_checkAllocated l hT D cy h kp _ n s2 x1 hz) (gV q_14_8 q_14_9 q_14_10 q_1_2 q_14_11) ⟨rfl, rfl⟩ (by decide +kernel) ⟨Nat.le_of_ble_eq_true rfl, Nat.le_of_ble_eq_true rfl⟩ (va_recv hK.1 hW.1 (ci := 6) (q0 := 0) rfl rfl) rfl hl.1 rfl (Nat.le_of_ble_eq_true rfl) dX4_cancel_7 ⟨Nat.le_of_ble_eq_true rfl, Nat.le_of_ble_eq_true rfl⟩ (Nat.le_of_ble_eq_true rfl) (Nat.le_of_ble_eq_true rfl) (fun v3 s4 H locs hf hW => ?_)
  refine lv_aload_n G.1 G.2.1 dX4_cancel_10 rfl (lv_at hl 0 rfl) ?_
  refine k_get G inlX4 hK hW 0 rfl rfl 0 (by decide) q_1_17 rfl dX4_cancel_11 ?_
  refine k_get G inlX0 hK hW 1 rfl rfl 1 (by decide) q_5_0 rfl dX4_cancel_14 ?_
  refine k_get G inlX2 hK hW 10 rfl rfl 5 (by decide) q_14_1 rfl dX4_cancel_17 ?_
  refine lv_iload_n G.1 G.2.1 dX4_cancel_20 rfl (lv_at hl 1 rfl) ?_
  obtain ⟨v5, ev5, hf⟩ := ob hf
  refine k_ald G hK hW 15 rfl ev5 dX4_cancel_21 ?_
  refine lv_istore_n (lv' := [(2, .int v5), (0, .ref (h 104)), (1, .int x1)]) G.1 G.2.1 dX4_cancel_22 rfl hl (by decide) rfl (fun ls hl => ?_)
  refine lv_aload_n G.1 G.2.1 dX4_cancel_23 rfl (lv_at hl 1 rfl) ?_
  refine k_get G inlX4 hK hW 0 rfl rfl 0 (by decide) q_1_17 rfl dX4_cancel_24 ?_
  refine lv_iload_n G.1 G.2.1 dX4_cancel_27 rfl (lv_at hl 2 rfl) ?_
  obtain ⟨s6, es6, hf⟩ := ob hf
  refine kc_v (wr := [(h 104, .inr (6, [.ref (h 103), .ref kp, .int (s4 28 0), .int (s4 29 0)]))]) (w := wC cy h s4) (w' := wC cy h s6) (n := 1) (As := [.int x1]) (C := RX0) G hK hA hW (mX0_dropJob l D cy h _ n s4 x1 es6) (gV q_14_12 q_14_13 q_14_14 q_1_16 q_14_15) ⟨rfl, rfl⟩ (by decide +kernel) ⟨Nat.le_of_ble_eq_true rfl, Nat.le_of_ble_eq_true rfl⟩ (va_recv hK.1 hW.1 (ci := 2) (q0 := 1) rfl rfl) rfl hl.1 rfl (Nat.le_of_ble_eq_true rfl) dX4_cancel_28 ⟨Nat.le_of_ble_eq_true rfl, Nat.le_of_ble_eq_true rfl⟩ (fun H locs hW => ?_)
  obtain ⟨s7, es7, hf⟩ := ob hf
  replace hW : KW D (va_A (wB cy h kp σ) s.heap.size) s.heap (wB cy h kp s7) H locs := by cases es7; exact hW
  refine lv_iload_n G.1 G.2.1 dX4_cancel_31 rfl (lv_at hl 0 rfl) ?_
  exact kx_iret (w := wB cy h kp) G hr hlk hW (Option.some.inj hf).symm (Nat.le_of_ble_eq_true rfl) (Nat.le_of_ble_eq_true rfl) dX4_cancel_32

set_option maxHeartbeats 4000000 in
set_option maxRecDepth 100000 in
theorem mX4_preempt (l : Launch) (hT : l.stackTraces = false) (D : va_G) (cy : ClassId) (h : Nat → Nat) (kp : Nat) (sz n : Nat) (σ : St) (x1 : Int32) (x2 : Int32) {o : XRg Int32} (hf : fX4_preempt n σ x1 x2 = some o) : Xi l yX4_preempt (ws_ yX4_preempt cX4_preempt 3 (some .int)) { frames := 7, cells := 2, slots := 12, locals := 143 } D cy (wB cy h kp) σ sz [.ref (h 104), .int x1, .int x2] o 2 12 := by
  refine vx_ofW (cc := cX4_preempt) (maxL := 3) (ret := (some .int)) (by decide) rfl ?_
  intro p e s m args below meth c s₁ B hml htab hv
  obtain ⟨rfl, hsz, hP, hK, hD0, hX⟩ := hv
  subst hsz
  have hts := atoms_spec (ws := ws_ yX4_preempt cX4_preempt 3 (some .int)) B.pre
  have G : CallFix p m c cX4_preempt 3 s _ wA RX4 := ⟨B.exec, B.bytes, hml, findClass_of_methodNamed B.named, fun w h => hts w (List.mem_cons_of_mem _ h)⟩
  have hr := B.returns
  have hlk := B.notSynchronized
  have hW : KW D (va_A (wB cy h kp σ) s.heap.size) s.heap (wB cy h kp σ) s.heap [] := ⟨hP, hD0.self, va_S.rf⟩
  have hA : ∀ q, s.heap.size ≤ q → va_A (wB cy h kp σ) s.heap.size q := fun q h => Or.inr h
  have hl := lv_entry ([.ref (h 104), .int x1, .int x2]) (n := 3) (Nat.le_of_ble_eq_true rfl)
  rw [lg_entry_eq]
  generalize (lg_sl ([.ref (h 104), .int x1, .int x2]) ++ List.replicate (3 - (lg_sl ([.ref (h 104), .int x1, .int x2])).length) Slot.unset).toArray = ls at hl ⊢
  have hl : lv_has ls 3 [(0, .ref (h 104)), (1, .int x1), (2, .int x2)] := hl
  unfold fX4_preempt at hf
  refine lv_aload_n G.1 G.2.1 dX4_preempt_0 rfl (lv_at hl 0 rfl) ?_
  refine lv_iload_n G.1 G.2.1 dX4_preempt_1 rfl (lv_at hl 1 rfl) ?_
  refine kxc_v (w := wB cy h kp) (n := 1) (As := [.int x1]) (C := RX4) G hK hX hA hW htab hlk hf (fun z hz => mX4_checkJob l hT D cy h kp _ n σ x1 hz) (gV q_14_2 q_14_3 q_14_4 q_1_2 q_14_5) ⟨rfl, rfl⟩ (by decide +kernel) ⟨Nat.le_of_ble_eq_true rfl, Nat.le_of_ble_eq_true rfl⟩ (va_recv hK.1 hW.1 (ci := 6) (q0 := 0) rfl rfl) rfl hl.1 rfl (Nat.le_of_ble_eq_true rfl) dX4_preempt_2 ⟨Nat.le_of_ble_eq_true rfl, Nat.le_of_ble_eq_true rfl⟩ (Nat.le_of_ble_eq_true rfl) (Nat.le_of_ble_eq_true rfl) (fun v1 s2 H locs hf hW => ?_)
  refine lv_iload_n G.1 G.2.1 dX4_preempt_5 rfl (lv_at hl 2 rfl) ?_
  refine lv_if_lt (tgt := 15) G.1 G.2.1 dX4_preempt_6 (by decide) (fun c6 => ?_) (fun c6 => ?_)
  · replace hf := it c6 hf
    exact kx_throw (w := wB cy h kp) G hT hX hW htab hlk hl.1 (41, xIA) (List.mem_of_getElem? (i := 0) rfl) (87, "the cost is out of range") (List.mem_of_getElem? (i := 22) rfl) q_4_20 q_4_21 dX4_preempt_15 dX4_preempt_18 dX4_preempt_19 dX4_preempt_21 dX4_preempt_24 (Nat.le_of_ble_eq_true rfl) (Nat.le_of_ble_eq_true rfl) (Nat.le_of_ble_eq_true rfl) (Nat.le_of_ble_eq_true rfl) (Option.some.inj hf).symm (Nat.le_of_ble_eq_true rfl) (Nat.le_of_ble_eq_true rfl)
  · replace hf := ie c6 hf
    refine lv_iload_n G.1 G.2.1 dX4_preempt_9 rfl (lv_at hl 2 rfl) ?_
    refine lv_bipush (v := (9 : Int32)) G.1 G.2.1 dX4_preempt_10 (by decide) ?_
    refine lv_icmp_le (tgt := 25) G.1 G.2.1 dX4_preempt_12 (by decide) (fun c12 => ?_) (fun c12 => ?_)
    · replace hf := it c12 hf
      refine lv_aload_n G.1 G.2.1 dX4_preempt_25 rfl (lv_at hl 0 rfl) ?_
      refine k_get G inlX4 hK hW 0 rfl rfl 0 (by decide) q_1_17 rfl dX4_preempt_26 ?_
      refine k_get G inlX0 hK hW 1 rfl rfl 1 (by decide) q_5_0 rfl dX4_preempt_29 ?_
      refine k_get G inlX2 hK hW 10 rfl rfl 5 (by decide) q_14_1 rfl dX4_preempt_32 ?_
      refine lv_iload_n G.1 G.2.1 dX4_preempt_35 rfl (lv_at hl 1 rfl) ?_
      obtain ⟨v3, ev3, hf⟩ := ob hf
      refine k_ald G hK hW 15 rfl ev3 dX4_preempt_36 ?_
      refine lv_iconst (v := (1 : Int32)) G.1 G.2.1 dX4_preempt_37 (by decide) ?_
      refine lv_icmp_eq (tgt := 51) G.1 G.2.1 dX4_preempt_38 (by decide) (fun c38 => ?_) (fun c38 => ?_)
      · replace hf := it c38 hf
        refine lv_aload_n G.1 G.2.1 dX4_preempt_51 rfl (lv_at hl 0 rfl) ?_
        refine k_get G inlX4 hK hW 0 rfl rfl 0 (by decide) q_1_17 rfl dX4_preempt_52 ?_
        refine lv_iload_n G.1 G.2.1 dX4_preempt_55 rfl (lv_at hl 1 rfl) ?_
        refine lv_iload_n G.1 G.2.1 dX4_preempt_56 rfl (lv_at hl 2 rfl) ?_
        obtain ⟨v4, s5, ev4, hf⟩ := ob2 hf
        refine kc_i (wr := [(h 104, .inr (6, [.ref (h 103), .ref kp, .int (s2 28 0), .int (s2 29 0)]))]) (w := wC cy h s2) (w' := wC cy h s5) (n := 2) (As := [.int x1, .int x2]) (C := RX0) G hK hA hW (mX0_interrupt l D cy h _ n s2 x1 x2 ev4) (gV q_15_7 q_15_8 q_15_9 q_1_16 q_15_10) ⟨rfl, rfl⟩ (by decide +kernel) ⟨Nat.le_of_ble_eq_true rfl, Nat.le_of_ble_eq_true rfl⟩ (va_recv hK.1 hW.1 (ci := 2) (q0 := 1) rfl rfl) rfl hl.1 rfl (Nat.le_of_ble_eq_true rfl) dX4_preempt_57 ⟨Nat.le_of_ble_eq_true rfl, Nat.le_of_ble_eq_true rfl⟩ (fun H locs hW => ?_)
        obtain ⟨s6, es6, hf⟩ := ob hf
        replace hW : KW D (va_A (wB cy h kp σ) s.heap.size) s.heap (wB cy h kp s6) H locs := by cases es6; exact hW
        exact kx_iret (w := wB cy h kp) G hr hlk hW (Option.some.inj hf).symm (Nat.le_of_ble_eq_true rfl) (Nat.le_of_ble_eq_true rfl) dX4_preempt_60
      · replace hf := ie c38 hf
        exact kx_throw (w := wB cy h kp) G hT hX hW htab hlk hl.1 (57, xIS) (List.mem_of_getElem? (i := 1) rfl) (89, "the job is not running") (List.mem_of_getElem? (i := 23) rfl) q_4_22 q_4_23 dX4_preempt_41 dX4_preempt_44 dX4_preempt_45 dX4_preempt_47 dX4_preempt_50 (Nat.le_of_ble_eq_true rfl) (Nat.le_of_ble_eq_true rfl) (Nat.le_of_ble_eq_true rfl) (Nat.le_of_ble_eq_true rfl) (Option.some.inj hf).symm (Nat.le_of_ble_eq_true rfl) (Nat.le_of_ble_eq_true rfl)
    · replace hf := ie c12 hf
      exact kx_throw (w := wB cy h kp) G hT hX hW htab hlk hl.1 (41, xIA) (List.mem_of_getElem? (i := 0) rfl) (87, "the cost is out of range") (List.mem_of_getElem? (i := 22) rfl) q_4_20 q_4_21 dX4_preempt_15 dX4_preempt_18 dX4_preempt_19 dX4_preempt_21 dX4_preempt_24 (Nat.le_of_ble_eq_true rfl) (Nat.le_of_ble_eq_true rfl) (Nat.le_of_ble_eq_true rfl) (Nat.le_of_ble_eq_true rfl) (Option.some.inj hf).symm (Nat.le_of_ble_eq_true rfl) (Nat.le_of_ble_eq_true rfl)

set_option maxHeartbeats 4000000 in
set_option maxRecDepth 100000 in
theorem mX4_checkInterval (l : Launch) (hT : l.stackTraces = false) (D : va_G) (cy : ClassId) (h : Nat → Nat) (sz n : Nat) (σ : St) (x1 : Int32) (x2 : Int32) (x3 : Int32) {o : XRg Int32} (hf : fX4_checkInterval n σ x1 x2 x3 = some o) : Xv l yX4_checkInterval (ws_ yX4_checkInterval cX4_checkInterval 3 none) { frames := 6, cells := 1, slots := 6, locals := 90 } D cy ((fun _ => [])) σ sz [.int x1, .int x2, .int x3] o 1 6 := by
  refine vx_ofW (cc := cX4_checkInterval) (maxL := 3) (ret := none) (by decide) rfl ?_
  intro p e s m args below meth c s₁ B hml htab hv
  obtain ⟨rfl, hsz, hP, hK, hD0, hX⟩ := hv
  subst hsz
  have hts := atoms_spec (ws := ws_ yX4_checkInterval cX4_checkInterval 3 none) B.pre
  have G : CallFix p m c cX4_checkInterval 3 s _ wA RX4 := ⟨B.exec, B.bytes, hml, findClass_of_methodNamed B.named, fun w h => hts w (List.mem_cons_of_mem _ h)⟩
  have hr := B.returns
  have hlk := B.notSynchronized
  have hW : KW D (va_A ([]) s.heap.size) s.heap ([]) s.heap [] := ⟨hP, hD0.self, va_S.rf⟩
  have hA : ∀ q, s.heap.size ≤ q → va_A ([]) s.heap.size q := fun q h => Or.inr h
  have hl := lv_entry ([.int x1, .int x2, .int x3]) (n := 3) (Nat.le_of_ble_eq_true rfl)
  rw [lg_entry_eq]
  generalize (lg_sl ([.int x1, .int x2, .int x3]) ++ List.replicate (3 - (lg_sl ([.int x1, .int x2, .int x3])).length) Slot.unset).toArray = ls at hl ⊢
  have hl : lv_has ls 3 [(0, .int x1), (1, .int x2), (2, .int x3)] := hl
  unfold fX4_checkInterval at hf
  refine lv_iload_n G.1 G.2.1 dX4_checkInterval_0 rfl (lv_at hl 0 rfl) ?_
  obtain ⟨v1, ev1, hf⟩ := ob hf
  refine kc_s (n := 1) (As := [.int x1]) G hW (mX4_isOrder l n x1 ev1) (gS q_5_5 q_5_6 q_1_2 q_5_7) ⟨rfl, rfl⟩ (by decide +kernel) ⟨Nat.le_of_ble_eq_true rfl, Nat.le_of_ble_eq_true rfl⟩ rfl hl.1 rfl (Nat.le_of_ble_eq_true rfl) dX4_checkInterval_1 ⟨Nat.le_of_ble_eq_true rfl, Nat.le_of_ble_eq_true rfl⟩ (fun H locs hW => ?_)
  refine lv_if_eq (tgt := 25) G.1 G.2.1 dX4_checkInterval_4 (by decide) (fun c4 => ?_) (fun c4 => ?_)
  · replace hf := it c4 hf
    exact kx_throw (w := (fun _ => [])) G hT hX hW htab hlk hl.1 (41, xIA) (List.mem_of_getElem? (i := 0) rfl) (39, "a number is out of range") (List.mem_of_getElem? (i := 18) rfl) q_4_20 q_4_21 dX4_checkInterval_25 dX4_checkInterval_28 dX4_checkInterval_29 dX4_checkInterval_31 dX4_checkInterval_34 (Nat.le_of_ble_eq_true rfl) (Nat.le_of_ble_eq_true rfl) (Nat.le_of_ble_eq_true rfl) (Nat.le_of_ble_eq_true rfl) (Option.some.inj hf).symm (Nat.le_of_ble_eq_true rfl) (Nat.le_of_ble_eq_true rfl)
  · replace hf := ie c4 hf
    refine lv_iload_n G.1 G.2.1 dX4_checkInterval_7 rfl (lv_at hl 1 rfl) ?_
    refine lv_if_lt (tgt := 25) G.1 G.2.1 dX4_checkInterval_8 (by decide) (fun c8 => ?_) (fun c8 => ?_)
    · replace hf := it c8 hf
      exact kx_throw (w := (fun _ => [])) G hT hX hW htab hlk hl.1 (41, xIA) (List.mem_of_getElem? (i := 0) rfl) (39, "a number is out of range") (List.mem_of_getElem? (i := 18) rfl) q_4_20 q_4_21 dX4_checkInterval_25 dX4_checkInterval_28 dX4_checkInterval_29 dX4_checkInterval_31 dX4_checkInterval_34 (Nat.le_of_ble_eq_true rfl) (Nat.le_of_ble_eq_true rfl) (Nat.le_of_ble_eq_true rfl) (Nat.le_of_ble_eq_true rfl) (Option.some.inj hf).symm (Nat.le_of_ble_eq_true rfl) (Nat.le_of_ble_eq_true rfl)
    · replace hf := ie c8 hf
      refine lv_iload_n G.1 G.2.1 dX4_checkInterval_11 rfl (lv_at hl 1 rfl) ?_
      refine lv_sipush (v := (1000 : Int32)) G.1 G.2.1 dX4_checkInterval_12 (by decide) ?_
      refine lv_icmp_gt (tgt := 25) G.1 G.2.1 dX4_checkInterval_15 (by decide) (fun c15 => ?_) (fun c15 => ?_)
      · replace hf := it c15 hf
        exact kx_throw (w := (fun _ => [])) G hT hX hW htab hlk hl.1 (41, xIA) (List.mem_of_getElem? (i := 0) rfl) (39, "a number is out of range") (List.mem_of_getElem? (i := 18) rfl) q_4_20 q_4_21 dX4_checkInterval_25 dX4_checkInterval_28 dX4_checkInterval_29 dX4_checkInterval_31 dX4_checkInterval_34 (Nat.le_of_ble_eq_true rfl) (Nat.le_of_ble_eq_true rfl) (Nat.le_of_ble_eq_true rfl) (Nat.le_of_ble_eq_true rfl) (Option.some.inj hf).symm (Nat.le_of_ble_eq_true rfl) (Nat.le_of_ble_eq_true rfl)
      · replace hf := ie c15 hf
        refine lv_iload_n G.1 G.2.1 dX4_checkInterval_18 rfl (lv_at hl 2 rfl) ?_
        obtain ⟨v2, ev2, hf⟩ := ob hf
        refine kc_s (n := 1) (As := [.int x3]) G hW (mX4_isLength l n x3 ev2) (gS q_5_8 q_5_9 q_1_2 q_5_10) ⟨rfl, rfl⟩ (by decide +kernel) ⟨Nat.le_of_ble_eq_true rfl, Nat.le_of_ble_eq_true rfl⟩ rfl hl.1 rfl (Nat.le_of_ble_eq_true rfl) dX4_checkInterval_19 ⟨Nat.le_of_ble_eq_true rfl, Nat.le_of_ble_eq_true rfl⟩ (fun H locs hW => ?_)
        refine lv_if_ne (tgt := 35) G.1 G.2.1 dX4_checkInterval_22 (by decide) (fun c22 => ?_) (fun c22 => ?_)
        · replace hf := ie c22 hf
          exact kx_vret (w := (fun _ => [])) G hr hlk hW (Option.some.inj hf).symm (Nat.le_of_ble_eq_true rfl) (Nat.le_of_ble_eq_true rfl) dX4_checkInterval_35
        · replace hf := it c22 hf
          exact kx_throw (w := (fun _ => [])) G hT hX hW htab hlk hl.1 (41, xIA) (List.mem_of_getElem? (i := 0) rfl) (39, "a number is out of range") (List.mem_of_getElem? (i := 18) rfl) q_4_20 q_4_21 dX4_checkInterval_25 dX4_checkInterval_28 dX4_checkInterval_29 dX4_checkInterval_31 dX4_checkInterval_34 (Nat.le_of_ble_eq_true rfl) (Nat.le_of_ble_eq_true rfl) (Nat.le_of_ble_eq_true rfl) (Nat.le_of_ble_eq_true rfl) (Option.some.inj hf).symm (Nat.le_of_ble_eq_true rfl) (Nat.le_of_ble_eq_true rfl)
theorem fX4_checkInterval_u {n : Nat} {σ : St} {x1 x2 x3 : Int32} {z : XR} (h : fX4_checkInterval n σ x1 x2 x3 = some z) : (∃ E, z = .inl (E, σ)) ∨ z = .inr (0, σ) := by
  unfold fX4_checkInterval at h
  obtain ⟨a, -, h⟩ := ob h
  by_cases c1 : a = 0
  · exact Or.inl ⟨_, (Option.some.inj (it c1 h)).symm⟩
  · replace h := ie c1 h
    by_cases c2 : x2 < 0
    · exact Or.inl ⟨_, (Option.some.inj (it c2 h)).symm⟩
    · replace h := ie c2 h
      by_cases c3 : (1000 : Int32) < x2
      · exact Or.inl ⟨_, (Option.some.inj (it c3 h)).symm⟩
      · replace h := ie c3 h
        obtain ⟨b, -, h⟩ := ob h
        by_cases c4 : b = 0
        · exact Or.inl ⟨_, (Option.some.inj (it c4 h)).symm⟩
        · exact Or.inr (Option.some.inj (ie c4 h)).symm

set_option maxHeartbeats 4000000 in
set_option maxRecDepth 100000 in
theorem mX4_reasonToRefuse (l : Launch) (D : va_G) (cy : ClassId) (h : Nat → Nat) (kp : Nat) (sz n : Nat) (σ : St) (x1 : Int32) (x2 : Int32) (x3 : Int32) {r : Int32} (hf : fX4_reasonToRefuse n σ x1 x2 x3 = some r) : Mi l yX4_reasonToRefuse (ws_ yX4_reasonToRefuse cX4_reasonToRefuse 4 (some .int)) { frames := 3, cells := 0, slots := 0, locals := 68 } D cy (wB cy h kp σ) (wB cy h kp σ) sz [.ref (h 104), .int x1, .int x2, .int x3] r := by
  refine Met.ofW (cc := cX4_reasonToRefuse) (maxL := 4) (ret := (some .int)) (by decide) rfl ?_
  intro p e s m args below meth c s₁ B hml hv
  obtain ⟨rfl, hsz, hP, hK, hD0⟩ := hv
  subst hsz
  have hts := atoms_spec (ws := ws_ yX4_reasonToRefuse cX4_reasonToRefuse 4 (some .int)) B.pre
  have G : CallFix p m c cX4_reasonToRefuse 4 s _ wA RX4 := ⟨B.exec, B.bytes, hml, findClass_of_methodNamed B.named, fun w h => hts w (List.mem_cons_of_mem _ h)⟩
  have hr := B.returns
  have hlk := B.notSynchronized
  have hW : KW D (va_A (wB cy h kp σ) s.heap.size) s.heap (wB cy h kp σ) s.heap [] := ⟨hP, hD0.self, va_S.rf⟩
  have hA : ∀ q, s.heap.size ≤ q → va_A (wB cy h kp σ) s.heap.size q := fun q h => Or.inr h
  have hl := lv_entry ([.ref (h 104), .int x1, .int x2, .int x3]) (n := 4) (Nat.le_of_ble_eq_true rfl)
  rw [lg_entry_eq]
  generalize (lg_sl ([.ref (h 104), .int x1, .int x2, .int x3]) ++ List.replicate (4 - (lg_sl ([.ref (h 104), .int x1, .int x2, .int x3])).length) Slot.unset).toArray = ls at hl ⊢
  have hl : lv_has ls 4 [(0, .ref (h 104)), (1, .int x1), (2, .int x2), (3, .int x3)] := hl
  unfold fX4_reasonToRefuse at hf
  refine lv_iload_n G.1 G.2.1 dX4_reasonToRefuse_0 rfl (lv_at hl 2 rfl) ?_
  refine lv_aload_n G.1 G.2.1 dX4_reasonToRefuse_1 rfl (lv_at hl 0 rfl) ?_
  refine k_get G inlX4 hK hW 0 rfl rfl 0 (by decide) q_1_17 rfl dX4_reasonToRefuse_2 ?_
  refine k_get G inlX0 hK hW 1 rfl rfl 4 (by decide) q_10_20 rfl dX4_reasonToRefuse_5 ?_
  refine lv_icmp_ge (tgt := 13) G.1 G.2.1 dX4_reasonToRefuse_8 (by decide) (fun c8 => ?_) (fun c8 => ?_)
  · replace hf := it c8 hf
    refine lv_aload_n G.1 G.2.1 dX4_reasonToRefuse_13 rfl (lv_at hl 0 rfl) ?_
    refine k_get G inlX4 hK hW 0 rfl rfl 0 (by decide) q_1_17 rfl dX4_reasonToRefuse_14 ?_
    refine k_get G inlX0 hK hW 1 rfl rfl 5 (by decide) q_16_6 rfl dX4_reasonToRefuse_17 ?_
    refine lv_bipush (v := (6 : Int32)) G.1 G.2.1 dX4_reasonToRefuse_20 (by decide) ?_
    refine lv_icmp_lt (tgt := 27) G.1 G.2.1 dX4_reasonToRefuse_22 (by decide) (fun c22 => ?_) (fun c22 => ?_)
    · replace hf := it c22 hf
      refine lv_aload_n G.1 G.2.1 dX4_reasonToRefuse_27 rfl (lv_at hl 0 rfl) ?_
      refine k_get G inlX4 hK hW 0 rfl rfl 0 (by decide) q_1_17 rfl dX4_reasonToRefuse_28 ?_
      refine k_get G inlX0 hK hW 1 rfl rfl 0 (by decide) q_16_7 rfl dX4_reasonToRefuse_31 ?_
      refine lv_iload_n G.1 G.2.1 dX4_reasonToRefuse_34 rfl (lv_at hl 1 rfl) ?_
      refine lv_iload_n G.1 G.2.1 dX4_reasonToRefuse_35 rfl (lv_at hl 2 rfl) ?_
      refine lv_iload_n G.1 G.2.1 dX4_reasonToRefuse_36 rfl (lv_at hl 3 rfl) ?_
      obtain ⟨v1, ev1, hf⟩ := ob hf
      refine kc_i (wr := [(h 104, .inr (6, [.ref (h 103), .ref kp, .int (σ 28 0), .int (σ 29 0)]))]) (w := wC cy h σ) (w' := wC cy h σ) (n := 3) (As := [.int x1, .int x2, .int x3]) (C := RX3) G hK hA hW (mX3_lowestFree l D cy h _ n σ x1 x2 x3 ev1) (gV q_16_8 q_7_0 q_7_1 q_2_2 q_7_2) ⟨rfl, rfl⟩ (by decide +kernel) ⟨Nat.le_of_ble_eq_true rfl, Nat.le_of_ble_eq_true rfl⟩ (va_recv hK.1 hW.1 (ci := 5) (q0 := 5) rfl rfl) rfl hl.1 rfl (Nat.le_of_ble_eq_true rfl) dX4_reasonToRefuse_37 ⟨Nat.le_of_ble_eq_true rfl, Nat.le_of_ble_eq_true rfl⟩ (fun H locs hW => ?_)
      refine lv_iconst (v := (-1 : Int32)) G.1 G.2.1 dX4_reasonToRefuse_40 (by decide) ?_
      refine lv_icmp_ne (tgt := 46) G.1 G.2.1 dX4_reasonToRefuse_41 (by decide) (fun c41 => ?_) (fun c41 => ?_)
      · replace hf := ie c41 hf
        refine lv_iconst (v := (0 : Int32)) G.1 G.2.1 dX4_reasonToRefuse_46 (by decide) ?_
        cases hf
        exact k_iret G hr hlk hK hW dX4_reasonToRefuse_47
      · replace hf := it c41 hf
        refine lv_iconst (v := (3 : Int32)) G.1 G.2.1 dX4_reasonToRefuse_44 (by decide) ?_
        cases hf
        exact k_iret G hr hlk hK hW dX4_reasonToRefuse_45
    · replace hf := ie c22 hf
      refine lv_iconst (v := (2 : Int32)) G.1 G.2.1 dX4_reasonToRefuse_25 (by decide) ?_
      cases hf
      exact k_iret G hr hlk hK hW dX4_reasonToRefuse_26
  · replace hf := ie c8 hf
    refine lv_iconst (v := (1 : Int32)) G.1 G.2.1 dX4_reasonToRefuse_11 (by decide) ?_
    cases hf
    exact k_iret G hr hlk hK hW dX4_reasonToRefuse_12

set_option maxHeartbeats 4000000 in
set_option maxRecDepth 100000 in
theorem mX4_reserve (l : Launch) (hT : l.stackTraces = false) (D : va_G) (cy : ClassId) (h : Nat → Nat) (kp : Nat) (sz n : Nat) (σ : St) (x1 : Int32) (x2 : Int32) (x3 : Int32) {o : XRg Int32} (hf : fX4_reserve n σ x1 x2 x3 = some o) : Xi l yX4_reserve (ws_ yX4_reserve cX4_reserve 4 (some .int)) { frames := 7, cells := 2, slots := 12, locals := 112 } D cy (wB cy h kp) σ sz [.ref (h 104), .int x1, .int x2, .int x3] o 2 12 := by
  refine vx_ofW (cc := cX4_reserve) (maxL := 4) (ret := (some .int)) (by decide) rfl ?_
  intro p e s m args below meth c s₁ B hml htab hv
  obtain ⟨rfl, hsz, hP, hK, hD0, hX⟩ := hv
  subst hsz
  have hts := atoms_spec (ws := ws_ yX4_reserve cX4_reserve 4 (some .int)) B.pre
  have G : CallFix p m c cX4_reserve 4 s _ wA RX4 := ⟨B.exec, B.bytes, hml, findClass_of_methodNamed B.named, fun w h => hts w (List.mem_cons_of_mem _ h)⟩
  have hr := B.returns
  have hlk := B.notSynchronized
  have hW : KW D (va_A (wB cy h kp σ) s.heap.size) s.heap (wB cy h kp σ) s.heap [] := ⟨hP, hD0.self, va_S.rf⟩
  have hA : ∀ q, s.heap.size ≤ q → va_A (wB cy h kp σ) s.heap.size q := fun q h => Or.inr h
  have hl := lv_entry ([.ref (h 104), .int x1, .int x2, .int x3]) (n := 4) (Nat.le_of_ble_eq_true rfl)
  rw [lg_entry_eq]
  generalize (lg_sl ([.ref (h 104), .int x1, .int x2, .int x3]) ++ List.replicate (4 - (lg_sl ([.ref (h 104), .int x1, .int x2, .int x3])).length) Slot.unset).toArray = ls at hl ⊢
  have hl : lv_has ls 4 [(0, .ref (h 104)), (1, .int x1), (2, .int x2), (3, .int x3)] := hl
  unfold fX4_reserve at hf
  refine lv_iload_n G.1 G.2.1 dX4_reserve_0 rfl (lv_at hl 1 rfl) ?_
  refine lv_iload_n G.1 G.2.1 dX4_reserve_1 rfl (lv_at hl 2 rfl) ?_
  refine lv_iload_n G.1 G.2.1 dX4_reserve_2 rfl (lv_at hl 3 rfl) ?_
  refine kxc_s (w := wB cy h kp) (n := 3) (As := [.int x1, .int x2, .int x3]) G hK hX hA hW htab hlk hf (fun z hz => mX4_checkInterval l hT D cy h _ n σ x1 x2 x3 hz) (fun z hz => fX4_checkInterval_u hz) (gS q_15_23 q_16_0 q_1_2 q_16_1) ⟨rfl, rfl⟩ (by decide +kernel) ⟨Nat.le_of_ble_eq_true rfl, Nat.le_of_ble_eq_true rfl⟩ rfl hl.1 rfl (Nat.le_of_ble_eq_true rfl) dX4_reserve_3 ⟨Nat.le_of_ble_eq_true rfl, Nat.le_of_ble_eq_true rfl⟩ (Nat.le_of_ble_eq_true rfl) (Nat.le_of_ble_eq_true rfl) (fun v1 s2 H locs hf hW => ?_)
  refine lv_aload_n G.1 G.2.1 dX4_reserve_6 rfl (lv_at hl 0 rfl) ?_
  refine lv_aload_n G.1 G.2.1 dX4_reserve_7 rfl (lv_at hl 0 rfl) ?_
  refine lv_iload_n G.1 G.2.1 dX4_reserve_8 rfl (lv_at hl 1 rfl) ?_
  refine lv_iload_n G.1 G.2.1 dX4_reserve_9 rfl (lv_at hl 2 rfl) ?_
  refine lv_iload_n G.1 G.2.1 dX4_reserve_10 rfl (lv_at hl 3 rfl) ?_
  obtain ⟨v3, ev3, hf⟩ := ob hf
  refine kc_i (wr := []) (w := wB cy h kp s2) (w' := wB cy h kp s2) (n := 3) (As := [.int x1, .int x2, .int x3]) (C := RX4) G hK hA hW (mX4_reasonToRefuse l D cy h kp _ n s2 x1 x2 x3 ev3) (gV q_16_2 q_16_3 q_16_4 q_1_2 q_16_5) ⟨rfl, rfl⟩ (by decide +kernel) ⟨Nat.le_of_ble_eq_true rfl, Nat.le_of_ble_eq_true rfl⟩ (va_recv hK.1 hW.1 (ci := 6) (q0 := 0) rfl rfl) rfl hl.1 rfl (Nat.le_of_ble_eq_true rfl) dX4_reserve_11 ⟨Nat.le_of_ble_eq_true rfl, Nat.le_of_ble_eq_true rfl⟩ (fun H locs hW => ?_)
  obtain ⟨s4, es4, hf⟩ := ob hf
  refine k_put (w := wB cy h kp) G inlX4 tyX4 tyX4_ok nmX4 hK hW 0 29 rfl rfl 3 (by decide) q_1_20 rfl (by decide +kernel) (Nat.le_of_ble_eq_true rfl) rfl es4 dX4_reserve_14 (fun H locs hW => ?_)
  refine lv_aload_n G.1 G.2.1 dX4_reserve_17 rfl (lv_at hl 0 rfl) ?_
  refine k_get G inlX4 hK hW 0 rfl rfl 3 (by decide) q_1_20 rfl dX4_reserve_18 ?_
  refine lv_if_eq (tgt := 34) G.1 G.2.1 dX4_reserve_21 (by decide) (fun c21 => ?_) (fun c21 => ?_)
  · replace hf := it c21 hf
    refine lv_aload_n G.1 G.2.1 dX4_reserve_34 rfl (lv_at hl 0 rfl) ?_
    refine k_get G inlX4 hK hW 0 rfl rfl 0 (by decide) q_1_17 rfl dX4_reserve_35 ?_
    refine lv_iload_n G.1 G.2.1 dX4_reserve_38 rfl (lv_at hl 1 rfl) ?_
    refine lv_iload_n G.1 G.2.1 dX4_reserve_39 rfl (lv_at hl 2 rfl) ?_
    refine lv_iload_n G.1 G.2.1 dX4_reserve_40 rfl (lv_at hl 3 rfl) ?_
    obtain ⟨v5, s6, ev5, hf⟩ := ob2 hf
    refine kc_i (wr := [(h 104, .inr (6, [.ref (h 103), .ref kp, .int (s4 28 0), .int (s4 29 0)]))]) (w := wC cy h s4) (w' := wC cy h s6) (n := 3) (As := [.int x1, .int x2, .int x3]) (C := RX0) G hK hA hW (mX0_addReservation l D cy h _ n s4 x1 x2 x3 ev5) (gV q_16_9 q_16_10 q_16_11 q_1_16 q_16_12) ⟨rfl, rfl⟩ (by decide +kernel) ⟨Nat.le_of_ble_eq_true rfl, Nat.le_of_ble_eq_true rfl⟩ (va_recv hK.1 hW.1 (ci := 2) (q0 := 1) rfl rfl) rfl hl.1 rfl (Nat.le_of_ble_eq_true rfl) dX4_reserve_41 ⟨Nat.le_of_ble_eq_true rfl, Nat.le_of_ble_eq_true rfl⟩ (fun H locs hW => ?_)
    obtain ⟨s7, es7, hf⟩ := ob hf
    replace hW : KW D (va_A (wB cy h kp σ) s.heap.size) s.heap (wB cy h kp s7) H locs := by cases es7; exact hW
    exact kx_iret (w := wB cy h kp) G hr hlk hW (Option.some.inj hf).symm (Nat.le_of_ble_eq_true rfl) (Nat.le_of_ble_eq_true rfl) dX4_reserve_44
  · replace hf := ie c21 hf
    exact kx_throw (w := wB cy h kp) G hT hX hW htab hlk hl.1 (57, xIS) (List.mem_of_getElem? (i := 1) rfl) (103, "the reservation is refused") (List.mem_of_getElem? (i := 0) rfl) q_4_22 q_4_23 dX4_reserve_24 dX4_reserve_27 dX4_reserve_28 dX4_reserve_30 dX4_reserve_33 (Nat.le_of_ble_eq_true rfl) (Nat.le_of_ble_eq_true rfl) (Nat.le_of_ble_eq_true rfl) (Nat.le_of_ble_eq_true rfl) (Option.some.inj hf).symm (Nat.le_of_ble_eq_true rfl) (Nat.le_of_ble_eq_true rfl)

set_option maxHeartbeats 4000000 in
set_option maxRecDepth 100000 in
theorem mX4_refusal (l : Launch) (D : va_G) (cy : ClassId) (h : Nat → Nat) (kp : Nat) (sz n : Nat) (σ : St) {r : Int32} (hf : fX4_refusal n σ = some r) : Mi l yX4_refusal (ws_ yX4_refusal cX4_refusal 1 (some .int)) { frames := 0, cells := 0, slots := 0, locals := 0 } D cy (wB cy h kp σ) (wB cy h kp σ) sz [.ref (h 104)] r := by
  refine Met.ofW (cc := cX4_refusal) (maxL := 1) (ret := (some .int)) (by decide) rfl ?_
  intro p e s m args below meth c s₁ B hml hv
  obtain ⟨rfl, hsz, hP, hK, hD0⟩ := hv
  subst hsz
  have hts := atoms_spec (ws := ws_ yX4_refusal cX4_refusal 1 (some .int)) B.pre
  have G : CallFix p m c cX4_refusal 1 s _ wA RX4 := ⟨B.exec, B.bytes, hml, findClass_of_methodNamed B.named, fun w h => hts w (List.mem_cons_of_mem _ h)⟩
  have hr := B.returns
  have hlk := B.notSynchronized
  have hW : KW D (va_A (wB cy h kp σ) s.heap.size) s.heap (wB cy h kp σ) s.heap [] := ⟨hP, hD0.self, va_S.rf⟩
  have hA : ∀ q, s.heap.size ≤ q → va_A (wB cy h kp σ) s.heap.size q := fun q h => Or.inr h
  have hl := lv_entry ([.ref (h 104)]) (n := 1) (Nat.le_of_ble_eq_true rfl)
  rw [lg_entry_eq]
  generalize (lg_sl ([.ref (h 104)]) ++ List.replicate (1 - (lg_sl ([.ref (h 104)])).length) Slot.unset).toArray = ls at hl ⊢
  have hl : lv_has ls 1 [(0, .ref (h 104))] := hl
  unfold fX4_refusal at hf
  refine lv_aload_n G.1 G.2.1 dX4_refusal_0 rfl (lv_at hl 0 rfl) ?_
  refine k_get G inlX4 hK hW 0 rfl rfl 3 (by decide) q_1_20 rfl dX4_refusal_1 ?_
  cases hf
  exact k_iret G hr hlk hK hW dX4_refusal_4

set_option maxHeartbeats 4000000 in
set_option maxRecDepth 100000 in
theorem mX4_checkReservation (l : Launch) (hT : l.stackTraces = false) (D : va_G) (cy : ClassId) (h : Nat → Nat) (kp : Nat) (sz n : Nat) (σ : St) (x1 : Int32) {o : XRg Int32} (hf : fX4_checkReservation n σ x1 = some o) : Xv l yX4_checkReservation (ws_ yX4_checkReservation cX4_checkReservation 2 none) { frames := 6, cells := 1, slots := 6, locals := 90 } D cy (wB cy h kp) σ sz [.ref (h 104), .int x1] o 1 6 := by
  refine vx_ofW (cc := cX4_checkReservation) (maxL := 2) (ret := none) (by decide) rfl ?_
  intro p e s m args below meth c s₁ B hml htab hv
  obtain ⟨rfl, hsz, hP, hK, hD0, hX⟩ := hv
  subst hsz
  have hts := atoms_spec (ws := ws_ yX4_checkReservation cX4_checkReservation 2 none) B.pre
  have G : CallFix p m c cX4_checkReservation 2 s _ wA RX4 := ⟨B.exec, B.bytes, hml, findClass_of_methodNamed B.named, fun w h => hts w (List.mem_cons_of_mem _ h)⟩
  have hr := B.returns
  have hlk := B.notSynchronized
  have hW : KW D (va_A (wB cy h kp σ) s.heap.size) s.heap (wB cy h kp σ) s.heap [] := ⟨hP, hD0.self, va_S.rf⟩
  have hA : ∀ q, s.heap.size ≤ q → va_A (wB cy h kp σ) s.heap.size q := fun q h => Or.inr h
  have hl := lv_entry ([.ref (h 104), .int x1]) (n := 2) (Nat.le_of_ble_eq_true rfl)
  rw [lg_entry_eq]
  generalize (lg_sl ([.ref (h 104), .int x1]) ++ List.replicate (2 - (lg_sl ([.ref (h 104), .int x1])).length) Slot.unset).toArray = ls at hl ⊢
  have hl : lv_has ls 2 [(0, .ref (h 104)), (1, .int x1)] := hl
  unfold fX4_checkReservation at hf
  refine lv_iload_n G.1 G.2.1 dX4_checkReservation_0 rfl (lv_at hl 1 rfl) ?_
  refine lv_if_lt (tgt := 15) G.1 G.2.1 dX4_checkReservation_1 (by decide) (fun c1 => ?_) (fun c1 => ?_)
  · replace hf := it c1 hf
    exact kx_throwW (w := wB cy h kp) G hT hX hW htab hlk hl.1 (165, xIO) (List.mem_of_getElem? (i := 2) rfl) (258, "there is no such reservation") (List.mem_of_getElem? (i := 16) rfl) q_14_6 q_14_7 dX4_checkReservation_15 dX4_checkReservation_18 dX4_checkReservation_19 dX4_checkReservation_22 dX4_checkReservation_25 (Nat.le_of_ble_eq_true rfl) (Nat.le_of_ble_eq_true rfl) (Nat.le_of_ble_eq_true rfl) (Nat.le_of_ble_eq_true rfl) (Option.some.inj hf).symm (Nat.le_of_ble_eq_true rfl) (Nat.le_of_ble_eq_true rfl)
  · replace hf := ie c1 hf
    refine lv_iload_n G.1 G.2.1 dX4_checkReservation_4 rfl (lv_at hl 1 rfl) ?_
    refine lv_aload_n G.1 G.2.1 dX4_checkReservation_5 rfl (lv_at hl 0 rfl) ?_
    refine k_get G inlX4 hK hW 0 rfl rfl 0 (by decide) q_1_17 rfl dX4_checkReservation_6 ?_
    refine k_get G inlX0 hK hW 1 rfl rfl 5 (by decide) q_16_6 rfl dX4_checkReservation_9 ?_
    refine lv_icmp_lt (tgt := 26) G.1 G.2.1 dX4_checkReservation_12 (by decide) (fun c12 => ?_) (fun c12 => ?_)
    · replace hf := it c12 hf
      refine lv_aload_n G.1 G.2.1 dX4_checkReservation_26 rfl (lv_at hl 0 rfl) ?_
      refine k_get G inlX4 hK hW 0 rfl rfl 0 (by decide) q_1_17 rfl dX4_checkReservation_27 ?_
      refine k_get G inlX0 hK hW 1 rfl rfl 0 (by decide) q_16_7 rfl dX4_checkReservation_30 ?_
      refine lv_bipush (v := (24 : Int32)) G.1 G.2.1 dX4_checkReservation_33 (by decide) ?_
      refine lv_iload_n G.1 G.2.1 dX4_checkReservation_35 rfl (lv_at hl 1 rfl) ?_
      refine lv_iadd G.1 G.2.1 dX4_checkReservation_36 ?_
      obtain ⟨v1, ev1, hf⟩ := ob hf
      refine kc_i (wr := [(h 104, .inr (6, [.ref (h 103), .ref kp, .int (σ 28 0), .int (σ 29 0)]))]) (w := wC cy h σ) (w' := wC cy h σ) (n := 1) (As := [.int ((24 : Int32) + x1)]) (C := RX3) G hK hA hW (mX3_isUsed l D cy h _ n σ ((24 : Int32) + x1) ev1) (gV q_17_17 q_17_18 q_17_19 q_2_2 q_17_20) ⟨rfl, rfl⟩ (by decide +kernel) ⟨Nat.le_of_ble_eq_true rfl, Nat.le_of_ble_eq_true rfl⟩ (va_recv hK.1 hW.1 (ci := 5) (q0 := 5) rfl rfl) rfl hl.1 rfl (Nat.le_of_ble_eq_true rfl) dX4_checkReservation_37 ⟨Nat.le_of_ble_eq_true rfl, Nat.le_of_ble_eq_true rfl⟩ (fun H locs hW => ?_)
      refine lv_if_ne (tgt := 54) G.1 G.2.1 dX4_checkReservation_40 (by decide) (fun c40 => ?_) (fun c40 => ?_)
      · replace hf := ie c40 hf
        exact kx_vret (w := wB cy h kp) G hr hlk hW (Option.some.inj hf).symm (Nat.le_of_ble_eq_true rfl) (Nat.le_of_ble_eq_true rfl) dX4_checkReservation_54
      · replace hf := it c40 hf
        exact kx_throwW (w := wB cy h kp) G hT hX hW htab hlk hl.1 (57, xIS) (List.mem_of_getElem? (i := 1) rfl) (263, "the reservation is cancelled") (List.mem_of_getElem? (i := 17) rfl) q_4_22 q_4_23 dX4_checkReservation_43 dX4_checkReservation_46 dX4_checkReservation_47 dX4_checkReservation_50 dX4_checkReservation_53 (Nat.le_of_ble_eq_true rfl) (Nat.le_of_ble_eq_true rfl) (Nat.le_of_ble_eq_true rfl) (Nat.le_of_ble_eq_true rfl) (Option.some.inj hf).symm (Nat.le_of_ble_eq_true rfl) (Nat.le_of_ble_eq_true rfl)
    · replace hf := ie c12 hf
      exact kx_throwW (w := wB cy h kp) G hT hX hW htab hlk hl.1 (165, xIO) (List.mem_of_getElem? (i := 2) rfl) (258, "there is no such reservation") (List.mem_of_getElem? (i := 16) rfl) q_14_6 q_14_7 dX4_checkReservation_15 dX4_checkReservation_18 dX4_checkReservation_19 dX4_checkReservation_22 dX4_checkReservation_25 (Nat.le_of_ble_eq_true rfl) (Nat.le_of_ble_eq_true rfl) (Nat.le_of_ble_eq_true rfl) (Nat.le_of_ble_eq_true rfl) (Option.some.inj hf).symm (Nat.le_of_ble_eq_true rfl) (Nat.le_of_ble_eq_true rfl)

set_option maxHeartbeats 4000000 in
set_option maxRecDepth 100000 in
theorem mX4_cancelReservation (l : Launch) (hT : l.stackTraces = false) (D : va_G) (cy : ClassId) (h : Nat → Nat) (kp : Nat) (sz n : Nat) (σ : St) (x1 : Int32) {o : XRg Int32} (hf : fX4_cancelReservation n σ x1 = some o) : Xv l yX4_cancelReservation (ws_ yX4_cancelReservation cX4_cancelReservation 2 none) { frames := 7, cells := 1, slots := 6, locals := 140 } D cy (wB cy h kp) σ sz [.ref (h 104), .int x1] o 1 6 := by
  refine vx_ofW (cc := cX4_cancelReservation) (maxL := 2) (ret := none) (by decide) rfl ?_
  intro p e s m args below meth c s₁ B hml htab hv
  obtain ⟨rfl, hsz, hP, hK, hD0, hX⟩ := hv
  subst hsz
  have hts := atoms_spec (ws := ws_ yX4_cancelReservation cX4_cancelReservation 2 none) B.pre
  have G : CallFix p m c cX4_cancelReservation 2 s _ wA RX4 := ⟨B.exec, B.bytes, hml, findClass_of_methodNamed B.named, fun w h => hts w (List.mem_cons_of_mem _ h)⟩
  have hr := B.returns
  have hlk := B.notSynchronized
  have hW : KW D (va_A (wB cy h kp σ) s.heap.size) s.heap (wB cy h kp σ) s.heap [] := ⟨hP, hD0.self, va_S.rf⟩
  have hA : ∀ q, s.heap.size ≤ q → va_A (wB cy h kp σ) s.heap.size q := fun q h => Or.inr h
  have hl := lv_entry ([.ref (h 104), .int x1]) (n := 2) (Nat.le_of_ble_eq_true rfl)
  rw [lg_entry_eq]
  generalize (lg_sl ([.ref (h 104), .int x1]) ++ List.replicate (2 - (lg_sl ([.ref (h 104), .int x1])).length) Slot.unset).toArray = ls at hl ⊢
  have hl : lv_has ls 2 [(0, .ref (h 104)), (1, .int x1)] := hl
  unfold fX4_cancelReservation at hf
  refine lv_aload_n G.1 G.2.1 dX4_cancelReservation_0 rfl (lv_at hl 0 rfl) ?_
  refine lv_iload_n G.1 G.2.1 dX4_cancelReservation_1 rfl (lv_at hl 1 rfl) ?_
  refine kxc_v (w := wB cy h kp) (n := 1) (As := [.int x1]) (C := RX4) G hK hX hA hW htab hlk hf (fun z hz => mX4_checkReservation l hT D cy h kp _ n σ x1 hz) (gV q_17_13 q_17_14 q_17_15 q_1_2 q_17_16) ⟨rfl, rfl⟩ (by decide +kernel) ⟨Nat.le_of_ble_eq_true rfl, Nat.le_of_ble_eq_true rfl⟩ (va_recv hK.1 hW.1 (ci := 6) (q0 := 0) rfl rfl) rfl hl.1 rfl (Nat.le_of_ble_eq_true rfl) dX4_cancelReservation_2 ⟨Nat.le_of_ble_eq_true rfl, Nat.le_of_ble_eq_true rfl⟩ (Nat.le_of_ble_eq_true rfl) (Nat.le_of_ble_eq_true rfl) (fun v1 s2 H locs hf hW => ?_)
  refine lv_aload_n G.1 G.2.1 dX4_cancelReservation_5 rfl (lv_at hl 0 rfl) ?_
  refine k_get G inlX4 hK hW 0 rfl rfl 0 (by decide) q_1_17 rfl dX4_cancelReservation_6 ?_
  refine lv_iload_n G.1 G.2.1 dX4_cancelReservation_9 rfl (lv_at hl 1 rfl) ?_
  obtain ⟨s3, es3, hf⟩ := ob hf
  refine kc_v (wr := [(h 104, .inr (6, [.ref (h 103), .ref kp, .int (s2 28 0), .int (s2 29 0)]))]) (w := wC cy h s2) (w' := wC cy h s3) (n := 1) (As := [.int x1]) (C := RX0) G hK hA hW (mX0_dropReservation l D cy h _ n s2 x1 es3) (gV q_17_21 q_17_22 q_17_23 q_1_16 q_18_0) ⟨rfl, rfl⟩ (by decide +kernel) ⟨Nat.le_of_ble_eq_true rfl, Nat.le_of_ble_eq_true rfl⟩ (va_recv hK.1 hW.1 (ci := 2) (q0 := 1) rfl rfl) rfl hl.1 rfl (Nat.le_of_ble_eq_true rfl) dX4_cancelReservation_10 ⟨Nat.le_of_ble_eq_true rfl, Nat.le_of_ble_eq_true rfl⟩ (fun H locs hW => ?_)
  obtain ⟨s4, es4, hf⟩ := ob hf
  replace hW : KW D (va_A (wB cy h kp σ) s.heap.size) s.heap (wB cy h kp s4) H locs := by cases es4; exact hW
  exact kx_vret (w := wB cy h kp) G hr hlk hW (Option.some.inj hf).symm (Nat.le_of_ble_eq_true rfl) (Nat.le_of_ble_eq_true rfl) dX4_cancelReservation_13

set_option maxHeartbeats 4000000 in
set_option maxRecDepth 100000 in
theorem mX4_reservedProcessor (l : Launch) (hT : l.stackTraces = false) (D : va_G) (cy : ClassId) (h : Nat → Nat) (kp : Nat) (sz n : Nat) (σ : St) (x1 : Int32) {o : XRg Int32} (hf : fX4_reservedProcessor n σ x1 = some o) : Xi l yX4_reservedProcessor (ws_ yX4_reservedProcessor cX4_reservedProcessor 2 (some .int)) { frames := 7, cells := 1, slots := 6, locals := 111 } D cy (wB cy h kp) σ sz [.ref (h 104), .int x1] o 1 6 := by
  refine vx_ofW (cc := cX4_reservedProcessor) (maxL := 2) (ret := (some .int)) (by decide) rfl ?_
  intro p e s m args below meth c s₁ B hml htab hv
  obtain ⟨rfl, hsz, hP, hK, hD0, hX⟩ := hv
  subst hsz
  have hts := atoms_spec (ws := ws_ yX4_reservedProcessor cX4_reservedProcessor 2 (some .int)) B.pre
  have G : CallFix p m c cX4_reservedProcessor 2 s _ wA RX4 := ⟨B.exec, B.bytes, hml, findClass_of_methodNamed B.named, fun w h => hts w (List.mem_cons_of_mem _ h)⟩
  have hr := B.returns
  have hlk := B.notSynchronized
  have hW : KW D (va_A (wB cy h kp σ) s.heap.size) s.heap (wB cy h kp σ) s.heap [] := ⟨hP, hD0.self, va_S.rf⟩
  have hA : ∀ q, s.heap.size ≤ q → va_A (wB cy h kp σ) s.heap.size q := fun q h => Or.inr h
  have hl := lv_entry ([.ref (h 104), .int x1]) (n := 2) (Nat.le_of_ble_eq_true rfl)
  rw [lg_entry_eq]
  generalize (lg_sl ([.ref (h 104), .int x1]) ++ List.replicate (2 - (lg_sl ([.ref (h 104), .int x1])).length) Slot.unset).toArray = ls at hl ⊢
  have hl : lv_has ls 2 [(0, .ref (h 104)), (1, .int x1)] := hl
  unfold fX4_reservedProcessor at hf
  refine lv_aload_n G.1 G.2.1 dX4_reservedProcessor_0 rfl (lv_at hl 0 rfl) ?_
  refine lv_iload_n G.1 G.2.1 dX4_reservedProcessor_1 rfl (lv_at hl 1 rfl) ?_
  refine kxc_v (w := wB cy h kp) (n := 1) (As := [.int x1]) (C := RX4) G hK hX hA hW htab hlk hf (fun z hz => mX4_checkReservation l hT D cy h kp _ n σ x1 hz) (gV q_17_13 q_17_14 q_17_15 q_1_2 q_17_16) ⟨rfl, rfl⟩ (by decide +kernel) ⟨Nat.le_of_ble_eq_true rfl, Nat.le_of_ble_eq_true rfl⟩ (va_recv hK.1 hW.1 (ci := 6) (q0 := 0) rfl rfl) rfl hl.1 rfl (Nat.le_of_ble_eq_true rfl) dX4_reservedProcessor_2 ⟨Nat.le_of_ble_eq_true rfl, Nat.le_of_ble_eq_true rfl⟩ (Nat.le_of_ble_eq_true rfl) (Nat.le_of_ble_eq_true rfl) (fun v1 s2 H locs hf hW => ?_)
  refine lv_aload_n G.1 G.2.1 dX4_reservedProcessor_5 rfl (lv_at hl 0 rfl) ?_
  refine k_get G inlX4 hK hW 0 rfl rfl 0 (by decide) q_1_17 rfl dX4_reservedProcessor_6 ?_
  refine k_get G inlX0 hK hW 1 rfl rfl 0 (by decide) q_16_7 rfl dX4_reservedProcessor_9 ?_
  refine k_get G inlX3 hK hW 5 rfl rfl 1 (by decide) q_18_16 rfl dX4_reservedProcessor_12 ?_
  refine lv_bipush (v := (24 : Int32)) G.1 G.2.1 dX4_reservedProcessor_15 (by decide) ?_
  refine lv_iload_n G.1 G.2.1 dX4_reservedProcessor_17 rfl (lv_at hl 1 rfl) ?_
  refine lv_iadd G.1 G.2.1 dX4_reservedProcessor_18 ?_
  obtain ⟨v3, ev3, hf⟩ := ob hf
  refine k_ald G hK hW 7 rfl ev3 dX4_reservedProcessor_19 ?_
  exact kx_iret (w := wB cy h kp) G hr hlk hW (Option.some.inj hf).symm (Nat.le_of_ble_eq_true rfl) (Nat.le_of_ble_eq_true rfl) dX4_reservedProcessor_20

set_option maxHeartbeats 4000000 in
set_option maxRecDepth 100000 in
theorem mX4_setFair (l : Launch) (D : va_G) (cy : ClassId) (h : Nat → Nat) (kp : Nat) (sz n : Nat) (σ : St) (x1 : Int32) {r : Int32} {σ' : St} (hf : fX4_setFair n σ x1 = some (r, σ')) : Mi l yX4_setFair (ws_ yX4_setFair cX4_setFair 3 (some .boolean)) { frames := 0, cells := 0, slots := 0, locals := 0 } D cy (wB cy h kp σ) (wB cy h kp σ') sz [.ref (h 104), .int x1] r := by
  refine Met.ofW (cc := cX4_setFair) (maxL := 3) (ret := (some .boolean)) (by decide) rfl ?_
  intro p e s m args below meth c s₁ B hml hv
  obtain ⟨rfl, hsz, hP, hK, hD0⟩ := hv
  subst hsz
  have hts := atoms_spec (ws := ws_ yX4_setFair cX4_setFair 3 (some .boolean)) B.pre
  have G : CallFix p m c cX4_setFair 3 s _ wA RX4 := ⟨B.exec, B.bytes, hml, findClass_of_methodNamed B.named, fun w h => hts w (List.mem_cons_of_mem _ h)⟩
  have hr := B.returns
  have hlk := B.notSynchronized
  have hW : KW D (va_A (wB cy h kp σ) s.heap.size) s.heap (wB cy h kp σ) s.heap [] := ⟨hP, hD0.self, va_S.rf⟩
  have hA : ∀ q, s.heap.size ≤ q → va_A (wB cy h kp σ) s.heap.size q := fun q h => Or.inr h
  have hl := lv_entry ([.ref (h 104), .int x1]) (n := 3) (Nat.le_of_ble_eq_true rfl)
  rw [lg_entry_eq]
  generalize (lg_sl ([.ref (h 104), .int x1]) ++ List.replicate (3 - (lg_sl ([.ref (h 104), .int x1])).length) Slot.unset).toArray = ls at hl ⊢
  have hl : lv_has ls 3 [(0, .ref (h 104)), (1, .int x1)] := hl
  unfold fX4_setFair at hf
  refine lv_aload_n G.1 G.2.1 dX4_setFair_0 rfl (lv_at hl 0 rfl) ?_
  refine k_get G inlX4 hK hW 0 rfl rfl 0 (by decide) q_1_17 rfl dX4_setFair_1 ?_
  refine k_get G inlX0 hK hW 1 rfl rfl 6 (by decide) q_19_1 rfl dX4_setFair_4 ?_
  refine lv_istore_n (lv' := [(2, .int (σ 27 0)), (0, .ref (h 104)), (1, .int x1)]) G.1 G.2.1 dX4_setFair_7 rfl hl (by decide) rfl (fun ls hl => ?_)
  refine lv_aload_n G.1 G.2.1 dX4_setFair_8 rfl (lv_at hl 1 rfl) ?_
  refine k_get G inlX4 hK hW 0 rfl rfl 0 (by decide) q_1_17 rfl dX4_setFair_9 ?_
  refine lv_iload_n G.1 G.2.1 dX4_setFair_12 rfl (lv_at hl 2 rfl) ?_
  obtain ⟨s1, es1, hf⟩ := ob hf
  refine k_putz (w := wB cy h kp) G inlX0 tyX0 tyX0_ok nmX0 hK hW 1 27 rfl rfl 6 (by decide) q_19_1 rfl (by decide +kernel) (Nat.le_of_ble_eq_true rfl) rfl es1 dX4_setFair_13 (fun H locs hW => ?_)
  refine lv_iload_n G.1 G.2.1 dX4_setFair_16 rfl (lv_at hl 0 rfl) ?_
  obtain ⟨v2, ev2, hf⟩ := ob hf
  obtain ⟨zv2, ev2⟩ := gz_s ev2
  rw [ev2] at hf
  cases hf
  exact k_zret G hr hlk hK hW (by rcases zv2 with h9 | h9 <;> rw [h9] <;> rfl) dX4_setFair_17

set_option maxHeartbeats 4000000 in
set_option maxRecDepth 100000 in
theorem mX4_clock (l : Launch) (D : va_G) (cy : ClassId) (h : Nat → Nat) (kp : Nat) (sz n : Nat) (σ : St) {r : Int32} (hf : fX4_clock n σ = some r) : Mi l yX4_clock (ws_ yX4_clock cX4_clock 1 (some .int)) { frames := 0, cells := 0, slots := 0, locals := 0 } D cy (wB cy h kp σ) (wB cy h kp σ) sz [.ref (h 104)] r := by
  refine Met.ofW (cc := cX4_clock) (maxL := 1) (ret := (some .int)) (by decide) rfl ?_
  intro p e s m args below meth c s₁ B hml hv
  obtain ⟨rfl, hsz, hP, hK, hD0⟩ := hv
  subst hsz
  have hts := atoms_spec (ws := ws_ yX4_clock cX4_clock 1 (some .int)) B.pre
  have G : CallFix p m c cX4_clock 1 s _ wA RX4 := ⟨B.exec, B.bytes, hml, findClass_of_methodNamed B.named, fun w h => hts w (List.mem_cons_of_mem _ h)⟩
  have hr := B.returns
  have hlk := B.notSynchronized
  have hW : KW D (va_A (wB cy h kp σ) s.heap.size) s.heap (wB cy h kp σ) s.heap [] := ⟨hP, hD0.self, va_S.rf⟩
  have hA : ∀ q, s.heap.size ≤ q → va_A (wB cy h kp σ) s.heap.size q := fun q h => Or.inr h
  have hl := lv_entry ([.ref (h 104)]) (n := 1) (Nat.le_of_ble_eq_true rfl)
  rw [lg_entry_eq]
  generalize (lg_sl ([.ref (h 104)]) ++ List.replicate (1 - (lg_sl ([.ref (h 104)])).length) Slot.unset).toArray = ls at hl ⊢
  have hl : lv_has ls 1 [(0, .ref (h 104))] := hl
  unfold fX4_clock at hf
  refine lv_aload_n G.1 G.2.1 dX4_clock_0 rfl (lv_at hl 0 rfl) ?_
  refine k_get G inlX4 hK hW 0 rfl rfl 0 (by decide) q_1_17 rfl dX4_clock_1 ?_
  refine k_get G inlX0 hK hW 1 rfl rfl 4 (by decide) q_10_20 rfl dX4_clock_4 ?_
  cases hf
  exact k_iret G hr hlk hK hW dX4_clock_7

set_option maxHeartbeats 4000000 in
set_option maxRecDepth 100000 in
theorem mX4_jobCount (l : Launch) (D : va_G) (cy : ClassId) (h : Nat → Nat) (kp : Nat) (sz n : Nat) (σ : St) {r : Int32} (hf : fX4_jobCount n σ = some r) : Mi l yX4_jobCount (ws_ yX4_jobCount cX4_jobCount 1 (some .int)) { frames := 0, cells := 0, slots := 0, locals := 0 } D cy (wB cy h kp σ) (wB cy h kp σ) sz [.ref (h 104)] r := by
  refine Met.ofW (cc := cX4_jobCount) (maxL := 1) (ret := (some .int)) (by decide) rfl ?_
  intro p e s m args below meth c s₁ B hml hv
  obtain ⟨rfl, hsz, hP, hK, hD0⟩ := hv
  subst hsz
  have hts := atoms_spec (ws := ws_ yX4_jobCount cX4_jobCount 1 (some .int)) B.pre
  have G : CallFix p m c cX4_jobCount 1 s _ wA RX4 := ⟨B.exec, B.bytes, hml, findClass_of_methodNamed B.named, fun w h => hts w (List.mem_cons_of_mem _ h)⟩
  have hr := B.returns
  have hlk := B.notSynchronized
  have hW : KW D (va_A (wB cy h kp σ) s.heap.size) s.heap (wB cy h kp σ) s.heap [] := ⟨hP, hD0.self, va_S.rf⟩
  have hA : ∀ q, s.heap.size ≤ q → va_A (wB cy h kp σ) s.heap.size q := fun q h => Or.inr h
  have hl := lv_entry ([.ref (h 104)]) (n := 1) (Nat.le_of_ble_eq_true rfl)
  rw [lg_entry_eq]
  generalize (lg_sl ([.ref (h 104)]) ++ List.replicate (1 - (lg_sl ([.ref (h 104)])).length) Slot.unset).toArray = ls at hl ⊢
  have hl : lv_has ls 1 [(0, .ref (h 104))] := hl
  unfold fX4_jobCount at hf
  refine lv_aload_n G.1 G.2.1 dX4_jobCount_0 rfl (lv_at hl 0 rfl) ?_
  refine k_get G inlX4 hK hW 0 rfl rfl 0 (by decide) q_1_17 rfl dX4_jobCount_1 ?_
  refine k_get G inlX0 hK hW 1 rfl rfl 1 (by decide) q_5_0 rfl dX4_jobCount_4 ?_
  refine k_get G inlX2 hK hW 10 rfl rfl 0 (by decide) q_5_1 rfl dX4_jobCount_7 ?_
  cases hf
  exact k_iret G hr hlk hK hW dX4_jobCount_10

set_option maxHeartbeats 4000000 in
set_option maxRecDepth 100000 in
theorem mX4_state (l : Launch) (hT : l.stackTraces = false) (D : va_G) (cy : ClassId) (h : Nat → Nat) (kp : Nat) (sz n : Nat) (σ : St) (x1 : Int32) {o : XRg Int32} (hf : fX4_state n σ x1 = some o) : Xi l yX4_state (ws_ yX4_state cX4_state 2 (some .int)) { frames := 7, cells := 1, slots := 6, locals := 111 } D cy (wB cy h kp) σ sz [.ref (h 104), .int x1] o 1 6 := by
  refine vx_ofW (cc := cX4_state) (maxL := 2) (ret := (some .int)) (by decide) rfl ?_
  intro p e s m args below meth c s₁ B hml htab hv
  obtain ⟨rfl, hsz, hP, hK, hD0, hX⟩ := hv
  subst hsz
  have hts := atoms_spec (ws := ws_ yX4_state cX4_state 2 (some .int)) B.pre
  have G : CallFix p m c cX4_state 2 s _ wA RX4 := ⟨B.exec, B.bytes, hml, findClass_of_methodNamed B.named, fun w h => hts w (List.mem_cons_of_mem _ h)⟩
  have hr := B.returns
  have hlk := B.notSynchronized
  have hW : KW D (va_A (wB cy h kp σ) s.heap.size) s.heap (wB cy h kp σ) s.heap [] := ⟨hP, hD0.self, va_S.rf⟩
  have hA : ∀ q, s.heap.size ≤ q → va_A (wB cy h kp σ) s.heap.size q := fun q h => Or.inr h
  have hl := lv_entry ([.ref (h 104), .int x1]) (n := 2) (Nat.le_of_ble_eq_true rfl)
  rw [lg_entry_eq]
  generalize (lg_sl ([.ref (h 104), .int x1]) ++ List.replicate (2 - (lg_sl ([.ref (h 104), .int x1])).length) Slot.unset).toArray = ls at hl ⊢
  have hl : lv_has ls 2 [(0, .ref (h 104)), (1, .int x1)] := hl
  unfold fX4_state at hf
  refine lv_aload_n G.1 G.2.1 dX4_state_0 rfl (lv_at hl 0 rfl) ?_
  refine lv_iload_n G.1 G.2.1 dX4_state_1 rfl (lv_at hl 1 rfl) ?_
  refine kxc_v (w := wB cy h kp) (n := 1) (As := [.int x1]) (C := RX4) G hK hX hA hW htab hlk hf (fun z hz => mX4_checkJob l hT D cy h kp _ n σ x1 hz) (gV q_14_2 q_14_3 q_14_4 q_1_2 q_14_5) ⟨rfl, rfl⟩ (by decide +kernel) ⟨Nat.le_of_ble_eq_true rfl, Nat.le_of_ble_eq_true rfl⟩ (va_recv hK.1 hW.1 (ci := 6) (q0 := 0) rfl rfl) rfl hl.1 rfl (Nat.le_of_ble_eq_true rfl) dX4_state_2 ⟨Nat.le_of_ble_eq_true rfl, Nat.le_of_ble_eq_true rfl⟩ (Nat.le_of_ble_eq_true rfl) (Nat.le_of_ble_eq_true rfl) (fun v1 s2 H locs hf hW => ?_)
  refine lv_aload_n G.1 G.2.1 dX4_state_5 rfl (lv_at hl 0 rfl) ?_
  refine k_get G inlX4 hK hW 0 rfl rfl 0 (by decide) q_1_17 rfl dX4_state_6 ?_
  refine k_get G inlX0 hK hW 1 rfl rfl 1 (by decide) q_5_0 rfl dX4_state_9 ?_
  refine k_get G inlX2 hK hW 10 rfl rfl 5 (by decide) q_14_1 rfl dX4_state_12 ?_
  refine lv_iload_n G.1 G.2.1 dX4_state_15 rfl (lv_at hl 1 rfl) ?_
  obtain ⟨v3, ev3, hf⟩ := ob hf
  refine k_ald G hK hW 15 rfl ev3 dX4_state_16 ?_
  exact kx_iret (w := wB cy h kp) G hr hlk hW (Option.some.inj hf).symm (Nat.le_of_ble_eq_true rfl) (Nat.le_of_ble_eq_true rfl) dX4_state_17

set_option maxHeartbeats 4000000 in
set_option maxRecDepth 100000 in
theorem mX4_startTime (l : Launch) (hT : l.stackTraces = false) (D : va_G) (cy : ClassId) (h : Nat → Nat) (kp : Nat) (sz n : Nat) (σ : St) (x1 : Int32) {o : XRg Int32} (hf : fX4_startTime n σ x1 = some o) : Xi l yX4_startTime (ws_ yX4_startTime cX4_startTime 2 (some .int)) { frames := 7, cells := 2, slots := 12, locals := 112 } D cy (wB cy h kp) σ sz [.ref (h 104), .int x1] o 2 12 := by
  refine vx_ofW (cc := cX4_startTime) (maxL := 2) (ret := (some .int)) (by decide) rfl ?_
  intro p e s m args below meth c s₁ B hml htab hv
  obtain ⟨rfl, hsz, hP, hK, hD0, hX⟩ := hv
  subst hsz
  have hts := atoms_spec (ws := ws_ yX4_startTime cX4_startTime 2 (some .int)) B.pre
  have G : CallFix p m c cX4_startTime 2 s _ wA RX4 := ⟨B.exec, B.bytes, hml, findClass_of_methodNamed B.named, fun w h => hts w (List.mem_cons_of_mem _ h)⟩
  have hr := B.returns
  have hlk := B.notSynchronized
  have hW : KW D (va_A (wB cy h kp σ) s.heap.size) s.heap (wB cy h kp σ) s.heap [] := ⟨hP, hD0.self, va_S.rf⟩
  have hA : ∀ q, s.heap.size ≤ q → va_A (wB cy h kp σ) s.heap.size q := fun q h => Or.inr h
  have hl := lv_entry ([.ref (h 104), .int x1]) (n := 2) (Nat.le_of_ble_eq_true rfl)
  rw [lg_entry_eq]
  generalize (lg_sl ([.ref (h 104), .int x1]) ++ List.replicate (2 - (lg_sl ([.ref (h 104), .int x1])).length) Slot.unset).toArray = ls at hl ⊢
  have hl : lv_has ls 2 [(0, .ref (h 104)), (1, .int x1)] := hl
  unfold fX4_startTime at hf
  refine lv_aload_n G.1 G.2.1 dX4_startTime_0 rfl (lv_at hl 0 rfl) ?_
  refine lv_iload_n G.1 G.2.1 dX4_startTime_1 rfl (lv_at hl 1 rfl) ?_
  refine kxc_v (w := wB cy h kp) (n := 1) (As := [.int x1]) (C := RX4) G hK hX hA hW htab hlk hf (fun z hz => mX4_checkJob l hT D cy h kp _ n σ x1 hz) (gV q_14_2 q_14_3 q_14_4 q_1_2 q_14_5) ⟨rfl, rfl⟩ (by decide +kernel) ⟨Nat.le_of_ble_eq_true rfl, Nat.le_of_ble_eq_true rfl⟩ (va_recv hK.1 hW.1 (ci := 6) (q0 := 0) rfl rfl) rfl hl.1 rfl (Nat.le_of_ble_eq_true rfl) dX4_startTime_2 ⟨Nat.le_of_ble_eq_true rfl, Nat.le_of_ble_eq_true rfl⟩ (Nat.le_of_ble_eq_true rfl) (Nat.le_of_ble_eq_true rfl) (fun v1 s2 H locs hf hW => ?_)
  refine lv_aload_n G.1 G.2.1 dX4_startTime_5 rfl (lv_at hl 0 rfl) ?_
  refine lv_iload_n G.1 G.2.1 dX4_startTime_6 rfl (lv_at hl 1 rfl) ?_
  refine kxc_v (w := wB cy h kp) (n := 1) (As := [.int x1]) (C := RX4) G hK hX hA hW htab hlk hf (fun z hz => mX4_checkAllocated l hT D cy h kp _ n s2 x1 hz) (gV q_14_8 q_14_9 q_14_10 q_1_2 q_14_11) ⟨rfl, rfl⟩ (by decide +kernel) ⟨Nat.le_of_ble_eq_true rfl, Nat.le_of_ble_eq_true rfl⟩ (va_recv hK.1 hW.1 (ci := 6) (q0 := 0) rfl rfl) rfl hl.1 rfl (Nat.le_of_ble_eq_true rfl) dX4_startTime_7 ⟨Nat.le_of_ble_eq_true rfl, Nat.le_of_ble_eq_true rfl⟩ (Nat.le_of_ble_eq_true rfl) (Nat.le_of_ble_eq_true rfl) (fun v3 s4 H locs hf hW => ?_)
  refine lv_aload_n G.1 G.2.1 dX4_startTime_10 rfl (lv_at hl 0 rfl) ?_
  refine k_get G inlX4 hK hW 0 rfl rfl 0 (by decide) q_1_17 rfl dX4_startTime_11 ?_
  refine k_get G inlX0 hK hW 1 rfl rfl 0 (by decide) q_16_7 rfl dX4_startTime_14 ?_
  refine k_get G inlX3 hK hW 5 rfl rfl 2 (by decide) q_20_16 rfl dX4_startTime_17 ?_
  refine lv_iload_n G.1 G.2.1 dX4_startTime_20 rfl (lv_at hl 1 rfl) ?_
  obtain ⟨v5, ev5, hf⟩ := ob hf
  refine k_ald G hK hW 8 rfl ev5 dX4_startTime_21 ?_
  exact kx_iret (w := wB cy h kp) G hr hlk hW (Option.some.inj hf).symm (Nat.le_of_ble_eq_true rfl) (Nat.le_of_ble_eq_true rfl) dX4_startTime_22

set_option maxHeartbeats 4000000 in
set_option maxRecDepth 100000 in
theorem mX4_firstProcessor (l : Launch) (hT : l.stackTraces = false) (D : va_G) (cy : ClassId) (h : Nat → Nat) (kp : Nat) (sz n : Nat) (σ : St) (x1 : Int32) {o : XRg Int32} (hf : fX4_firstProcessor n σ x1 = some o) : Xi l yX4_firstProcessor (ws_ yX4_firstProcessor cX4_firstProcessor 2 (some .int)) { frames := 7, cells := 2, slots := 12, locals := 112 } D cy (wB cy h kp) σ sz [.ref (h 104), .int x1] o 2 12 := by
  refine vx_ofW (cc := cX4_firstProcessor) (maxL := 2) (ret := (some .int)) (by decide) rfl ?_
  intro p e s m args below meth c s₁ B hml htab hv
  obtain ⟨rfl, hsz, hP, hK, hD0, hX⟩ := hv
  subst hsz
  have hts := atoms_spec (ws := ws_ yX4_firstProcessor cX4_firstProcessor 2 (some .int)) B.pre
  have G : CallFix p m c cX4_firstProcessor 2 s _ wA RX4 := ⟨B.exec, B.bytes, hml, findClass_of_methodNamed B.named, fun w h => hts w (List.mem_cons_of_mem _ h)⟩
  have hr := B.returns
  have hlk := B.notSynchronized
  have hW : KW D (va_A (wB cy h kp σ) s.heap.size) s.heap (wB cy h kp σ) s.heap [] := ⟨hP, hD0.self, va_S.rf⟩
  have hA : ∀ q, s.heap.size ≤ q → va_A (wB cy h kp σ) s.heap.size q := fun q h => Or.inr h
  have hl := lv_entry ([.ref (h 104), .int x1]) (n := 2) (Nat.le_of_ble_eq_true rfl)
  rw [lg_entry_eq]
  generalize (lg_sl ([.ref (h 104), .int x1]) ++ List.replicate (2 - (lg_sl ([.ref (h 104), .int x1])).length) Slot.unset).toArray = ls at hl ⊢
  have hl : lv_has ls 2 [(0, .ref (h 104)), (1, .int x1)] := hl
  unfold fX4_firstProcessor at hf
  refine lv_aload_n G.1 G.2.1 dX4_firstProcessor_0 rfl (lv_at hl 0 rfl) ?_
  refine lv_iload_n G.1 G.2.1 dX4_firstProcessor_1 rfl (lv_at hl 1 rfl) ?_
  refine kxc_v (w := wB cy h kp) (n := 1) (As := [.int x1]) (C := RX4) G hK hX hA hW htab hlk hf (fun z hz => mX4_checkJob l hT D cy h kp _ n σ x1 hz) (gV q_14_2 q_14_3 q_14_4 q_1_2 q_14_5) ⟨rfl, rfl⟩ (by decide +kernel) ⟨Nat.le_of_ble_eq_true rfl, Nat.le_of_ble_eq_true rfl⟩ (va_recv hK.1 hW.1 (ci := 6) (q0 := 0) rfl rfl) rfl hl.1 rfl (Nat.le_of_ble_eq_true rfl) dX4_firstProcessor_2 ⟨Nat.le_of_ble_eq_true rfl, Nat.le_of_ble_eq_true rfl⟩ (Nat.le_of_ble_eq_true rfl) (Nat.le_of_ble_eq_true rfl) (fun v1 s2 H locs hf hW => ?_)
  refine lv_aload_n G.1 G.2.1 dX4_firstProcessor_5 rfl (lv_at hl 0 rfl) ?_
  refine lv_iload_n G.1 G.2.1 dX4_firstProcessor_6 rfl (lv_at hl 1 rfl) ?_
  refine kxc_v (w := wB cy h kp) (n := 1) (As := [.int x1]) (C := RX4) G hK hX hA hW htab hlk hf (fun z hz => mX4_checkAllocated l hT D cy h kp _ n s2 x1 hz) (gV q_14_8 q_14_9 q_14_10 q_1_2 q_14_11) ⟨rfl, rfl⟩ (by decide +kernel) ⟨Nat.le_of_ble_eq_true rfl, Nat.le_of_ble_eq_true rfl⟩ (va_recv hK.1 hW.1 (ci := 6) (q0 := 0) rfl rfl) rfl hl.1 rfl (Nat.le_of_ble_eq_true rfl) dX4_firstProcessor_7 ⟨Nat.le_of_ble_eq_true rfl, Nat.le_of_ble_eq_true rfl⟩ (Nat.le_of_ble_eq_true rfl) (Nat.le_of_ble_eq_true rfl) (fun v3 s4 H locs hf hW => ?_)
  refine lv_aload_n G.1 G.2.1 dX4_firstProcessor_10 rfl (lv_at hl 0 rfl) ?_
  refine k_get G inlX4 hK hW 0 rfl rfl 0 (by decide) q_1_17 rfl dX4_firstProcessor_11 ?_
  refine k_get G inlX0 hK hW 1 rfl rfl 0 (by decide) q_16_7 rfl dX4_firstProcessor_14 ?_
  refine k_get G inlX3 hK hW 5 rfl rfl 1 (by decide) q_18_16 rfl dX4_firstProcessor_17 ?_
  refine lv_iload_n G.1 G.2.1 dX4_firstProcessor_20 rfl (lv_at hl 1 rfl) ?_
  obtain ⟨v5, ev5, hf⟩ := ob hf
  refine k_ald G hK hW 7 rfl ev5 dX4_firstProcessor_21 ?_
  exact kx_iret (w := wB cy h kp) G hr hlk hW (Option.some.inj hf).symm (Nat.le_of_ble_eq_true rfl) (Nat.le_of_ble_eq_true rfl) dX4_firstProcessor_22

set_option maxHeartbeats 4000000 in
set_option maxRecDepth 100000 in
theorem mX4_promise (l : Launch) (hT : l.stackTraces = false) (D : va_G) (cy : ClassId) (h : Nat → Nat) (kp : Nat) (sz n : Nat) (σ : St) (x1 : Int32) {o : XRg Int32} (hf : fX4_promise n σ x1 = some o) : Xi l yX4_promise (ws_ yX4_promise cX4_promise 2 (some .int)) { frames := 7, cells := 1, slots := 6, locals := 111 } D cy (wB cy h kp) σ sz [.ref (h 104), .int x1] o 1 6 := by
  refine vx_ofW (cc := cX4_promise) (maxL := 2) (ret := (some .int)) (by decide) rfl ?_
  intro p e s m args below meth c s₁ B hml htab hv
  obtain ⟨rfl, hsz, hP, hK, hD0, hX⟩ := hv
  subst hsz
  have hts := atoms_spec (ws := ws_ yX4_promise cX4_promise 2 (some .int)) B.pre
  have G : CallFix p m c cX4_promise 2 s _ wA RX4 := ⟨B.exec, B.bytes, hml, findClass_of_methodNamed B.named, fun w h => hts w (List.mem_cons_of_mem _ h)⟩
  have hr := B.returns
  have hlk := B.notSynchronized
  have hW : KW D (va_A (wB cy h kp σ) s.heap.size) s.heap (wB cy h kp σ) s.heap [] := ⟨hP, hD0.self, va_S.rf⟩
  have hA : ∀ q, s.heap.size ≤ q → va_A (wB cy h kp σ) s.heap.size q := fun q h => Or.inr h
  have hl := lv_entry ([.ref (h 104), .int x1]) (n := 2) (Nat.le_of_ble_eq_true rfl)
  rw [lg_entry_eq]
  generalize (lg_sl ([.ref (h 104), .int x1]) ++ List.replicate (2 - (lg_sl ([.ref (h 104), .int x1])).length) Slot.unset).toArray = ls at hl ⊢
  have hl : lv_has ls 2 [(0, .ref (h 104)), (1, .int x1)] := hl
  unfold fX4_promise at hf
  refine lv_aload_n G.1 G.2.1 dX4_promise_0 rfl (lv_at hl 0 rfl) ?_
  refine lv_iload_n G.1 G.2.1 dX4_promise_1 rfl (lv_at hl 1 rfl) ?_
  refine kxc_v (w := wB cy h kp) (n := 1) (As := [.int x1]) (C := RX4) G hK hX hA hW htab hlk hf (fun z hz => mX4_checkJob l hT D cy h kp _ n σ x1 hz) (gV q_14_2 q_14_3 q_14_4 q_1_2 q_14_5) ⟨rfl, rfl⟩ (by decide +kernel) ⟨Nat.le_of_ble_eq_true rfl, Nat.le_of_ble_eq_true rfl⟩ (va_recv hK.1 hW.1 (ci := 6) (q0 := 0) rfl rfl) rfl hl.1 rfl (Nat.le_of_ble_eq_true rfl) dX4_promise_2 ⟨Nat.le_of_ble_eq_true rfl, Nat.le_of_ble_eq_true rfl⟩ (Nat.le_of_ble_eq_true rfl) (Nat.le_of_ble_eq_true rfl) (fun v1 s2 H locs hf hW => ?_)
  refine lv_aload_n G.1 G.2.1 dX4_promise_5 rfl (lv_at hl 0 rfl) ?_
  refine k_get G inlX4 hK hW 0 rfl rfl 0 (by decide) q_1_17 rfl dX4_promise_6 ?_
  refine k_get G inlX0 hK hW 1 rfl rfl 1 (by decide) q_5_0 rfl dX4_promise_9 ?_
  refine k_get G inlX2 hK hW 10 rfl rfl 8 (by decide) q_21_19 rfl dX4_promise_12 ?_
  refine lv_iload_n G.1 G.2.1 dX4_promise_15 rfl (lv_at hl 1 rfl) ?_
  obtain ⟨v3, ev3, hf⟩ := ob hf
  refine k_ald G hK hW 18 rfl ev3 dX4_promise_16 ?_
  exact kx_iret (w := wB cy h kp) G hr hlk hW (Option.some.inj hf).symm (Nat.le_of_ble_eq_true rfl) (Nat.le_of_ble_eq_true rfl) dX4_promise_17

set_option maxHeartbeats 4000000 in
set_option maxRecDepth 100000 in
theorem mX4_checkFinished (l : Launch) (hT : l.stackTraces = false) (D : va_G) (cy : ClassId) (h : Nat → Nat) (kp : Nat) (sz n : Nat) (σ : St) (x1 : Int32) {o : XRg Int32} (hf : fX4_checkFinished n σ x1 = some o) : Xv l yX4_checkFinished (ws_ yX4_checkFinished cX4_checkFinished 2 none) { frames := 6, cells := 1, slots := 6, locals := 90 } D cy (wB cy h kp) σ sz [.ref (h 104), .int x1] o 1 6 := by
  refine vx_ofW (cc := cX4_checkFinished) (maxL := 2) (ret := none) (by decide) rfl ?_
  intro p e s m args below meth c s₁ B hml htab hv
  obtain ⟨rfl, hsz, hP, hK, hD0, hX⟩ := hv
  subst hsz
  have hts := atoms_spec (ws := ws_ yX4_checkFinished cX4_checkFinished 2 none) B.pre
  have G : CallFix p m c cX4_checkFinished 2 s _ wA RX4 := ⟨B.exec, B.bytes, hml, findClass_of_methodNamed B.named, fun w h => hts w (List.mem_cons_of_mem _ h)⟩
  have hr := B.returns
  have hlk := B.notSynchronized
  have hW : KW D (va_A (wB cy h kp σ) s.heap.size) s.heap (wB cy h kp σ) s.heap [] := ⟨hP, hD0.self, va_S.rf⟩
  have hA : ∀ q, s.heap.size ≤ q → va_A (wB cy h kp σ) s.heap.size q := fun q h => Or.inr h
  have hl := lv_entry ([.ref (h 104), .int x1]) (n := 2) (Nat.le_of_ble_eq_true rfl)
  rw [lg_entry_eq]
  generalize (lg_sl ([.ref (h 104), .int x1]) ++ List.replicate (2 - (lg_sl ([.ref (h 104), .int x1])).length) Slot.unset).toArray = ls at hl ⊢
  have hl : lv_has ls 2 [(0, .ref (h 104)), (1, .int x1)] := hl
  unfold fX4_checkFinished at hf
  refine lv_aload_n G.1 G.2.1 dX4_checkFinished_0 rfl (lv_at hl 0 rfl) ?_
  refine k_get G inlX4 hK hW 0 rfl rfl 0 (by decide) q_1_17 rfl dX4_checkFinished_1 ?_
  refine k_get G inlX0 hK hW 1 rfl rfl 1 (by decide) q_5_0 rfl dX4_checkFinished_4 ?_
  refine k_get G inlX2 hK hW 10 rfl rfl 5 (by decide) q_14_1 rfl dX4_checkFinished_7 ?_
  refine lv_iload_n G.1 G.2.1 dX4_checkFinished_10 rfl (lv_at hl 1 rfl) ?_
  obtain ⟨v1, ev1, hf⟩ := ob hf
  refine k_ald G hK hW 15 rfl ev1 dX4_checkFinished_11 ?_
  refine lv_iconst (v := (2 : Int32)) G.1 G.2.1 dX4_checkFinished_12 (by decide) ?_
  refine lv_icmp_eq (tgt := 26) G.1 G.2.1 dX4_checkFinished_13 (by decide) (fun c13 => ?_) (fun c13 => ?_)
  · replace hf := it c13 hf
    exact kx_vret (w := wB cy h kp) G hr hlk hW (Option.some.inj hf).symm (Nat.le_of_ble_eq_true rfl) (Nat.le_of_ble_eq_true rfl) dX4_checkFinished_26
  · replace hf := ie c13 hf
    exact kx_throw (w := wB cy h kp) G hT hX hW htab hlk hl.1 (57, xIS) (List.mem_of_getElem? (i := 1) rfl) (253, "the job is not finished") (List.mem_of_getElem? (i := 15) rfl) q_4_22 q_4_23 dX4_checkFinished_16 dX4_checkFinished_19 dX4_checkFinished_20 dX4_checkFinished_22 dX4_checkFinished_25 (Nat.le_of_ble_eq_true rfl) (Nat.le_of_ble_eq_true rfl) (Nat.le_of_ble_eq_true rfl) (Nat.le_of_ble_eq_true rfl) (Option.some.inj hf).symm (Nat.le_of_ble_eq_true rfl) (Nat.le_of_ble_eq_true rfl)

set_option maxHeartbeats 4000000 in
set_option maxRecDepth 100000 in
theorem mX4_finishTime (l : Launch) (hT : l.stackTraces = false) (D : va_G) (cy : ClassId) (h : Nat → Nat) (kp : Nat) (sz n : Nat) (σ : St) (x1 : Int32) {o : XRg Int32} (hf : fX4_finishTime n σ x1 = some o) : Xi l yX4_finishTime (ws_ yX4_finishTime cX4_finishTime 2 (some .int)) { frames := 7, cells := 2, slots := 12, locals := 111 } D cy (wB cy h kp) σ sz [.ref (h 104), .int x1] o 2 12 := by
  refine vx_ofW (cc := cX4_finishTime) (maxL := 2) (ret := (some .int)) (by decide) rfl ?_
  intro p e s m args below meth c s₁ B hml htab hv
  obtain ⟨rfl, hsz, hP, hK, hD0, hX⟩ := hv
  subst hsz
  have hts := atoms_spec (ws := ws_ yX4_finishTime cX4_finishTime 2 (some .int)) B.pre
  have G : CallFix p m c cX4_finishTime 2 s _ wA RX4 := ⟨B.exec, B.bytes, hml, findClass_of_methodNamed B.named, fun w h => hts w (List.mem_cons_of_mem _ h)⟩
  have hr := B.returns
  have hlk := B.notSynchronized
  have hW : KW D (va_A (wB cy h kp σ) s.heap.size) s.heap (wB cy h kp σ) s.heap [] := ⟨hP, hD0.self, va_S.rf⟩
  have hA : ∀ q, s.heap.size ≤ q → va_A (wB cy h kp σ) s.heap.size q := fun q h => Or.inr h
  have hl := lv_entry ([.ref (h 104), .int x1]) (n := 2) (Nat.le_of_ble_eq_true rfl)
  rw [lg_entry_eq]
  generalize (lg_sl ([.ref (h 104), .int x1]) ++ List.replicate (2 - (lg_sl ([.ref (h 104), .int x1])).length) Slot.unset).toArray = ls at hl ⊢
  have hl : lv_has ls 2 [(0, .ref (h 104)), (1, .int x1)] := hl
  unfold fX4_finishTime at hf
  refine lv_aload_n G.1 G.2.1 dX4_finishTime_0 rfl (lv_at hl 0 rfl) ?_
  refine lv_iload_n G.1 G.2.1 dX4_finishTime_1 rfl (lv_at hl 1 rfl) ?_
  refine kxc_v (w := wB cy h kp) (n := 1) (As := [.int x1]) (C := RX4) G hK hX hA hW htab hlk hf (fun z hz => mX4_checkJob l hT D cy h kp _ n σ x1 hz) (gV q_14_2 q_14_3 q_14_4 q_1_2 q_14_5) ⟨rfl, rfl⟩ (by decide +kernel) ⟨Nat.le_of_ble_eq_true rfl, Nat.le_of_ble_eq_true rfl⟩ (va_recv hK.1 hW.1 (ci := 6) (q0 := 0) rfl rfl) rfl hl.1 rfl (Nat.le_of_ble_eq_true rfl) dX4_finishTime_2 ⟨Nat.le_of_ble_eq_true rfl, Nat.le_of_ble_eq_true rfl⟩ (Nat.le_of_ble_eq_true rfl) (Nat.le_of_ble_eq_true rfl) (fun v1 s2 H locs hf hW => ?_)
  refine lv_aload_n G.1 G.2.1 dX4_finishTime_5 rfl (lv_at hl 0 rfl) ?_
  refine lv_iload_n G.1 G.2.1 dX4_finishTime_6 rfl (lv_at hl 1 rfl) ?_
  refine kxc_v (w := wB cy h kp) (n := 1) (As := [.int x1]) (C := RX4) G hK hX hA hW htab hlk hf (fun z hz => mX4_checkFinished l hT D cy h kp _ n s2 x1 hz) (gV q_22_8 q_22_9 q_22_10 q_1_2 q_22_11) ⟨rfl, rfl⟩ (by decide +kernel) ⟨Nat.le_of_ble_eq_true rfl, Nat.le_of_ble_eq_true rfl⟩ (va_recv hK.1 hW.1 (ci := 6) (q0 := 0) rfl rfl) rfl hl.1 rfl (Nat.le_of_ble_eq_true rfl) dX4_finishTime_7 ⟨Nat.le_of_ble_eq_true rfl, Nat.le_of_ble_eq_true rfl⟩ (Nat.le_of_ble_eq_true rfl) (Nat.le_of_ble_eq_true rfl) (fun v3 s4 H locs hf hW => ?_)
  refine lv_aload_n G.1 G.2.1 dX4_finishTime_10 rfl (lv_at hl 0 rfl) ?_
  refine k_get G inlX4 hK hW 0 rfl rfl 0 (by decide) q_1_17 rfl dX4_finishTime_11 ?_
  refine k_get G inlX0 hK hW 1 rfl rfl 1 (by decide) q_5_0 rfl dX4_finishTime_14 ?_
  refine k_get G inlX2 hK hW 10 rfl rfl 10 (by decide) q_22_7 rfl dX4_finishTime_17 ?_
  refine lv_iload_n G.1 G.2.1 dX4_finishTime_20 rfl (lv_at hl 1 rfl) ?_
  obtain ⟨v5, ev5, hf⟩ := ob hf
  refine k_ald G hK hW 20 rfl ev5 dX4_finishTime_21 ?_
  exact kx_iret (w := wB cy h kp) G hr hlk hW (Option.some.inj hf).symm (Nat.le_of_ble_eq_true rfl) (Nat.le_of_ble_eq_true rfl) dX4_finishTime_22

set_option maxHeartbeats 4000000 in
set_option maxRecDepth 100000 in
theorem mX4_preemptions (l : Launch) (hT : l.stackTraces = false) (D : va_G) (cy : ClassId) (h : Nat → Nat) (kp : Nat) (sz n : Nat) (σ : St) (x1 : Int32) {o : XRg Int32} (hf : fX4_preemptions n σ x1 = some o) : Xi l yX4_preemptions (ws_ yX4_preemptions cX4_preemptions 2 (some .int)) { frames := 7, cells := 1, slots := 6, locals := 111 } D cy (wB cy h kp) σ sz [.ref (h 104), .int x1] o 1 6 := by
  refine vx_ofW (cc := cX4_preemptions) (maxL := 2) (ret := (some .int)) (by decide) rfl ?_
  intro p e s m args below meth c s₁ B hml htab hv
  obtain ⟨rfl, hsz, hP, hK, hD0, hX⟩ := hv
  subst hsz
  have hts := atoms_spec (ws := ws_ yX4_preemptions cX4_preemptions 2 (some .int)) B.pre
  have G : CallFix p m c cX4_preemptions 2 s _ wA RX4 := ⟨B.exec, B.bytes, hml, findClass_of_methodNamed B.named, fun w h => hts w (List.mem_cons_of_mem _ h)⟩
  have hr := B.returns
  have hlk := B.notSynchronized
  have hW : KW D (va_A (wB cy h kp σ) s.heap.size) s.heap (wB cy h kp σ) s.heap [] := ⟨hP, hD0.self, va_S.rf⟩
  have hA : ∀ q, s.heap.size ≤ q → va_A (wB cy h kp σ) s.heap.size q := fun q h => Or.inr h
  have hl := lv_entry ([.ref (h 104), .int x1]) (n := 2) (Nat.le_of_ble_eq_true rfl)
  rw [lg_entry_eq]
  generalize (lg_sl ([.ref (h 104), .int x1]) ++ List.replicate (2 - (lg_sl ([.ref (h 104), .int x1])).length) Slot.unset).toArray = ls at hl ⊢
  have hl : lv_has ls 2 [(0, .ref (h 104)), (1, .int x1)] := hl
  unfold fX4_preemptions at hf
  refine lv_aload_n G.1 G.2.1 dX4_preemptions_0 rfl (lv_at hl 0 rfl) ?_
  refine lv_iload_n G.1 G.2.1 dX4_preemptions_1 rfl (lv_at hl 1 rfl) ?_
  refine kxc_v (w := wB cy h kp) (n := 1) (As := [.int x1]) (C := RX4) G hK hX hA hW htab hlk hf (fun z hz => mX4_checkJob l hT D cy h kp _ n σ x1 hz) (gV q_14_2 q_14_3 q_14_4 q_1_2 q_14_5) ⟨rfl, rfl⟩ (by decide +kernel) ⟨Nat.le_of_ble_eq_true rfl, Nat.le_of_ble_eq_true rfl⟩ (va_recv hK.1 hW.1 (ci := 6) (q0 := 0) rfl rfl) rfl hl.1 rfl (Nat.le_of_ble_eq_true rfl) dX4_preemptions_2 ⟨Nat.le_of_ble_eq_true rfl, Nat.le_of_ble_eq_true rfl⟩ (Nat.le_of_ble_eq_true rfl) (Nat.le_of_ble_eq_true rfl) (fun v1 s2 H locs hf hW => ?_)
  refine lv_aload_n G.1 G.2.1 dX4_preemptions_5 rfl (lv_at hl 0 rfl) ?_
  refine k_get G inlX4 hK hW 0 rfl rfl 0 (by decide) q_1_17 rfl dX4_preemptions_6 ?_
  refine k_get G inlX0 hK hW 1 rfl rfl 1 (by decide) q_5_0 rfl dX4_preemptions_9 ?_
  refine k_get G inlX2 hK hW 10 rfl rfl 11 (by decide) q_22_23 rfl dX4_preemptions_12 ?_
  refine lv_iload_n G.1 G.2.1 dX4_preemptions_15 rfl (lv_at hl 1 rfl) ?_
  obtain ⟨v3, ev3, hf⟩ := ob hf
  refine k_ald G hK hW 21 rfl ev3 dX4_preemptions_16 ?_
  exact kx_iret (w := wB cy h kp) G hr hlk hW (Option.some.inj hf).symm (Nat.le_of_ble_eq_true rfl) (Nat.le_of_ble_eq_true rfl) dX4_preemptions_17

set_option maxHeartbeats 4000000 in
set_option maxRecDepth 100000 in
theorem mX4_waitTime (l : Launch) (hT : l.stackTraces = false) (D : va_G) (cy : ClassId) (h : Nat → Nat) (kp : Nat) (sz n : Nat) (σ : St) (x1 : Int32) {o : XRg Int32} (hf : fX4_waitTime n σ x1 = some o) : Xi l yX4_waitTime (ws_ yX4_waitTime cX4_waitTime 2 (some .int)) { frames := 7, cells := 2, slots := 12, locals := 111 } D cy (wB cy h kp) σ sz [.ref (h 104), .int x1] o 2 12 := by
  refine vx_ofW (cc := cX4_waitTime) (maxL := 2) (ret := (some .int)) (by decide) rfl ?_
  intro p e s m args below meth c s₁ B hml htab hv
  obtain ⟨rfl, hsz, hP, hK, hD0, hX⟩ := hv
  subst hsz
  have hts := atoms_spec (ws := ws_ yX4_waitTime cX4_waitTime 2 (some .int)) B.pre
  have G : CallFix p m c cX4_waitTime 2 s _ wA RX4 := ⟨B.exec, B.bytes, hml, findClass_of_methodNamed B.named, fun w h => hts w (List.mem_cons_of_mem _ h)⟩
  have hr := B.returns
  have hlk := B.notSynchronized
  have hW : KW D (va_A (wB cy h kp σ) s.heap.size) s.heap (wB cy h kp σ) s.heap [] := ⟨hP, hD0.self, va_S.rf⟩
  have hA : ∀ q, s.heap.size ≤ q → va_A (wB cy h kp σ) s.heap.size q := fun q h => Or.inr h
  have hl := lv_entry ([.ref (h 104), .int x1]) (n := 2) (Nat.le_of_ble_eq_true rfl)
  rw [lg_entry_eq]
  generalize (lg_sl ([.ref (h 104), .int x1]) ++ List.replicate (2 - (lg_sl ([.ref (h 104), .int x1])).length) Slot.unset).toArray = ls at hl ⊢
  have hl : lv_has ls 2 [(0, .ref (h 104)), (1, .int x1)] := hl
  unfold fX4_waitTime at hf
  refine lv_aload_n G.1 G.2.1 dX4_waitTime_0 rfl (lv_at hl 0 rfl) ?_
  refine lv_iload_n G.1 G.2.1 dX4_waitTime_1 rfl (lv_at hl 1 rfl) ?_
  refine kxc_v (w := wB cy h kp) (n := 1) (As := [.int x1]) (C := RX4) G hK hX hA hW htab hlk hf (fun z hz => mX4_checkJob l hT D cy h kp _ n σ x1 hz) (gV q_14_2 q_14_3 q_14_4 q_1_2 q_14_5) ⟨rfl, rfl⟩ (by decide +kernel) ⟨Nat.le_of_ble_eq_true rfl, Nat.le_of_ble_eq_true rfl⟩ (va_recv hK.1 hW.1 (ci := 6) (q0 := 0) rfl rfl) rfl hl.1 rfl (Nat.le_of_ble_eq_true rfl) dX4_waitTime_2 ⟨Nat.le_of_ble_eq_true rfl, Nat.le_of_ble_eq_true rfl⟩ (Nat.le_of_ble_eq_true rfl) (Nat.le_of_ble_eq_true rfl) (fun v1 s2 H locs hf hW => ?_)
  refine lv_aload_n G.1 G.2.1 dX4_waitTime_5 rfl (lv_at hl 0 rfl) ?_
  refine k_get G inlX4 hK hW 0 rfl rfl 0 (by decide) q_1_17 rfl dX4_waitTime_6 ?_
  refine k_get G inlX0 hK hW 1 rfl rfl 1 (by decide) q_5_0 rfl dX4_waitTime_9 ?_
  refine lv_iload_n G.1 G.2.1 dX4_waitTime_12 rfl (lv_at hl 1 rfl) ?_
  obtain ⟨v3, ev3, hf⟩ := ob hf
  refine kc_i (wr := [(h 104, .inr (6, [.ref (h 103), .ref kp, .int (s2 28 0), .int (s2 29 0)]))]) (w := wC cy h s2) (w' := wC cy h s2) (n := 1) (As := [.int x1]) (C := RX2) G hK hA hW (mX2_wasStarted l D cy h _ n s2 x1 ev3) (gV q_23_11 q_7_17 q_7_18 q_2_6 q_7_19) ⟨rfl, rfl⟩ (by decide +kernel) ⟨Nat.le_of_ble_eq_true rfl, Nat.le_of_ble_eq_true rfl⟩ (va_recv hK.1 hW.1 (ci := 4) (q0 := 10) rfl rfl) rfl hl.1 rfl (Nat.le_of_ble_eq_true rfl) dX4_waitTime_13 ⟨Nat.le_of_ble_eq_true rfl, Nat.le_of_ble_eq_true rfl⟩ (fun H locs hW => ?_)
  refine lv_if_ne (tgt := 29) G.1 G.2.1 dX4_waitTime_16 (by decide) (fun c16 => ?_) (fun c16 => ?_)
  · replace hf := ie c16 hf
    refine lv_aload_n G.1 G.2.1 dX4_waitTime_29 rfl (lv_at hl 0 rfl) ?_
    refine k_get G inlX4 hK hW 0 rfl rfl 0 (by decide) q_1_17 rfl dX4_waitTime_30 ?_
    refine k_get G inlX0 hK hW 1 rfl rfl 1 (by decide) q_5_0 rfl dX4_waitTime_33 ?_
    refine lv_iload_n G.1 G.2.1 dX4_waitTime_36 rfl (lv_at hl 1 rfl) ?_
    obtain ⟨v4, ev4, hf⟩ := ob hf
    refine kc_i (wr := [(h 104, .inr (6, [.ref (h 103), .ref kp, .int (s2 28 0), .int (s2 29 0)]))]) (w := wC cy h s2) (w' := wC cy h s2) (n := 1) (As := [.int x1]) (C := RX2) G hK hA hW (mX2_waited l D cy h _ n s2 x1 ev4) (gV q_23_12 q_23_13 q_23_14 q_2_6 q_23_15) ⟨rfl, rfl⟩ (by decide +kernel) ⟨Nat.le_of_ble_eq_true rfl, Nat.le_of_ble_eq_true rfl⟩ (va_recv hK.1 hW.1 (ci := 4) (q0 := 10) rfl rfl) rfl hl.1 rfl (Nat.le_of_ble_eq_true rfl) dX4_waitTime_37 ⟨Nat.le_of_ble_eq_true rfl, Nat.le_of_ble_eq_true rfl⟩ (fun H locs hW => ?_)
    exact kx_iret (w := wB cy h kp) G hr hlk hW (Option.some.inj hf).symm (Nat.le_of_ble_eq_true rfl) (Nat.le_of_ble_eq_true rfl) dX4_waitTime_40
  · replace hf := it c16 hf
    exact kx_throw (w := wB cy h kp) G hT hX hW htab hlk hl.1 (57, xIS) (List.mem_of_getElem? (i := 1) rfl) (144, "the job was never started") (List.mem_of_getElem? (i := 1) rfl) q_4_22 q_4_23 dX4_waitTime_19 dX4_waitTime_22 dX4_waitTime_23 dX4_waitTime_25 dX4_waitTime_28 (Nat.le_of_ble_eq_true rfl) (Nat.le_of_ble_eq_true rfl) (Nat.le_of_ble_eq_true rfl) (Nat.le_of_ble_eq_true rfl) (Option.some.inj hf).symm (Nat.le_of_ble_eq_true rfl) (Nat.le_of_ble_eq_true rfl)

set_option maxHeartbeats 4000000 in
set_option maxRecDepth 100000 in
theorem mX4_averageWait (l : Launch) (hT : l.stackTraces = false) (D : va_G) (cy : ClassId) (h : Nat → Nat) (kp : Nat) (sz n : Nat) (σ : St) {o : XRg UInt64} (hf : fX4_averageWait n σ = some o) : Xd l yX4_averageWait (ws_ yX4_averageWait cX4_averageWait 4 (some .double)) { frames := 6, cells := 1, slots := 6, locals := 90 } D cy (wB cy h kp) σ sz [.ref (h 104)] o 1 6 := by
  refine vx_ofW (cc := cX4_averageWait) (maxL := 4) (ret := (some .double)) (by decide) rfl ?_
  intro p e s m args below meth c s₁ B hml htab hv
  obtain ⟨rfl, hsz, hP, hK, hD0, hX⟩ := hv
  subst hsz
  have hts := atoms_spec (ws := ws_ yX4_averageWait cX4_averageWait 4 (some .double)) B.pre
  have G : CallFix p m c cX4_averageWait 4 s _ wA RX4 := ⟨B.exec, B.bytes, hml, findClass_of_methodNamed B.named, fun w h => hts w (List.mem_cons_of_mem _ h)⟩
  have hr := B.returns
  have hlk := B.notSynchronized
  have hW : KW D (va_A (wB cy h kp σ) s.heap.size) s.heap (wB cy h kp σ) s.heap [] := ⟨hP, hD0.self, va_S.rf⟩
  have hA : ∀ q, s.heap.size ≤ q → va_A (wB cy h kp σ) s.heap.size q := fun q h => Or.inr h
  have hl := lv_entry ([.ref (h 104)]) (n := 4) (Nat.le_of_ble_eq_true rfl)
  rw [lg_entry_eq]
  generalize (lg_sl ([.ref (h 104)]) ++ List.replicate (4 - (lg_sl ([.ref (h 104)])).length) Slot.unset).toArray = ls at hl ⊢
  have hl : lv_has ls 4 [(0, .ref (h 104))] := hl
  unfold fX4_averageWait at hf
  refine lv_iconst (v := (0 : Int32)) G.1 G.2.1 dX4_averageWait_0 (by decide) ?_
  refine lv_istore_n (lv' := [(1, .int (0 : Int32)), (0, .ref (h 104))]) G.1 G.2.1 dX4_averageWait_1 rfl hl (by decide) rfl (fun ls hl => ?_)
  refine lv_iconst (v := (0 : Int32)) G.1 G.2.1 dX4_averageWait_2 (by decide) ?_
  refine lv_istore_n (lv' := [(2, .int (0 : Int32)), (1, .int (0 : Int32)), (0, .ref (h 104))]) G.1 G.2.1 dX4_averageWait_3 rfl hl (by decide) rfl (fun ls hl => ?_)
  refine lv_iconst (v := (0 : Int32)) G.1 G.2.1 dX4_averageWait_4 (by decide) ?_
  refine lv_istore_n (lv' := [(3, .int (0 : Int32)), (2, .int (0 : Int32)), (1, .int (0 : Int32)), (0, .ref (h 104))]) G.1 G.2.1 dX4_averageWait_5 rfl hl (by decide) rfl (fun ls hl => ?_)
  have L6 : ∀ (fu : Nat) (y1 : Int32) (y2 : Int32) (y3 : Int32) (H : Heap) (locs : List Loc) (ls : Array Slot), lz3 (fX4_averageWait_b6 n σ) fu y1 y2 y3 = some o → KW D (va_A (wB cy h kp σ) s.heap.size) s.heap (wB cy h kp σ) H locs → lv_has ls 4 [(3, .int y1), (2, .int y2), (1, .int y3), (0, .ref (h 104))] → W p l e (headSpec (ws_ yX4_averageWait cX4_averageWait 4 (some .double)) { frames := 6, cells := 1, slots := 6, locals := 90 }).room s m (([.ref (h 104)] : List Value).toArray) below meth c H locs 0 0 (vx_MQ below (XQd D (va_A (wB cy h kp σ) s.heap.size) (wB cy h kp) o) (XCo D (va_A (wB cy h kp σ) s.heap.size) (wB cy h kp) o) (([.ref (h 104)] : List Value).toArray) s 1 6 (va_A (wB cy h kp σ) s.heap.size)) (F0 m 6 ls []) := by
    intro fu6
    induction fu6 with
    | zero => intro y1 y2 y3 H locs ls hf; cases hf
    | succ fu6 ih6 =>
      intro y1 y2 y3 H locs ls hf hW hl
      rw [lz3_s] at hf
      unfold fX4_averageWait_b6 at hf
      refine lv_iload_n G.1 G.2.1 dX4_averageWait_6 rfl (lv_at hl 0 rfl) ?_
      refine lv_aload_n G.1 G.2.1 dX4_averageWait_7 rfl (lv_at hl 3 rfl) ?_
      refine k_get G inlX4 hK hW 0 rfl rfl 0 (by decide) q_1_17 rfl dX4_averageWait_8 ?_
      refine k_get G inlX0 hK hW 1 rfl rfl 1 (by decide) q_5_0 rfl dX4_averageWait_11 ?_
      refine k_get G inlX2 hK hW 10 rfl rfl 0 (by decide) q_5_1 rfl dX4_averageWait_14 ?_
      refine lv_icmp_ge (tgt := 57) G.1 G.2.1 dX4_averageWait_17 (by decide) (fun c17 => ?_) (fun c17 => ?_)
      · replace hf := it c17 hf
        refine lv_iload_n G.1 G.2.1 dX4_averageWait_57 rfl (lv_at hl 1 rfl) ?_
        refine lv_if_ne (tgt := 71) G.1 G.2.1 dX4_averageWait_58 (by decide) (fun c58 => ?_) (fun c58 => ?_)
        · replace hf := ie c58 hf
          refine lv_iload_n G.1 G.2.1 dX4_averageWait_71 rfl (lv_at hl 2 rfl) ?_
          refine lv_i2d G.1 G.2.1 dX4_averageWait_72 ?_
          refine lv_iload_n G.1 G.2.1 dX4_averageWait_73 rfl (lv_at hl 1 rfl) ?_
          refine lv_i2d G.1 G.2.1 dX4_averageWait_74 ?_
          obtain ⟨v5, ev5, hf⟩ := ob hf
          obtain ⟨zv5, ev5⟩ := od_s ev5
          refine lv_ddiv G.1 G.2.1 dX4_averageWait_75 zv5 ?_
          rw [← ev5]
          exact kx_dret (w := wB cy h kp) G hr hlk hW (Option.some.inj hf).symm (Nat.le_of_ble_eq_true rfl) (Nat.le_of_ble_eq_true rfl) dX4_averageWait_76
        · replace hf := it c58 hf
          exact kx_throw (w := wB cy h kp) G hT hX hW htab hlk hl.1 (154, xAE) (List.mem_of_getElem? (i := 3) rfl) (152, "no job was started") (List.mem_of_getElem? (i := 2) rfl) q_24_4 q_24_5 dX4_averageWait_61 dX4_averageWait_64 dX4_averageWait_65 dX4_averageWait_67 dX4_averageWait_70 (Nat.le_of_ble_eq_true rfl) (Nat.le_of_ble_eq_true rfl) (Nat.le_of_ble_eq_true rfl) (Nat.le_of_ble_eq_true rfl) (Option.some.inj hf).symm (Nat.le_of_ble_eq_true rfl) (Nat.le_of_ble_eq_true rfl)
      · replace hf := ie c17 hf
        refine lv_aload_n G.1 G.2.1 dX4_averageWait_20 rfl (lv_at hl 3 rfl) ?_
        refine k_get G inlX4 hK hW 0 rfl rfl 0 (by decide) q_1_17 rfl dX4_averageWait_21 ?_
        refine k_get G inlX0 hK hW 1 rfl rfl 1 (by decide) q_5_0 rfl dX4_averageWait_24 ?_
        refine lv_iload_n G.1 G.2.1 dX4_averageWait_27 rfl (lv_at hl 0 rfl) ?_
        obtain ⟨v6, ev6, hf⟩ := ob hf
        refine kc_i (wr := [(h 104, .inr (6, [.ref (h 103), .ref kp, .int (σ 28 0), .int (σ 29 0)]))]) (w := wC cy h σ) (w' := wC cy h σ) (n := 1) (As := [.int y1]) (C := RX2) G hK hA hW (mX2_wasStarted l D cy h _ n σ y1 ev6) (gV q_23_11 q_7_17 q_7_18 q_2_6 q_7_19) ⟨rfl, rfl⟩ (by decide +kernel) ⟨Nat.le_of_ble_eq_true rfl, Nat.le_of_ble_eq_true rfl⟩ (va_recv hK.1 hW.1 (ci := 4) (q0 := 10) rfl rfl) rfl hl.1 rfl (Nat.le_of_ble_eq_true rfl) dX4_averageWait_28 ⟨Nat.le_of_ble_eq_true rfl, Nat.le_of_ble_eq_true rfl⟩ (fun H locs hW => ?_)
        refine lv_if_eq (tgt := 51) G.1 G.2.1 dX4_averageWait_31 (by decide) (fun c31 => ?_) (fun c31 => ?_)
        · replace hf := it c31 hf
          refine lv_iinc (v := (y1 + (1 : Int32))) (lv' := [(3, .int (y1 + (1 : Int32))), (2, .int y2), (1, .int y3), (0, .ref (h 104))]) G.1 G.2.1 dX4_averageWait_51 hl (k := 0) rfl (congrArg (y1 + ·) (by decide)) (by decide) rfl (fun ls hl => ?_)
          refine lv_goto (tgt := 6) G.1 G.2.1 dX4_averageWait_54 (by decide) ?_
          exact ih6 _ _ _ _ _ _ hf hW (lv_sub hl [0, 1, 2, 3] rfl)
        · replace hf := ie c31 hf
          refine lv_iload_n G.1 G.2.1 dX4_averageWait_34 rfl (lv_at hl 2 rfl) ?_
          refine lv_aload_n G.1 G.2.1 dX4_averageWait_35 rfl (lv_at hl 3 rfl) ?_
          refine k_get G inlX4 hK hW 0 rfl rfl 0 (by decide) q_1_17 rfl dX4_averageWait_36 ?_
          refine k_get G inlX0 hK hW 1 rfl rfl 1 (by decide) q_5_0 rfl dX4_averageWait_39 ?_
          refine lv_iload_n G.1 G.2.1 dX4_averageWait_42 rfl (lv_at hl 0 rfl) ?_
          obtain ⟨v7, ev7, hf⟩ := ob hf
          refine kc_i (wr := [(h 104, .inr (6, [.ref (h 103), .ref kp, .int (σ 28 0), .int (σ 29 0)]))]) (w := wC cy h σ) (w' := wC cy h σ) (n := 1) (As := [.int y1]) (C := RX2) G hK hA hW (mX2_waited l D cy h _ n σ y1 ev7) (gV q_23_12 q_23_13 q_23_14 q_2_6 q_23_15) ⟨rfl, rfl⟩ (by decide +kernel) ⟨Nat.le_of_ble_eq_true rfl, Nat.le_of_ble_eq_true rfl⟩ (va_recv hK.1 hW.1 (ci := 4) (q0 := 10) rfl rfl) rfl hl.1 rfl (Nat.le_of_ble_eq_true rfl) dX4_averageWait_43 ⟨Nat.le_of_ble_eq_true rfl, Nat.le_of_ble_eq_true rfl⟩ (fun H locs hW => ?_)
          refine lv_iadd G.1 G.2.1 dX4_averageWait_46 ?_
          refine lv_istore_n (lv' := [(1, .int (y3 + v7)), (3, .int y1), (2, .int y2), (0, .ref (h 104))]) G.1 G.2.1 dX4_averageWait_47 rfl hl (by decide) rfl (fun ls hl => ?_)
          refine lv_iinc (v := (y2 + (1 : Int32))) (lv' := [(2, .int (y2 + (1 : Int32))), (1, .int (y3 + v7)), (3, .int y1), (0, .ref (h 104))]) G.1 G.2.1 dX4_averageWait_48 hl (k := 2) rfl (congrArg (y2 + ·) (by decide)) (by decide) rfl (fun ls hl => ?_)
          refine lv_iinc (v := (y1 + (1 : Int32))) (lv' := [(3, .int (y1 + (1 : Int32))), (2, .int (y2 + (1 : Int32))), (1, .int (y3 + v7)), (0, .ref (h 104))]) G.1 G.2.1 dX4_averageWait_51 hl (k := 2) rfl (congrArg (y1 + ·) (by decide)) (by decide) rfl (fun ls hl => ?_)
          refine lv_goto (tgt := 6) G.1 G.2.1 dX4_averageWait_54 (by decide) ?_
          exact ih6 _ _ _ _ _ _ hf hW (lv_sub hl [0, 1, 2, 3] rfl)
  exact L6 _ _ _ _ _ _ _ hf hW (lv_sub hl [0, 1, 2, 3] rfl)

set_option maxHeartbeats 4000000 in
set_option maxRecDepth 100000 in
theorem mX4_slowdown (l : Launch) (hT : l.stackTraces = false) (D : va_G) (cy : ClassId) (h : Nat → Nat) (kp : Nat) (sz n : Nat) (σ : St) (x1 : Int32) {o : XRg UInt32} (hf : fX4_slowdown n σ x1 = some o) : Xf l yX4_slowdown (ws_ yX4_slowdown cX4_slowdown 3 (some .float)) { frames := 7, cells := 2, slots := 12, locals := 111 } D cy (wB cy h kp) σ sz [.ref (h 104), .int x1] o 2 12 := by
  refine vx_ofW (cc := cX4_slowdown) (maxL := 3) (ret := (some .float)) (by decide) rfl ?_
  intro p e s m args below meth c s₁ B hml htab hv
  obtain ⟨rfl, hsz, hP, hK, hD0, hX⟩ := hv
  subst hsz
  have hts := atoms_spec (ws := ws_ yX4_slowdown cX4_slowdown 3 (some .float)) B.pre
  have G : CallFix p m c cX4_slowdown 3 s _ wA RX4 := ⟨B.exec, B.bytes, hml, findClass_of_methodNamed B.named, fun w h => hts w (List.mem_cons_of_mem _ h)⟩
  have hr := B.returns
  have hlk := B.notSynchronized
  have hW : KW D (va_A (wB cy h kp σ) s.heap.size) s.heap (wB cy h kp σ) s.heap [] := ⟨hP, hD0.self, va_S.rf⟩
  have hA : ∀ q, s.heap.size ≤ q → va_A (wB cy h kp σ) s.heap.size q := fun q h => Or.inr h
  have hl := lv_entry ([.ref (h 104), .int x1]) (n := 3) (Nat.le_of_ble_eq_true rfl)
  rw [lg_entry_eq]
  generalize (lg_sl ([.ref (h 104), .int x1]) ++ List.replicate (3 - (lg_sl ([.ref (h 104), .int x1])).length) Slot.unset).toArray = ls at hl ⊢
  have hl : lv_has ls 3 [(0, .ref (h 104)), (1, .int x1)] := hl
  unfold fX4_slowdown at hf
  refine lv_aload_n G.1 G.2.1 dX4_slowdown_0 rfl (lv_at hl 0 rfl) ?_
  refine lv_iload_n G.1 G.2.1 dX4_slowdown_1 rfl (lv_at hl 1 rfl) ?_
  refine kxc_v (w := wB cy h kp) (n := 1) (As := [.int x1]) (C := RX4) G hK hX hA hW htab hlk hf (fun z hz => mX4_checkJob l hT D cy h kp _ n σ x1 hz) (gV q_14_2 q_14_3 q_14_4 q_1_2 q_14_5) ⟨rfl, rfl⟩ (by decide +kernel) ⟨Nat.le_of_ble_eq_true rfl, Nat.le_of_ble_eq_true rfl⟩ (va_recv hK.1 hW.1 (ci := 6) (q0 := 0) rfl rfl) rfl hl.1 rfl (Nat.le_of_ble_eq_true rfl) dX4_slowdown_2 ⟨Nat.le_of_ble_eq_true rfl, Nat.le_of_ble_eq_true rfl⟩ (Nat.le_of_ble_eq_true rfl) (Nat.le_of_ble_eq_true rfl) (fun v1 s2 H locs hf hW => ?_)
  refine lv_aload_n G.1 G.2.1 dX4_slowdown_5 rfl (lv_at hl 0 rfl) ?_
  refine lv_iload_n G.1 G.2.1 dX4_slowdown_6 rfl (lv_at hl 1 rfl) ?_
  refine kxc_v (w := wB cy h kp) (n := 1) (As := [.int x1]) (C := RX4) G hK hX hA hW htab hlk hf (fun z hz => mX4_checkFinished l hT D cy h kp _ n s2 x1 hz) (gV q_22_8 q_22_9 q_22_10 q_1_2 q_22_11) ⟨rfl, rfl⟩ (by decide +kernel) ⟨Nat.le_of_ble_eq_true rfl, Nat.le_of_ble_eq_true rfl⟩ (va_recv hK.1 hW.1 (ci := 6) (q0 := 0) rfl rfl) rfl hl.1 rfl (Nat.le_of_ble_eq_true rfl) dX4_slowdown_7 ⟨Nat.le_of_ble_eq_true rfl, Nat.le_of_ble_eq_true rfl⟩ (Nat.le_of_ble_eq_true rfl) (Nat.le_of_ble_eq_true rfl) (fun v3 s4 H locs hf hW => ?_)
  refine lv_aload_n G.1 G.2.1 dX4_slowdown_10 rfl (lv_at hl 0 rfl) ?_
  refine k_get G inlX4 hK hW 0 rfl rfl 0 (by decide) q_1_17 rfl dX4_slowdown_11 ?_
  refine k_get G inlX0 hK hW 1 rfl rfl 1 (by decide) q_5_0 rfl dX4_slowdown_14 ?_
  refine k_get G inlX2 hK hW 10 rfl rfl 10 (by decide) q_22_7 rfl dX4_slowdown_17 ?_
  refine lv_iload_n G.1 G.2.1 dX4_slowdown_20 rfl (lv_at hl 1 rfl) ?_
  obtain ⟨v5, ev5, hf⟩ := ob hf
  refine k_ald G hK hW 20 rfl ev5 dX4_slowdown_21 ?_
  refine lv_aload_n G.1 G.2.1 dX4_slowdown_22 rfl (lv_at hl 0 rfl) ?_
  refine k_get G inlX4 hK hW 0 rfl rfl 0 (by decide) q_1_17 rfl dX4_slowdown_23 ?_
  refine k_get G inlX0 hK hW 1 rfl rfl 1 (by decide) q_5_0 rfl dX4_slowdown_26 ?_
  refine k_get G inlX2 hK hW 10 rfl rfl 7 (by decide) q_24_17 rfl dX4_slowdown_29 ?_
  refine lv_iload_n G.1 G.2.1 dX4_slowdown_32 rfl (lv_at hl 1 rfl) ?_
  obtain ⟨v6, ev6, hf⟩ := ob hf
  refine k_ald G hK hW 17 rfl ev6 dX4_slowdown_33 ?_
  refine lv_isub G.1 G.2.1 dX4_slowdown_34 ?_
  refine lv_istore_n (lv' := [(2, .int (v5 - v6)), (0, .ref (h 104)), (1, .int x1)]) G.1 G.2.1 dX4_slowdown_35 rfl hl (by decide) rfl (fun ls hl => ?_)
  refine lv_iload_n G.1 G.2.1 dX4_slowdown_36 rfl (lv_at hl 0 rfl) ?_
  refine lv_i2f G.1 G.2.1 dX4_slowdown_37 ?_
  refine lv_aload_n G.1 G.2.1 dX4_slowdown_38 rfl (lv_at hl 1 rfl) ?_
  refine k_get G inlX4 hK hW 0 rfl rfl 0 (by decide) q_1_17 rfl dX4_slowdown_39 ?_
  refine k_get G inlX0 hK hW 1 rfl rfl 1 (by decide) q_5_0 rfl dX4_slowdown_42 ?_
  refine k_get G inlX2 hK hW 10 rfl rfl 6 (by decide) q_24_18 rfl dX4_slowdown_45 ?_
  refine lv_iload_n G.1 G.2.1 dX4_slowdown_48 rfl (lv_at hl 2 rfl) ?_
  obtain ⟨v7, ev7, hf⟩ := ob hf
  refine k_ald G hK hW 16 rfl ev7 dX4_slowdown_49 ?_
  refine lv_i2f G.1 G.2.1 dX4_slowdown_50 ?_
  obtain ⟨v8, ev8, hf⟩ := ob hf
  obtain ⟨zv8, ev8⟩ := og_s ev8
  refine lv_fdiv G.1 G.2.1 dX4_slowdown_51 zv8 ?_
  rw [← ev8]
  exact kx_fret (w := wB cy h kp) G hr hlk hW (Option.some.inj hf).symm (Nat.le_of_ble_eq_true rfl) (Nat.le_of_ble_eq_true rfl) dX4_slowdown_52

set_option maxHeartbeats 4000000 in
set_option maxRecDepth 100000 in
theorem mX4_usage (l : Launch) (hT : l.stackTraces = false) (D : va_G) (cy : ClassId) (h : Nat → Nat) (kp : Nat) (sz n : Nat) (σ : St) (x1 : Int32) {o : XRg Int32} (hf : fX4_usage n σ x1 = some o) : Xi l yX4_usage (ws_ yX4_usage cX4_usage 2 (some .int)) { frames := 6, cells := 1, slots := 6, locals := 90 } D cy (wB cy h kp) σ sz [.ref (h 104), .int x1] o 1 6 := by
  refine vx_ofW (cc := cX4_usage) (maxL := 2) (ret := (some .int)) (by decide) rfl ?_
  intro p e s m args below meth c s₁ B hml htab hv
  obtain ⟨rfl, hsz, hP, hK, hD0, hX⟩ := hv
  subst hsz
  have hts := atoms_spec (ws := ws_ yX4_usage cX4_usage 2 (some .int)) B.pre
  have G : CallFix p m c cX4_usage 2 s _ wA RX4 := ⟨B.exec, B.bytes, hml, findClass_of_methodNamed B.named, fun w h => hts w (List.mem_cons_of_mem _ h)⟩
  have hr := B.returns
  have hlk := B.notSynchronized
  have hW : KW D (va_A (wB cy h kp σ) s.heap.size) s.heap (wB cy h kp σ) s.heap [] := ⟨hP, hD0.self, va_S.rf⟩
  have hA : ∀ q, s.heap.size ≤ q → va_A (wB cy h kp σ) s.heap.size q := fun q h => Or.inr h
  have hl := lv_entry ([.ref (h 104), .int x1]) (n := 2) (Nat.le_of_ble_eq_true rfl)
  rw [lg_entry_eq]
  generalize (lg_sl ([.ref (h 104), .int x1]) ++ List.replicate (2 - (lg_sl ([.ref (h 104), .int x1])).length) Slot.unset).toArray = ls at hl ⊢
  have hl : lv_has ls 2 [(0, .ref (h 104)), (1, .int x1)] := hl
  unfold fX4_usage at hf
  refine lv_iload_n G.1 G.2.1 dX4_usage_0 rfl (lv_at hl 1 rfl) ?_
  obtain ⟨v1, ev1, hf⟩ := ob hf
  refine kc_s (n := 1) (As := [.int x1]) G hW (mX4_isUser l n x1 ev1) (gS q_5_2 q_5_3 q_1_2 q_5_4) ⟨rfl, rfl⟩ (by decide +kernel) ⟨Nat.le_of_ble_eq_true rfl, Nat.le_of_ble_eq_true rfl⟩ rfl hl.1 rfl (Nat.le_of_ble_eq_true rfl) dX4_usage_1 ⟨Nat.le_of_ble_eq_true rfl, Nat.le_of_ble_eq_true rfl⟩ (fun H locs hW => ?_)
  refine lv_if_ne (tgt := 17) G.1 G.2.1 dX4_usage_4 (by decide) (fun c4 => ?_) (fun c4 => ?_)
  · replace hf := ie c4 hf
    refine lv_aload_n G.1 G.2.1 dX4_usage_17 rfl (lv_at hl 0 rfl) ?_
    refine k_get G inlX4 hK hW 0 rfl rfl 0 (by decide) q_1_17 rfl dX4_usage_18 ?_
    refine lv_iload_n G.1 G.2.1 dX4_usage_21 rfl (lv_at hl 1 rfl) ?_
    obtain ⟨v2, ev2, hf⟩ := ob hf
    refine kc_i (wr := [(h 104, .inr (6, [.ref (h 103), .ref kp, .int (σ 28 0), .int (σ 29 0)]))]) (w := wC cy h σ) (w' := wC cy h σ) (n := 1) (As := [.int x1]) (C := RX0) G hK hA hW (mX0_usageOfUser l D cy h _ n σ x1 ev2) (gV q_25_6 q_12_5 q_12_6 q_1_16 q_12_7) ⟨rfl, rfl⟩ (by decide +kernel) ⟨Nat.le_of_ble_eq_true rfl, Nat.le_of_ble_eq_true rfl⟩ (va_recv hK.1 hW.1 (ci := 2) (q0 := 1) rfl rfl) rfl hl.1 rfl (Nat.le_of_ble_eq_true rfl) dX4_usage_22 ⟨Nat.le_of_ble_eq_true rfl, Nat.le_of_ble_eq_true rfl⟩ (fun H locs hW => ?_)
    exact kx_iret (w := wB cy h kp) G hr hlk hW (Option.some.inj hf).symm (Nat.le_of_ble_eq_true rfl) (Nat.le_of_ble_eq_true rfl) dX4_usage_25
  · replace hf := it c4 hf
    exact kx_throw (w := wB cy h kp) G hT hX hW htab hlk hl.1 (165, xIO) (List.mem_of_getElem? (i := 2) rfl) (163, "there is no such user") (List.mem_of_getElem? (i := 3) rfl) q_14_6 q_14_7 dX4_usage_7 dX4_usage_10 dX4_usage_11 dX4_usage_13 dX4_usage_16 (Nat.le_of_ble_eq_true rfl) (Nat.le_of_ble_eq_true rfl) (Nat.le_of_ble_eq_true rfl) (Nat.le_of_ble_eq_true rfl) (Option.some.inj hf).symm (Nat.le_of_ble_eq_true rfl) (Nat.le_of_ble_eq_true rfl)

set_option maxHeartbeats 4000000 in
set_option maxRecDepth 100000 in
theorem mX4_utilization (l : Launch) (hT : l.stackTraces = false) (D : va_G) (cy : ClassId) (h : Nat → Nat) (kp : Nat) (sz n : Nat) (σ : St) {o : XRg UInt64} (hf : fX4_utilization n σ = some o) : Xd l yX4_utilization (ws_ yX4_utilization cX4_utilization 3 (some .double)) { frames := 6, cells := 1, slots := 6, locals := 90 } D cy (wB cy h kp) σ sz [.ref (h 104)] o 1 6 := by
  refine vx_ofW (cc := cX4_utilization) (maxL := 3) (ret := (some .double)) (by decide) rfl ?_
  intro p e s m args below meth c s₁ B hml htab hv
  obtain ⟨rfl, hsz, hP, hK, hD0, hX⟩ := hv
  subst hsz
  have hts := atoms_spec (ws := ws_ yX4_utilization cX4_utilization 3 (some .double)) B.pre
  have G : CallFix p m c cX4_utilization 3 s _ wA RX4 := ⟨B.exec, B.bytes, hml, findClass_of_methodNamed B.named, fun w h => hts w (List.mem_cons_of_mem _ h)⟩
  have hr := B.returns
  have hlk := B.notSynchronized
  have hW : KW D (va_A (wB cy h kp σ) s.heap.size) s.heap (wB cy h kp σ) s.heap [] := ⟨hP, hD0.self, va_S.rf⟩
  have hA : ∀ q, s.heap.size ≤ q → va_A (wB cy h kp σ) s.heap.size q := fun q h => Or.inr h
  have hl := lv_entry ([.ref (h 104)]) (n := 3) (Nat.le_of_ble_eq_true rfl)
  rw [lg_entry_eq]
  generalize (lg_sl ([.ref (h 104)]) ++ List.replicate (3 - (lg_sl ([.ref (h 104)])).length) Slot.unset).toArray = ls at hl ⊢
  have hl : lv_has ls 3 [(0, .ref (h 104))] := hl
  unfold fX4_utilization at hf
  refine lv_aload_n G.1 G.2.1 dX4_utilization_0 rfl (lv_at hl 0 rfl) ?_
  refine k_get G inlX4 hK hW 0 rfl rfl 0 (by decide) q_1_17 rfl dX4_utilization_1 ?_
  refine k_get G inlX0 hK hW 1 rfl rfl 4 (by decide) q_10_20 rfl dX4_utilization_4 ?_
  refine lv_if_ne (tgt := 20) G.1 G.2.1 dX4_utilization_7 (by decide) (fun c7 => ?_) (fun c7 => ?_)
  · replace hf := ie c7 hf
    refine lv_iconst (v := (0 : Int32)) G.1 G.2.1 dX4_utilization_20 (by decide) ?_
    refine lv_istore_n (lv' := [(1, .int (0 : Int32)), (0, .ref (h 104))]) G.1 G.2.1 dX4_utilization_21 rfl hl (by decide) rfl (fun ls hl => ?_)
    refine lv_iconst (v := (0 : Int32)) G.1 G.2.1 dX4_utilization_22 (by decide) ?_
    refine lv_istore_n (lv' := [(2, .int (0 : Int32)), (1, .int (0 : Int32)), (0, .ref (h 104))]) G.1 G.2.1 dX4_utilization_23 rfl hl (by decide) rfl (fun ls hl => ?_)
    have L24 : ∀ (fu : Nat) (y1 : Int32) (y2 : Int32) (H : Heap) (locs : List Loc) (ls : Array Slot), lz2 (fX4_utilization_b24 n σ) fu y1 y2 = some o → KW D (va_A (wB cy h kp σ) s.heap.size) s.heap (wB cy h kp σ) H locs → lv_has ls 3 [(2, .int y1), (1, .int y2), (0, .ref (h 104))] → W p l e (headSpec (ws_ yX4_utilization cX4_utilization 3 (some .double)) { frames := 6, cells := 1, slots := 6, locals := 90 }).room s m (([.ref (h 104)] : List Value).toArray) below meth c H locs 0 0 (vx_MQ below (XQd D (va_A (wB cy h kp σ) s.heap.size) (wB cy h kp) o) (XCo D (va_A (wB cy h kp σ) s.heap.size) (wB cy h kp) o) (([.ref (h 104)] : List Value).toArray) s 1 6 (va_A (wB cy h kp σ) s.heap.size)) (F0 m 24 ls []) := by
      intro fu24
      induction fu24 with
      | zero => intro y1 y2 H locs ls hf; cases hf
      | succ fu24 ih24 =>
        intro y1 y2 H locs ls hf hW hl
        rw [lz2_s] at hf
        unfold fX4_utilization_b24 at hf
        refine lv_iload_n G.1 G.2.1 dX4_utilization_24 rfl (lv_at hl 0 rfl) ?_
        refine lv_iconst (v := (4 : Int32)) G.1 G.2.1 dX4_utilization_25 (by decide) ?_
        refine lv_icmp_ge (tgt := 46) G.1 G.2.1 dX4_utilization_26 (by decide) (fun c26 => ?_) (fun c26 => ?_)
        · replace hf := it c26 hf
          refine lv_iload_n G.1 G.2.1 dX4_utilization_46 rfl (lv_at hl 1 rfl) ?_
          refine lv_i2d G.1 G.2.1 dX4_utilization_47 ?_
          refine lv_bipush (v := (32 : Int32)) G.1 G.2.1 dX4_utilization_48 (by decide) ?_
          refine lv_aload_n G.1 G.2.1 dX4_utilization_50 rfl (lv_at hl 2 rfl) ?_
          refine k_get G inlX4 hK hW 0 rfl rfl 0 (by decide) q_1_17 rfl dX4_utilization_51 ?_
          refine k_get G inlX0 hK hW 1 rfl rfl 4 (by decide) q_10_20 rfl dX4_utilization_54 ?_
          refine lv_imul G.1 G.2.1 dX4_utilization_57 ?_
          refine lv_i2d G.1 G.2.1 dX4_utilization_58 ?_
          obtain ⟨v4, ev4, hf⟩ := ob hf
          obtain ⟨zv4, ev4⟩ := od_s ev4
          refine lv_ddiv G.1 G.2.1 dX4_utilization_59 zv4 ?_
          rw [← ev4]
          exact kx_dret (w := wB cy h kp) G hr hlk hW (Option.some.inj hf).symm (Nat.le_of_ble_eq_true rfl) (Nat.le_of_ble_eq_true rfl) dX4_utilization_60
        · replace hf := ie c26 hf
          refine lv_iload_n G.1 G.2.1 dX4_utilization_29 rfl (lv_at hl 1 rfl) ?_
          refine lv_aload_n G.1 G.2.1 dX4_utilization_30 rfl (lv_at hl 2 rfl) ?_
          refine k_get G inlX4 hK hW 0 rfl rfl 0 (by decide) q_1_17 rfl dX4_utilization_31 ?_
          refine lv_iload_n G.1 G.2.1 dX4_utilization_34 rfl (lv_at hl 0 rfl) ?_
          obtain ⟨v5, ev5, hf⟩ := ob hf
          refine kc_i (wr := [(h 104, .inr (6, [.ref (h 103), .ref kp, .int (σ 28 0), .int (σ 29 0)]))]) (w := wC cy h σ) (w' := wC cy h σ) (n := 1) (As := [.int y1]) (C := RX0) G hK hA hW (mX0_usageOfUser l D cy h _ n σ y1 ev5) (gV q_25_6 q_12_5 q_12_6 q_1_16 q_12_7) ⟨rfl, rfl⟩ (by decide +kernel) ⟨Nat.le_of_ble_eq_true rfl, Nat.le_of_ble_eq_true rfl⟩ (va_recv hK.1 hW.1 (ci := 2) (q0 := 1) rfl rfl) rfl hl.1 rfl (Nat.le_of_ble_eq_true rfl) dX4_utilization_35 ⟨Nat.le_of_ble_eq_true rfl, Nat.le_of_ble_eq_true rfl⟩ (fun H locs hW => ?_)
          refine lv_iadd G.1 G.2.1 dX4_utilization_38 ?_
          refine lv_istore_n (lv' := [(1, .int (y2 + v5)), (2, .int y1), (0, .ref (h 104))]) G.1 G.2.1 dX4_utilization_39 rfl hl (by decide) rfl (fun ls hl => ?_)
          refine lv_iinc (v := (y1 + (1 : Int32))) (lv' := [(2, .int (y1 + (1 : Int32))), (1, .int (y2 + v5)), (0, .ref (h 104))]) G.1 G.2.1 dX4_utilization_40 hl (k := 1) rfl (congrArg (y1 + ·) (by decide)) (by decide) rfl (fun ls hl => ?_)
          refine lv_goto (tgt := 24) G.1 G.2.1 dX4_utilization_43 (by decide) ?_
          exact ih24 _ _ _ _ _ hf hW (lv_sub hl [0, 1, 2] rfl)
    exact L24 _ _ _ _ _ _ hf hW (lv_sub hl [0, 1, 2] rfl)
  · replace hf := it c7 hf
    exact kx_throw (w := wB cy h kp) G hT hX hW htab hlk hl.1 (154, xAE) (List.mem_of_getElem? (i := 3) rfl) (169, "the clock is 0") (List.mem_of_getElem? (i := 4) rfl) q_24_4 q_24_5 dX4_utilization_10 dX4_utilization_13 dX4_utilization_14 dX4_utilization_16 dX4_utilization_19 (Nat.le_of_ble_eq_true rfl) (Nat.le_of_ble_eq_true rfl) (Nat.le_of_ble_eq_true rfl) (Nat.le_of_ble_eq_true rfl) (Option.some.inj hf).symm (Nat.le_of_ble_eq_true rfl) (Nat.le_of_ble_eq_true rfl)

set_option maxHeartbeats 4000000 in
set_option maxRecDepth 100000 in
theorem mX4_makespan (l : Launch) (D : va_G) (cy : ClassId) (h : Nat → Nat) (kp : Nat) (sz n : Nat) (σ : St) {r : Int32} (hf : fX4_makespan n σ = some r) : Mi l yX4_makespan (ws_ yX4_makespan cX4_makespan 1 (some .int)) { frames := 2, cells := 0, slots := 0, locals := 52 } D cy (wB cy h kp σ) (wB cy h kp σ) sz [.ref (h 104)] r := by
  refine Met.ofW (cc := cX4_makespan) (maxL := 1) (ret := (some .int)) (by decide) rfl ?_
  intro p e s m args below meth c s₁ B hml hv
  obtain ⟨rfl, hsz, hP, hK, hD0⟩ := hv
  subst hsz
  have hts := atoms_spec (ws := ws_ yX4_makespan cX4_makespan 1 (some .int)) B.pre
  have G : CallFix p m c cX4_makespan 1 s _ wA RX4 := ⟨B.exec, B.bytes, hml, findClass_of_methodNamed B.named, fun w h => hts w (List.mem_cons_of_mem _ h)⟩
  have hr := B.returns
  have hlk := B.notSynchronized
  have hW : KW D (va_A (wB cy h kp σ) s.heap.size) s.heap (wB cy h kp σ) s.heap [] := ⟨hP, hD0.self, va_S.rf⟩
  have hA : ∀ q, s.heap.size ≤ q → va_A (wB cy h kp σ) s.heap.size q := fun q h => Or.inr h
  have hl := lv_entry ([.ref (h 104)]) (n := 1) (Nat.le_of_ble_eq_true rfl)
  rw [lg_entry_eq]
  generalize (lg_sl ([.ref (h 104)]) ++ List.replicate (1 - (lg_sl ([.ref (h 104)])).length) Slot.unset).toArray = ls at hl ⊢
  have hl : lv_has ls 1 [(0, .ref (h 104))] := hl
  unfold fX4_makespan at hf
  refine lv_aload_n G.1 G.2.1 dX4_makespan_0 rfl (lv_at hl 0 rfl) ?_
  refine k_get G inlX4 hK hW 0 rfl rfl 0 (by decide) q_1_17 rfl dX4_makespan_1 ?_
  refine k_get G inlX0 hK hW 1 rfl rfl 4 (by decide) q_10_20 rfl dX4_makespan_4 ?_
  refine lv_aload_n G.1 G.2.1 dX4_makespan_7 rfl (lv_at hl 0 rfl) ?_
  refine k_get G inlX4 hK hW 0 rfl rfl 0 (by decide) q_1_17 rfl dX4_makespan_8 ?_
  refine k_get G inlX0 hK hW 1 rfl rfl 0 (by decide) q_16_7 rfl dX4_makespan_11 ?_
  obtain ⟨v1, ev1, hf⟩ := ob hf
  refine kc_i (wr := [(h 104, .inr (6, [.ref (h 103), .ref kp, .int (σ 28 0), .int (σ 29 0)]))]) (w := wC cy h σ) (w' := wC cy h σ) (n := 0) (As := []) (C := RX3) G hK hA hW (mX3_endOfJobs l D cy h _ n σ  ev1) (gV q_26_6 q_26_7 q_26_8 q_2_2 q_26_9) ⟨rfl, rfl⟩ (by decide +kernel) ⟨Nat.le_of_ble_eq_true rfl, Nat.le_of_ble_eq_true rfl⟩ (va_recv hK.1 hW.1 (ci := 5) (q0 := 5) rfl rfl) rfl hl.1 rfl (Nat.le_of_ble_eq_true rfl) dX4_makespan_14 ⟨Nat.le_of_ble_eq_true rfl, Nat.le_of_ble_eq_true rfl⟩ (fun H locs hW => ?_)
  refine va_mmax G.1 G.2.1 (G.2.2.1.trans hl.1.symm) G.2.2.2.1 (G.2.2.2.2 _ q_26_2) (G.2.2.2.2 _ q_26_3) (G.2.2.2.2 _ q_26_4) (G.2.2.2.2 _ q_26_5) (Nat.le_of_ble_eq_true rfl) (Nat.le_of_ble_eq_true rfl) (Nat.le_of_ble_eq_true rfl) (Nat.le_of_ble_eq_true rfl) dX4_makespan_17 ?_
  cases hf
  exact k_iret G hr hlk hK hW dX4_makespan_20

set_option maxHeartbeats 4000000 in
set_option maxRecDepth 100000 in
theorem mX4_ownerAt (l : Launch) (hT : l.stackTraces = false) (D : va_G) (cy : ClassId) (h : Nat → Nat) (kp : Nat) (sz n : Nat) (σ : St) (x1 : Int32) (x2 : Int32) {o : XRg Int32} (hf : fX4_ownerAt n σ x1 x2 = some o) : Xi l yX4_ownerAt (ws_ yX4_ownerAt cX4_ownerAt 4 (some .int)) { frames := 6, cells := 1, slots := 6, locals := 90 } D cy (wB cy h kp) σ sz [.ref (h 104), .int x1, .int x2] o 1 6 := by
  refine vx_ofW (cc := cX4_ownerAt) (maxL := 4) (ret := (some .int)) (by decide) rfl ?_
  intro p e s m args below meth c s₁ B hml htab hv
  obtain ⟨rfl, hsz, hP, hK, hD0, hX⟩ := hv
  subst hsz
  have hts := atoms_spec (ws := ws_ yX4_ownerAt cX4_ownerAt 4 (some .int)) B.pre
  have G : CallFix p m c cX4_ownerAt 4 s _ wA RX4 := ⟨B.exec, B.bytes, hml, findClass_of_methodNamed B.named, fun w h => hts w (List.mem_cons_of_mem _ h)⟩
  have hr := B.returns
  have hlk := B.notSynchronized
  have hW : KW D (va_A (wB cy h kp σ) s.heap.size) s.heap (wB cy h kp σ) s.heap [] := ⟨hP, hD0.self, va_S.rf⟩
  have hA : ∀ q, s.heap.size ≤ q → va_A (wB cy h kp σ) s.heap.size q := fun q h => Or.inr h
  have hl := lv_entry ([.ref (h 104), .int x1, .int x2]) (n := 4) (Nat.le_of_ble_eq_true rfl)
  rw [lg_entry_eq]
  generalize (lg_sl ([.ref (h 104), .int x1, .int x2]) ++ List.replicate (4 - (lg_sl ([.ref (h 104), .int x1, .int x2])).length) Slot.unset).toArray = ls at hl ⊢
  have hl : lv_has ls 4 [(0, .ref (h 104)), (1, .int x1), (2, .int x2)] := hl
  unfold fX4_ownerAt at hf
  refine lv_iload_n G.1 G.2.1 dX4_ownerAt_0 rfl (lv_at hl 1 rfl) ?_
  refine lv_if_lt (tgt := 14) G.1 G.2.1 dX4_ownerAt_1 (by decide) (fun c1 => ?_) (fun c1 => ?_)
  · replace hf := it c1 hf
    exact kx_throw (w := wB cy h kp) G hT hX hW htab hlk hl.1 (165, xIO) (List.mem_of_getElem? (i := 2) rfl) (179, "there is no such processor or unit") (List.mem_of_getElem? (i := 5) rfl) q_14_6 q_14_7 dX4_ownerAt_14 dX4_ownerAt_17 dX4_ownerAt_18 dX4_ownerAt_20 dX4_ownerAt_23 (Nat.le_of_ble_eq_true rfl) (Nat.le_of_ble_eq_true rfl) (Nat.le_of_ble_eq_true rfl) (Nat.le_of_ble_eq_true rfl) (Option.some.inj hf).symm (Nat.le_of_ble_eq_true rfl) (Nat.le_of_ble_eq_true rfl)
  · replace hf := ie c1 hf
    refine lv_iload_n G.1 G.2.1 dX4_ownerAt_4 rfl (lv_at hl 1 rfl) ?_
    refine lv_bipush (v := (32 : Int32)) G.1 G.2.1 dX4_ownerAt_5 (by decide) ?_
    refine lv_icmp_ge (tgt := 14) G.1 G.2.1 dX4_ownerAt_7 (by decide) (fun c7 => ?_) (fun c7 => ?_)
    · replace hf := it c7 hf
      exact kx_throw (w := wB cy h kp) G hT hX hW htab hlk hl.1 (165, xIO) (List.mem_of_getElem? (i := 2) rfl) (179, "there is no such processor or unit") (List.mem_of_getElem? (i := 5) rfl) q_14_6 q_14_7 dX4_ownerAt_14 dX4_ownerAt_17 dX4_ownerAt_18 dX4_ownerAt_20 dX4_ownerAt_23 (Nat.le_of_ble_eq_true rfl) (Nat.le_of_ble_eq_true rfl) (Nat.le_of_ble_eq_true rfl) (Nat.le_of_ble_eq_true rfl) (Option.some.inj hf).symm (Nat.le_of_ble_eq_true rfl) (Nat.le_of_ble_eq_true rfl)
    · replace hf := ie c7 hf
      refine lv_iload_n G.1 G.2.1 dX4_ownerAt_10 rfl (lv_at hl 2 rfl) ?_
      refine lv_if_ge (tgt := 24) G.1 G.2.1 dX4_ownerAt_11 (by decide) (fun c11 => ?_) (fun c11 => ?_)
      · replace hf := it c11 hf
        refine lv_aload_n G.1 G.2.1 dX4_ownerAt_24 rfl (lv_at hl 0 rfl) ?_
        refine k_get G inlX4 hK hW 0 rfl rfl 0 (by decide) q_1_17 rfl dX4_ownerAt_25 ?_
        refine k_get G inlX0 hK hW 1 rfl rfl 0 (by decide) q_16_7 rfl dX4_ownerAt_28 ?_
        refine lv_iload_n G.1 G.2.1 dX4_ownerAt_31 rfl (lv_at hl 1 rfl) ?_
        refine lv_iload_n G.1 G.2.1 dX4_ownerAt_32 rfl (lv_at hl 2 rfl) ?_
        obtain ⟨v1, ev1, hf⟩ := ob hf
        refine kc_i (wr := [(h 104, .inr (6, [.ref (h 103), .ref kp, .int (σ 28 0), .int (σ 29 0)]))]) (w := wC cy h σ) (w' := wC cy h σ) (n := 2) (As := [.int x1, .int x2]) (C := RX3) G hK hA hW (mX3_slotAt l D cy h _ n σ x1 x2 ev1) (gV q_26_23 q_27_0 q_27_1 q_2_2 q_27_2) ⟨rfl, rfl⟩ (by decide +kernel) ⟨Nat.le_of_ble_eq_true rfl, Nat.le_of_ble_eq_true rfl⟩ (va_recv hK.1 hW.1 (ci := 5) (q0 := 5) rfl rfl) rfl hl.1 rfl (Nat.le_of_ble_eq_true rfl) dX4_ownerAt_33 ⟨Nat.le_of_ble_eq_true rfl, Nat.le_of_ble_eq_true rfl⟩ (fun H locs hW => ?_)
        refine lv_istore_n (lv' := [(3, .int v1), (0, .ref (h 104)), (1, .int x1), (2, .int x2)]) G.1 G.2.1 dX4_ownerAt_36 rfl hl (by decide) rfl (fun ls hl => ?_)
        refine lv_iload_n G.1 G.2.1 dX4_ownerAt_37 rfl (lv_at hl 0 rfl) ?_
        refine lv_iconst (v := (-1 : Int32)) G.1 G.2.1 dX4_ownerAt_38 (by decide) ?_
        refine lv_icmp_ne (tgt := 44) G.1 G.2.1 dX4_ownerAt_39 (by decide) (fun c39 => ?_) (fun c39 => ?_)
        · replace hf := ie c39 hf
          refine lv_iload_n G.1 G.2.1 dX4_ownerAt_44 rfl (lv_at hl 0 rfl) ?_
          refine lv_bipush (v := (24 : Int32)) G.1 G.2.1 dX4_ownerAt_45 (by decide) ?_
          refine lv_icmp_ge (tgt := 54) G.1 G.2.1 dX4_ownerAt_47 (by decide) (fun c47 => ?_) (fun c47 => ?_)
          · replace hf := it c47 hf
            refine lv_bipush (v := (100 : Int32)) G.1 G.2.1 dX4_ownerAt_54 (by decide) ?_
            refine lv_iload_n G.1 G.2.1 dX4_ownerAt_56 rfl (lv_at hl 0 rfl) ?_
            refine lv_iadd G.1 G.2.1 dX4_ownerAt_57 ?_
            refine lv_bipush (v := (24 : Int32)) G.1 G.2.1 dX4_ownerAt_58 (by decide) ?_
            refine lv_isub G.1 G.2.1 dX4_ownerAt_60 ?_
            exact kx_iret (w := wB cy h kp) G hr hlk hW (Option.some.inj hf).symm (Nat.le_of_ble_eq_true rfl) (Nat.le_of_ble_eq_true rfl) dX4_ownerAt_61
          · replace hf := ie c47 hf
            refine lv_iload_n G.1 G.2.1 dX4_ownerAt_50 rfl (lv_at hl 0 rfl) ?_
            refine lv_goto (tgt := 61) G.1 G.2.1 dX4_ownerAt_51 (by decide) ?_
            exact kx_iret (w := wB cy h kp) G hr hlk hW (Option.some.inj hf).symm (Nat.le_of_ble_eq_true rfl) (Nat.le_of_ble_eq_true rfl) dX4_ownerAt_61
        · replace hf := it c39 hf
          refine lv_iconst (v := (-1 : Int32)) G.1 G.2.1 dX4_ownerAt_42 (by decide) ?_
          exact kx_iret (w := wB cy h kp) G hr hlk hW (Option.some.inj hf).symm (Nat.le_of_ble_eq_true rfl) (Nat.le_of_ble_eq_true rfl) dX4_ownerAt_43
      · replace hf := ie c11 hf
        exact kx_throw (w := wB cy h kp) G hT hX hW htab hlk hl.1 (165, xIO) (List.mem_of_getElem? (i := 2) rfl) (179, "there is no such processor or unit") (List.mem_of_getElem? (i := 5) rfl) q_14_6 q_14_7 dX4_ownerAt_14 dX4_ownerAt_17 dX4_ownerAt_18 dX4_ownerAt_20 dX4_ownerAt_23 (Nat.le_of_ble_eq_true rfl) (Nat.le_of_ble_eq_true rfl) (Nat.le_of_ble_eq_true rfl) (Nat.le_of_ble_eq_true rfl) (Option.some.inj hf).symm (Nat.le_of_ble_eq_true rfl) (Nat.le_of_ble_eq_true rfl)

set_option maxHeartbeats 4000000 in
set_option maxRecDepth 100000 in
theorem mX4_freeProcessors (l : Launch) (hT : l.stackTraces = false) (D : va_G) (cy : ClassId) (h : Nat → Nat) (kp : Nat) (sz n : Nat) (σ : St) (x1 : Int32) {o : XRg Int32} (hf : fX4_freeProcessors n σ x1 = some o) : Xi l yX4_freeProcessors (ws_ yX4_freeProcessors cX4_freeProcessors 2 (some .int)) { frames := 6, cells := 1, slots := 6, locals := 90 } D cy (wB cy h kp) σ sz [.ref (h 104), .int x1] o 1 6 := by
  refine vx_ofW (cc := cX4_freeProcessors) (maxL := 2) (ret := (some .int)) (by decide) rfl ?_
  intro p e s m args below meth c s₁ B hml htab hv
  obtain ⟨rfl, hsz, hP, hK, hD0, hX⟩ := hv
  subst hsz
  have hts := atoms_spec (ws := ws_ yX4_freeProcessors cX4_freeProcessors 2 (some .int)) B.pre
  have G : CallFix p m c cX4_freeProcessors 2 s _ wA RX4 := ⟨B.exec, B.bytes, hml, findClass_of_methodNamed B.named, fun w h => hts w (List.mem_cons_of_mem _ h)⟩
  have hr := B.returns
  have hlk := B.notSynchronized
  have hW : KW D (va_A (wB cy h kp σ) s.heap.size) s.heap (wB cy h kp σ) s.heap [] := ⟨hP, hD0.self, va_S.rf⟩
  have hA : ∀ q, s.heap.size ≤ q → va_A (wB cy h kp σ) s.heap.size q := fun q h => Or.inr h
  have hl := lv_entry ([.ref (h 104), .int x1]) (n := 2) (Nat.le_of_ble_eq_true rfl)
  rw [lg_entry_eq]
  generalize (lg_sl ([.ref (h 104), .int x1]) ++ List.replicate (2 - (lg_sl ([.ref (h 104), .int x1])).length) Slot.unset).toArray = ls at hl ⊢
  have hl : lv_has ls 2 [(0, .ref (h 104)), (1, .int x1)] := hl
  unfold fX4_freeProcessors at hf
  refine lv_iload_n G.1 G.2.1 dX4_freeProcessors_0 rfl (lv_at hl 1 rfl) ?_
  refine lv_if_ge (tgt := 14) G.1 G.2.1 dX4_freeProcessors_1 (by decide) (fun c1 => ?_) (fun c1 => ?_)
  · replace hf := it c1 hf
    refine lv_bipush (v := (32 : Int32)) G.1 G.2.1 dX4_freeProcessors_14 (by decide) ?_
    refine lv_aload_n G.1 G.2.1 dX4_freeProcessors_16 rfl (lv_at hl 0 rfl) ?_
    refine k_get G inlX4 hK hW 0 rfl rfl 0 (by decide) q_1_17 rfl dX4_freeProcessors_17 ?_
    refine k_get G inlX0 hK hW 1 rfl rfl 0 (by decide) q_16_7 rfl dX4_freeProcessors_20 ?_
    refine lv_iload_n G.1 G.2.1 dX4_freeProcessors_23 rfl (lv_at hl 1 rfl) ?_
    refine lv_iload_n G.1 G.2.1 dX4_freeProcessors_24 rfl (lv_at hl 1 rfl) ?_
    obtain ⟨v1, ev1, hf⟩ := ob hf
    refine kc_i (wr := [(h 104, .inr (6, [.ref (h 103), .ref kp, .int (σ 28 0), .int (σ 29 0)]))]) (w := wC cy h σ) (w' := wC cy h σ) (n := 2) (As := [.int x1, .int x1]) (C := RX3) G hK hA hW (mX3_takenIn l D cy h _ n σ x1 x1 ev1) (gV q_27_18 q_6_11 q_6_12 q_2_2 q_6_13) ⟨rfl, rfl⟩ (by decide +kernel) ⟨Nat.le_of_ble_eq_true rfl, Nat.le_of_ble_eq_true rfl⟩ (va_recv hK.1 hW.1 (ci := 5) (q0 := 5) rfl rfl) rfl hl.1 rfl (Nat.le_of_ble_eq_true rfl) dX4_freeProcessors_25 ⟨Nat.le_of_ble_eq_true rfl, Nat.le_of_ble_eq_true rfl⟩ (fun H locs hW => ?_)
    obtain ⟨v2, ev2, hf⟩ := ob hf
    refine kc_s (n := 1) (As := [.int v1]) G hW (mJ6_bitCount_0f7a4 l n v1 ev2) (gS q_27_19 q_27_20 q_27_21 q_27_22) ⟨rfl, rfl⟩ (by decide +kernel) ⟨Nat.le_of_ble_eq_true rfl, Nat.le_of_ble_eq_true rfl⟩ rfl hl.1 rfl (Nat.le_of_ble_eq_true rfl) dX4_freeProcessors_28 ⟨Nat.le_of_ble_eq_true rfl, Nat.le_of_ble_eq_true rfl⟩ (fun H locs hW => ?_)
    refine lv_isub G.1 G.2.1 dX4_freeProcessors_31 ?_
    exact kx_iret (w := wB cy h kp) G hr hlk hW (Option.some.inj hf).symm (Nat.le_of_ble_eq_true rfl) (Nat.le_of_ble_eq_true rfl) dX4_freeProcessors_32
  · replace hf := ie c1 hf
    exact kx_throw (w := wB cy h kp) G hT hX hW htab hlk hl.1 (165, xIO) (List.mem_of_getElem? (i := 2) rfl) (184, "the unit is negative") (List.mem_of_getElem? (i := 6) rfl) q_14_6 q_14_7 dX4_freeProcessors_4 dX4_freeProcessors_7 dX4_freeProcessors_8 dX4_freeProcessors_10 dX4_freeProcessors_13 (Nat.le_of_ble_eq_true rfl) (Nat.le_of_ble_eq_true rfl) (Nat.le_of_ble_eq_true rfl) (Nat.le_of_ble_eq_true rfl) (Option.some.inj hf).symm (Nat.le_of_ble_eq_true rfl) (Nat.le_of_ble_eq_true rfl)

set_option maxHeartbeats 4000000 in
set_option maxRecDepth 100000 in
theorem mX4_takenNow (l : Launch) (D : va_G) (cy : ClassId) (h : Nat → Nat) (kp : Nat) (sz n : Nat) (σ : St) {r : Int32} (hf : fX4_takenNow n σ = some r) : Mi l yX4_takenNow (ws_ yX4_takenNow cX4_takenNow 1 (some .int)) { frames := 1, cells := 0, slots := 0, locals := 24 } D cy (wB cy h kp σ) (wB cy h kp σ) sz [.ref (h 104)] r := by
  refine Met.ofW (cc := cX4_takenNow) (maxL := 1) (ret := (some .int)) (by decide) rfl ?_
  intro p e s m args below meth c s₁ B hml hv
  obtain ⟨rfl, hsz, hP, hK, hD0⟩ := hv
  subst hsz
  have hts := atoms_spec (ws := ws_ yX4_takenNow cX4_takenNow 1 (some .int)) B.pre
  have G : CallFix p m c cX4_takenNow 1 s _ wA RX4 := ⟨B.exec, B.bytes, hml, findClass_of_methodNamed B.named, fun w h => hts w (List.mem_cons_of_mem _ h)⟩
  have hr := B.returns
  have hlk := B.notSynchronized
  have hW : KW D (va_A (wB cy h kp σ) s.heap.size) s.heap (wB cy h kp σ) s.heap [] := ⟨hP, hD0.self, va_S.rf⟩
  have hA : ∀ q, s.heap.size ≤ q → va_A (wB cy h kp σ) s.heap.size q := fun q h => Or.inr h
  have hl := lv_entry ([.ref (h 104)]) (n := 1) (Nat.le_of_ble_eq_true rfl)
  rw [lg_entry_eq]
  generalize (lg_sl ([.ref (h 104)]) ++ List.replicate (1 - (lg_sl ([.ref (h 104)])).length) Slot.unset).toArray = ls at hl ⊢
  have hl : lv_has ls 1 [(0, .ref (h 104))] := hl
  unfold fX4_takenNow at hf
  refine lv_aload_n G.1 G.2.1 dX4_takenNow_0 rfl (lv_at hl 0 rfl) ?_
  refine k_get G inlX4 hK hW 0 rfl rfl 0 (by decide) q_1_17 rfl dX4_takenNow_1 ?_
  refine k_get G inlX0 hK hW 1 rfl rfl 0 (by decide) q_16_7 rfl dX4_takenNow_4 ?_
  refine lv_aload_n G.1 G.2.1 dX4_takenNow_7 rfl (lv_at hl 0 rfl) ?_
  refine k_get G inlX4 hK hW 0 rfl rfl 0 (by decide) q_1_17 rfl dX4_takenNow_8 ?_
  refine k_get G inlX0 hK hW 1 rfl rfl 4 (by decide) q_10_20 rfl dX4_takenNow_11 ?_
  refine lv_aload_n G.1 G.2.1 dX4_takenNow_14 rfl (lv_at hl 0 rfl) ?_
  refine k_get G inlX4 hK hW 0 rfl rfl 0 (by decide) q_1_17 rfl dX4_takenNow_15 ?_
  refine k_get G inlX0 hK hW 1 rfl rfl 4 (by decide) q_10_20 rfl dX4_takenNow_18 ?_
  obtain ⟨v1, ev1, hf⟩ := ob hf
  refine kc_i (wr := [(h 104, .inr (6, [.ref (h 103), .ref kp, .int (σ 28 0), .int (σ 29 0)]))]) (w := wC cy h σ) (w' := wC cy h σ) (n := 2) (As := [.int (σ 25 0), .int (σ 25 0)]) (C := RX3) G hK hA hW (mX3_takenIn l D cy h _ n σ (σ 25 0) (σ 25 0) ev1) (gV q_27_18 q_6_11 q_6_12 q_2_2 q_6_13) ⟨rfl, rfl⟩ (by decide +kernel) ⟨Nat.le_of_ble_eq_true rfl, Nat.le_of_ble_eq_true rfl⟩ (va_recv hK.1 hW.1 (ci := 5) (q0 := 5) rfl rfl) rfl hl.1 rfl (Nat.le_of_ble_eq_true rfl) dX4_takenNow_21 ⟨Nat.le_of_ble_eq_true rfl, Nat.le_of_ble_eq_true rfl⟩ (fun H locs hW => ?_)
  cases hf
  exact k_iret G hr hlk hK hW dX4_takenNow_24

set_option maxHeartbeats 4000000 in
set_option maxRecDepth 100000 in
theorem mX4_freeBlocks (l : Launch) (hT : l.stackTraces = false) (D : va_G) (cy : ClassId) (h : Nat → Nat) (kp : Nat) (sz n : Nat) (σ : St) (x1 : Int32) {o : XRg Int32} (hf : fX4_freeBlocks n σ x1 = some o) : Xi l yX4_freeBlocks (ws_ yX4_freeBlocks cX4_freeBlocks 6 (some .int)) { frames := 6, cells := 1, slots := 6, locals := 90 } D cy (wB cy h kp) σ sz [.ref (h 104), .int x1] o 1 6 := by
  refine vx_ofW (cc := cX4_freeBlocks) (maxL := 6) (ret := (some .int)) (by decide) rfl ?_
  intro p e s m args below meth c s₁ B hml htab hv
  obtain ⟨rfl, hsz, hP, hK, hD0, hX⟩ := hv
  subst hsz
  have hts := atoms_spec (ws := ws_ yX4_freeBlocks cX4_freeBlocks 6 (some .int)) B.pre
  have G : CallFix p m c cX4_freeBlocks 6 s _ wA RX4 := ⟨B.exec, B.bytes, hml, findClass_of_methodNamed B.named, fun w h => hts w (List.mem_cons_of_mem _ h)⟩
  have hr := B.returns
  have hlk := B.notSynchronized
  have hW : KW D (va_A (wB cy h kp σ) s.heap.size) s.heap (wB cy h kp σ) s.heap [] := ⟨hP, hD0.self, va_S.rf⟩
  have hA : ∀ q, s.heap.size ≤ q → va_A (wB cy h kp σ) s.heap.size q := fun q h => Or.inr h
  have hl := lv_entry ([.ref (h 104), .int x1]) (n := 6) (Nat.le_of_ble_eq_true rfl)
  rw [lg_entry_eq]
  generalize (lg_sl ([.ref (h 104), .int x1]) ++ List.replicate (6 - (lg_sl ([.ref (h 104), .int x1])).length) Slot.unset).toArray = ls at hl ⊢
  have hl : lv_has ls 6 [(0, .ref (h 104)), (1, .int x1)] := hl
  unfold fX4_freeBlocks at hf
  refine lv_iload_n G.1 G.2.1 dX4_freeBlocks_0 rfl (lv_at hl 1 rfl) ?_
  obtain ⟨v1, ev1, hf⟩ := ob hf
  refine kc_s (n := 1) (As := [.int x1]) G hW (mX4_isOrder l n x1 ev1) (gS q_5_5 q_5_6 q_1_2 q_5_7) ⟨rfl, rfl⟩ (by decide +kernel) ⟨Nat.le_of_ble_eq_true rfl, Nat.le_of_ble_eq_true rfl⟩ rfl hl.1 rfl (Nat.le_of_ble_eq_true rfl) dX4_freeBlocks_1 ⟨Nat.le_of_ble_eq_true rfl, Nat.le_of_ble_eq_true rfl⟩ (fun H locs hW => ?_)
  refine lv_if_ne (tgt := 17) G.1 G.2.1 dX4_freeBlocks_4 (by decide) (fun c4 => ?_) (fun c4 => ?_)
  · replace hf := ie c4 hf
    refine lv_aload_n G.1 G.2.1 dX4_freeBlocks_17 rfl (lv_at hl 0 rfl) ?_
    obtain ⟨v2, ev2, hf⟩ := ob hf
    refine kc_i (wr := []) (w := wB cy h kp σ) (w' := wB cy h kp σ) (n := 0) (As := []) (C := RX4) G hK hA hW (mX4_takenNow l D cy h kp _ n σ  ev2) (gV q_28_17 q_28_18 q_28_19 q_1_2 q_28_20) ⟨rfl, rfl⟩ (by decide +kernel) ⟨Nat.le_of_ble_eq_true rfl, Nat.le_of_ble_eq_true rfl⟩ (va_recv hK.1 hW.1 (ci := 6) (q0 := 0) rfl rfl) rfl hl.1 rfl (Nat.le_of_ble_eq_true rfl) dX4_freeBlocks_18 ⟨Nat.le_of_ble_eq_true rfl, Nat.le_of_ble_eq_true rfl⟩ (fun H locs hW => ?_)
    refine lv_istore_n (lv' := [(2, .int v2), (0, .ref (h 104)), (1, .int x1)]) G.1 G.2.1 dX4_freeBlocks_21 rfl hl (by decide) rfl (fun ls hl => ?_)
    refine lv_iconst (v := (0 : Int32)) G.1 G.2.1 dX4_freeBlocks_22 (by decide) ?_
    refine lv_istore_n (lv' := [(3, .int (0 : Int32)), (2, .int v2), (0, .ref (h 104)), (1, .int x1)]) G.1 G.2.1 dX4_freeBlocks_23 rfl hl (by decide) rfl (fun ls hl => ?_)
    refine lv_iconst (v := (0 : Int32)) G.1 G.2.1 dX4_freeBlocks_24 (by decide) ?_
    refine lv_istore (lv' := [(4, .int (0 : Int32)), (3, .int (0 : Int32)), (2, .int v2), (0, .ref (h 104)), (1, .int x1)]) G.1 G.2.1 dX4_freeBlocks_25 hl (by decide) rfl (fun ls hl => ?_)
    have L27 : ∀ (fu : Nat) (y3 : Int32) (y4 : Int32) (H : Heap) (locs : List Loc) (ls : Array Slot), lz2 (fX4_freeBlocks_b27 n σ x1 v2) fu y3 y4 = some o → KW D (va_A (wB cy h kp σ) s.heap.size) s.heap (wB cy h kp σ) H locs → lv_has ls 6 [(4, .int y3), (3, .int y4), (2, .int v2), (0, .ref (h 104)), (1, .int x1)] → W p l e (headSpec (ws_ yX4_freeBlocks cX4_freeBlocks 6 (some .int)) { frames := 6, cells := 1, slots := 6, locals := 90 }).room s m (([.ref (h 104), .int x1] : List Value).toArray) below meth c H locs 0 0 (vx_MQ below (XQi D (va_A (wB cy h kp σ) s.heap.size) (wB cy h kp) o) (XCo D (va_A (wB cy h kp σ) s.heap.size) (wB cy h kp) o) (([.ref (h 104), .int x1] : List Value).toArray) s 1 6 (va_A (wB cy h kp σ) s.heap.size)) (F0 m 27 ls []) := by
      intro fu27
      induction fu27 with
      | zero => intro y3 y4 H locs ls hf; cases hf
      | succ fu27 ih27 =>
        intro y3 y4 H locs ls hf hW hl
        rw [lz2_s] at hf
        unfold fX4_freeBlocks_b27 at hf
        refine lv_iload G.1 G.2.1 dX4_freeBlocks_27 (lv_at hl 0 rfl) ?_
        refine lv_bipush (v := (32 : Int32)) G.1 G.2.1 dX4_freeBlocks_29 (by decide) ?_
        refine lv_iload_n G.1 G.2.1 dX4_freeBlocks_31 rfl (lv_at hl 4 rfl) ?_
        refine lv_ishr G.1 G.2.1 dX4_freeBlocks_32 ?_
        refine lv_icmp_ge (tgt := 86) G.1 G.2.1 dX4_freeBlocks_33 (by decide) (fun c33 => ?_) (fun c33 => ?_)
        · replace hf := it c33 hf
          refine lv_iload_n G.1 G.2.1 dX4_freeBlocks_86 rfl (lv_at hl 1 rfl) ?_
          exact kx_iret (w := wB cy h kp) G hr hlk hW (Option.some.inj hf).symm (Nat.le_of_ble_eq_true rfl) (Nat.le_of_ble_eq_true rfl) dX4_freeBlocks_87
        · replace hf := ie c33 hf
          refine lv_iload_n G.1 G.2.1 dX4_freeBlocks_36 rfl (lv_at hl 4 rfl) ?_
          refine lv_iconst (v := (5 : Int32)) G.1 G.2.1 dX4_freeBlocks_37 (by decide) ?_
          refine lv_icmp_ge (tgt := 59) G.1 G.2.1 dX4_freeBlocks_38 (by decide) (fun c38 => ?_) (fun c38 => ?_)
          · replace hf := it c38 hf
            refine lv_iconst (v := (0 : Int32)) G.1 G.2.1 dX4_freeBlocks_59 (by decide) ?_
            refine lv_istore (lv' := [(5, .int (0 : Int32)), (4, .int y3), (3, .int y4), (2, .int v2), (0, .ref (h 104)), (1, .int x1)]) G.1 G.2.1 dX4_freeBlocks_60 hl (by decide) rfl (fun ls hl => ?_)
            refine lv_iload_n G.1 G.2.1 dX4_freeBlocks_62 rfl (lv_at hl 3 rfl) ?_
            refine lv_iload_n G.1 G.2.1 dX4_freeBlocks_63 rfl (lv_at hl 5 rfl) ?_
            refine lv_iload G.1 G.2.1 dX4_freeBlocks_64 (lv_at hl 1 rfl) ?_
            obtain ⟨v6, ev6, hf⟩ := ob hf
            refine kc_s (n := 3) (As := [.int v2, .int x1, .int y3]) G hW (mX4_isClear l n v2 x1 y3 ev6) (gS q_28_21 q_28_22 q_1_2 q_28_23) ⟨rfl, rfl⟩ (by decide +kernel) ⟨Nat.le_of_ble_eq_true rfl, Nat.le_of_ble_eq_true rfl⟩ rfl hl.1 rfl (Nat.le_of_ble_eq_true rfl) dX4_freeBlocks_66 ⟨Nat.le_of_ble_eq_true rfl, Nat.le_of_ble_eq_true rfl⟩ (fun H locs hW => ?_)
            refine lv_if_eq (tgt := 80) G.1 G.2.1 dX4_freeBlocks_69 (by decide) (fun c69 => ?_) (fun c69 => ?_)
            · replace hf := it c69 hf
              refine lv_iinc (v := (y3 + (1 : Int32))) (lv' := [(4, .int (y3 + (1 : Int32))), (5, .int (0 : Int32)), (3, .int y4), (2, .int v2), (0, .ref (h 104)), (1, .int x1)]) G.1 G.2.1 dX4_freeBlocks_80 hl (k := 1) rfl (congrArg (y3 + ·) (by decide)) (by decide) rfl (fun ls hl => ?_)
              refine lv_goto (tgt := 27) G.1 G.2.1 dX4_freeBlocks_83 (by decide) ?_
              exact ih27 _ _ _ _ _ hf hW (lv_sub hl [0, 2, 3, 4, 5] rfl)
            · replace hf := ie c69 hf
              refine lv_iload G.1 G.2.1 dX4_freeBlocks_72 (lv_at hl 0 rfl) ?_
              refine lv_if_ne (tgt := 80) G.1 G.2.1 dX4_freeBlocks_74 (by decide) (fun c74 => ?_) (fun c74 => ?_)
              · replace hf := ie c74 hf
                refine lv_iinc (v := (y3 + (1 : Int32))) (lv' := [(4, .int (y3 + (1 : Int32))), (5, .int (0 : Int32)), (3, .int y4), (2, .int v2), (0, .ref (h 104)), (1, .int x1)]) G.1 G.2.1 dX4_freeBlocks_80 hl (k := 1) rfl (congrArg (y3 + ·) (by decide)) (by decide) rfl (fun ls hl => ?_)
                refine lv_goto (tgt := 27) G.1 G.2.1 dX4_freeBlocks_83 (by decide) ?_
                exact ih27 _ _ _ _ _ hf hW (lv_sub hl [0, 2, 3, 4, 5] rfl)
              · replace hf := it c74 hf
                refine lv_iinc (v := (y4 + (1 : Int32))) (lv' := [(3, .int (y4 + (1 : Int32))), (5, .int (0 : Int32)), (4, .int y3), (2, .int v2), (0, .ref (h 104)), (1, .int x1)]) G.1 G.2.1 dX4_freeBlocks_77 hl (k := 2) rfl (congrArg (y4 + ·) (by decide)) (by decide) rfl (fun ls hl => ?_)
                refine lv_iinc (v := (y3 + (1 : Int32))) (lv' := [(4, .int (y3 + (1 : Int32))), (3, .int (y4 + (1 : Int32))), (5, .int (0 : Int32)), (2, .int v2), (0, .ref (h 104)), (1, .int x1)]) G.1 G.2.1 dX4_freeBlocks_80 hl (k := 2) rfl (congrArg (y3 + ·) (by decide)) (by decide) rfl (fun ls hl => ?_)
                refine lv_goto (tgt := 27) G.1 G.2.1 dX4_freeBlocks_83 (by decide) ?_
                exact ih27 _ _ _ _ _ hf hW (lv_sub hl [0, 1, 3, 4, 5] rfl)
          · replace hf := ie c38 hf
            refine lv_iload_n G.1 G.2.1 dX4_freeBlocks_41 rfl (lv_at hl 2 rfl) ?_
            refine lv_iload_n G.1 G.2.1 dX4_freeBlocks_42 rfl (lv_at hl 4 rfl) ?_
            refine lv_iconst (v := (1 : Int32)) G.1 G.2.1 dX4_freeBlocks_43 (by decide) ?_
            refine lv_iadd G.1 G.2.1 dX4_freeBlocks_44 ?_
            refine lv_iload G.1 G.2.1 dX4_freeBlocks_45 (lv_at hl 0 rfl) ?_
            refine lv_iconst (v := (1 : Int32)) G.1 G.2.1 dX4_freeBlocks_47 (by decide) ?_
            refine lv_ishr G.1 G.2.1 dX4_freeBlocks_48 ?_
            obtain ⟨v7, ev7, hf⟩ := ob hf
            refine kc_s (n := 3) (As := [.int v2, .int (x1 + (1 : Int32)), .int (y3 >>> ((1 : Int32) &&& 31))]) G hW (mX4_isClear l n v2 (x1 + (1 : Int32)) (y3 >>> ((1 : Int32) &&& 31)) ev7) (gS q_28_21 q_28_22 q_1_2 q_28_23) ⟨rfl, rfl⟩ (by decide +kernel) ⟨Nat.le_of_ble_eq_true rfl, Nat.le_of_ble_eq_true rfl⟩ rfl hl.1 rfl (Nat.le_of_ble_eq_true rfl) dX4_freeBlocks_49 ⟨Nat.le_of_ble_eq_true rfl, Nat.le_of_ble_eq_true rfl⟩ (fun H locs hW => ?_)
            refine lv_if_eq (tgt := 59) G.1 G.2.1 dX4_freeBlocks_52 (by decide) (fun c52 => ?_) (fun c52 => ?_)
            · replace hf := it c52 hf
              refine lv_iconst (v := (0 : Int32)) G.1 G.2.1 dX4_freeBlocks_59 (by decide) ?_
              refine lv_istore (lv' := [(5, .int (0 : Int32)), (4, .int y3), (3, .int y4), (2, .int v2), (0, .ref (h 104)), (1, .int x1)]) G.1 G.2.1 dX4_freeBlocks_60 hl (by decide) rfl (fun ls hl => ?_)
              refine lv_iload_n G.1 G.2.1 dX4_freeBlocks_62 rfl (lv_at hl 3 rfl) ?_
              refine lv_iload_n G.1 G.2.1 dX4_freeBlocks_63 rfl (lv_at hl 5 rfl) ?_
              refine lv_iload G.1 G.2.1 dX4_freeBlocks_64 (lv_at hl 1 rfl) ?_
              obtain ⟨v8, ev8, hf⟩ := ob hf
              refine kc_s (n := 3) (As := [.int v2, .int x1, .int y3]) G hW (mX4_isClear l n v2 x1 y3 ev8) (gS q_28_21 q_28_22 q_1_2 q_28_23) ⟨rfl, rfl⟩ (by decide +kernel) ⟨Nat.le_of_ble_eq_true rfl, Nat.le_of_ble_eq_true rfl⟩ rfl hl.1 rfl (Nat.le_of_ble_eq_true rfl) dX4_freeBlocks_66 ⟨Nat.le_of_ble_eq_true rfl, Nat.le_of_ble_eq_true rfl⟩ (fun H locs hW => ?_)
              refine lv_if_eq (tgt := 80) G.1 G.2.1 dX4_freeBlocks_69 (by decide) (fun c69 => ?_) (fun c69 => ?_)
              · replace hf := it c69 hf
                refine lv_iinc (v := (y3 + (1 : Int32))) (lv' := [(4, .int (y3 + (1 : Int32))), (5, .int (0 : Int32)), (3, .int y4), (2, .int v2), (0, .ref (h 104)), (1, .int x1)]) G.1 G.2.1 dX4_freeBlocks_80 hl (k := 1) rfl (congrArg (y3 + ·) (by decide)) (by decide) rfl (fun ls hl => ?_)
                refine lv_goto (tgt := 27) G.1 G.2.1 dX4_freeBlocks_83 (by decide) ?_
                exact ih27 _ _ _ _ _ hf hW (lv_sub hl [0, 2, 3, 4, 5] rfl)
              · replace hf := ie c69 hf
                refine lv_iload G.1 G.2.1 dX4_freeBlocks_72 (lv_at hl 0 rfl) ?_
                refine lv_if_ne (tgt := 80) G.1 G.2.1 dX4_freeBlocks_74 (by decide) (fun c74 => ?_) (fun c74 => ?_)
                · replace hf := ie c74 hf
                  refine lv_iinc (v := (y3 + (1 : Int32))) (lv' := [(4, .int (y3 + (1 : Int32))), (5, .int (0 : Int32)), (3, .int y4), (2, .int v2), (0, .ref (h 104)), (1, .int x1)]) G.1 G.2.1 dX4_freeBlocks_80 hl (k := 1) rfl (congrArg (y3 + ·) (by decide)) (by decide) rfl (fun ls hl => ?_)
                  refine lv_goto (tgt := 27) G.1 G.2.1 dX4_freeBlocks_83 (by decide) ?_
                  exact ih27 _ _ _ _ _ hf hW (lv_sub hl [0, 2, 3, 4, 5] rfl)
                · replace hf := it c74 hf
                  refine lv_iinc (v := (y4 + (1 : Int32))) (lv' := [(3, .int (y4 + (1 : Int32))), (5, .int (0 : Int32)), (4, .int y3), (2, .int v2), (0, .ref (h 104)), (1, .int x1)]) G.1 G.2.1 dX4_freeBlocks_77 hl (k := 2) rfl (congrArg (y4 + ·) (by decide)) (by decide) rfl (fun ls hl => ?_)
                  refine lv_iinc (v := (y3 + (1 : Int32))) (lv' := [(4, .int (y3 + (1 : Int32))), (3, .int (y4 + (1 : Int32))), (5, .int (0 : Int32)), (2, .int v2), (0, .ref (h 104)), (1, .int x1)]) G.1 G.2.1 dX4_freeBlocks_80 hl (k := 2) rfl (congrArg (y3 + ·) (by decide)) (by decide) rfl (fun ls hl => ?_)
                  refine lv_goto (tgt := 27) G.1 G.2.1 dX4_freeBlocks_83 (by decide) ?_
                  exact ih27 _ _ _ _ _ hf hW (lv_sub hl [0, 1, 3, 4, 5] rfl)
            · replace hf := ie c52 hf
              refine lv_iconst (v := (1 : Int32)) G.1 G.2.1 dX4_freeBlocks_55 (by decide) ?_
              refine lv_goto (tgt := 60) G.1 G.2.1 dX4_freeBlocks_56 (by decide) ?_
              refine lv_istore (lv' := [(5, .int (1 : Int32)), (4, .int y3), (3, .int y4), (2, .int v2), (0, .ref (h 104)), (1, .int x1)]) G.1 G.2.1 dX4_freeBlocks_60 hl (by decide) rfl (fun ls hl => ?_)
              refine lv_iload_n G.1 G.2.1 dX4_freeBlocks_62 rfl (lv_at hl 3 rfl) ?_
              refine lv_iload_n G.1 G.2.1 dX4_freeBlocks_63 rfl (lv_at hl 5 rfl) ?_
              refine lv_iload G.1 G.2.1 dX4_freeBlocks_64 (lv_at hl 1 rfl) ?_
              obtain ⟨v9, ev9, hf⟩ := ob hf
              refine kc_s (n := 3) (As := [.int v2, .int x1, .int y3]) G hW (mX4_isClear l n v2 x1 y3 ev9) (gS q_28_21 q_28_22 q_1_2 q_28_23) ⟨rfl, rfl⟩ (by decide +kernel) ⟨Nat.le_of_ble_eq_true rfl, Nat.le_of_ble_eq_true rfl⟩ rfl hl.1 rfl (Nat.le_of_ble_eq_true rfl) dX4_freeBlocks_66 ⟨Nat.le_of_ble_eq_true rfl, Nat.le_of_ble_eq_true rfl⟩ (fun H locs hW => ?_)
              refine lv_if_eq (tgt := 80) G.1 G.2.1 dX4_freeBlocks_69 (by decide) (fun c69 => ?_) (fun c69 => ?_)
              · replace hf := it c69 hf
                refine lv_iinc (v := (y3 + (1 : Int32))) (lv' := [(4, .int (y3 + (1 : Int32))), (5, .int (1 : Int32)), (3, .int y4), (2, .int v2), (0, .ref (h 104)), (1, .int x1)]) G.1 G.2.1 dX4_freeBlocks_80 hl (k := 1) rfl (congrArg (y3 + ·) (by decide)) (by decide) rfl (fun ls hl => ?_)
                refine lv_goto (tgt := 27) G.1 G.2.1 dX4_freeBlocks_83 (by decide) ?_
                exact ih27 _ _ _ _ _ hf hW (lv_sub hl [0, 2, 3, 4, 5] rfl)
              · replace hf := ie c69 hf
                refine lv_iload G.1 G.2.1 dX4_freeBlocks_72 (lv_at hl 0 rfl) ?_
                refine lv_if_ne (tgt := 80) G.1 G.2.1 dX4_freeBlocks_74 (by decide) (fun c74 => ?_) (fun c74 => ?_)
                · replace hf := ie c74 hf
                  refine lv_iinc (v := (y3 + (1 : Int32))) (lv' := [(4, .int (y3 + (1 : Int32))), (5, .int (1 : Int32)), (3, .int y4), (2, .int v2), (0, .ref (h 104)), (1, .int x1)]) G.1 G.2.1 dX4_freeBlocks_80 hl (k := 1) rfl (congrArg (y3 + ·) (by decide)) (by decide) rfl (fun ls hl => ?_)
                  refine lv_goto (tgt := 27) G.1 G.2.1 dX4_freeBlocks_83 (by decide) ?_
                  exact ih27 _ _ _ _ _ hf hW (lv_sub hl [0, 2, 3, 4, 5] rfl)
                · replace hf := it c74 hf
                  refine lv_iinc (v := (y4 + (1 : Int32))) (lv' := [(3, .int (y4 + (1 : Int32))), (5, .int (1 : Int32)), (4, .int y3), (2, .int v2), (0, .ref (h 104)), (1, .int x1)]) G.1 G.2.1 dX4_freeBlocks_77 hl (k := 2) rfl (congrArg (y4 + ·) (by decide)) (by decide) rfl (fun ls hl => ?_)
                  refine lv_iinc (v := (y3 + (1 : Int32))) (lv' := [(4, .int (y3 + (1 : Int32))), (3, .int (y4 + (1 : Int32))), (5, .int (1 : Int32)), (2, .int v2), (0, .ref (h 104)), (1, .int x1)]) G.1 G.2.1 dX4_freeBlocks_80 hl (k := 2) rfl (congrArg (y3 + ·) (by decide)) (by decide) rfl (fun ls hl => ?_)
                  refine lv_goto (tgt := 27) G.1 G.2.1 dX4_freeBlocks_83 (by decide) ?_
                  exact ih27 _ _ _ _ _ hf hW (lv_sub hl [0, 1, 3, 4, 5] rfl)
    exact L27 _ _ _ _ _ _ hf hW (lv_sub hl [0, 1, 2, 3, 4] rfl)
  · replace hf := it c4 hf
    exact kx_throw (w := wB cy h kp) G hT hX hW htab hlk hl.1 (165, xIO) (List.mem_of_getElem? (i := 2) rfl) (194, "there is no such order") (List.mem_of_getElem? (i := 7) rfl) q_14_6 q_14_7 dX4_freeBlocks_7 dX4_freeBlocks_10 dX4_freeBlocks_11 dX4_freeBlocks_13 dX4_freeBlocks_16 (Nat.le_of_ble_eq_true rfl) (Nat.le_of_ble_eq_true rfl) (Nat.le_of_ble_eq_true rfl) (Nat.le_of_ble_eq_true rfl) (Option.some.inj hf).symm (Nat.le_of_ble_eq_true rfl) (Nat.le_of_ble_eq_true rfl)

set_option maxHeartbeats 4000000 in
set_option maxRecDepth 100000 in
theorem mX4_largestFree (l : Launch) (hT : l.stackTraces = false) (D : va_G) (cy : ClassId) (h : Nat → Nat) (kp : Nat) (sz n : Nat) (σ : St) {o : XRg Int32} (hf : fX4_largestFree n σ = some o) : Xi l yX4_largestFree (ws_ yX4_largestFree cX4_largestFree 2 (some .int)) { frames := 6, cells := 1, slots := 6, locals := 90 } D cy (wB cy h kp) σ sz [.ref (h 104)] o 1 6 := by
  refine vx_ofW (cc := cX4_largestFree) (maxL := 2) (ret := (some .int)) (by decide) rfl ?_
  intro p e s m args below meth c s₁ B hml htab hv
  obtain ⟨rfl, hsz, hP, hK, hD0, hX⟩ := hv
  subst hsz
  have hts := atoms_spec (ws := ws_ yX4_largestFree cX4_largestFree 2 (some .int)) B.pre
  have G : CallFix p m c cX4_largestFree 2 s _ wA RX4 := ⟨B.exec, B.bytes, hml, findClass_of_methodNamed B.named, fun w h => hts w (List.mem_cons_of_mem _ h)⟩
  have hr := B.returns
  have hlk := B.notSynchronized
  have hW : KW D (va_A (wB cy h kp σ) s.heap.size) s.heap (wB cy h kp σ) s.heap [] := ⟨hP, hD0.self, va_S.rf⟩
  have hA : ∀ q, s.heap.size ≤ q → va_A (wB cy h kp σ) s.heap.size q := fun q h => Or.inr h
  have hl := lv_entry ([.ref (h 104)]) (n := 2) (Nat.le_of_ble_eq_true rfl)
  rw [lg_entry_eq]
  generalize (lg_sl ([.ref (h 104)]) ++ List.replicate (2 - (lg_sl ([.ref (h 104)])).length) Slot.unset).toArray = ls at hl ⊢
  have hl : lv_has ls 2 [(0, .ref (h 104))] := hl
  unfold fX4_largestFree at hf
  refine lv_aload_n G.1 G.2.1 dX4_largestFree_0 rfl (lv_at hl 0 rfl) ?_
  obtain ⟨v1, ev1, hf⟩ := ob hf
  refine kc_i (wr := []) (w := wB cy h kp σ) (w' := wB cy h kp σ) (n := 0) (As := []) (C := RX4) G hK hA hW (mX4_takenNow l D cy h kp _ n σ  ev1) (gV q_28_17 q_28_18 q_28_19 q_1_2 q_28_20) ⟨rfl, rfl⟩ (by decide +kernel) ⟨Nat.le_of_ble_eq_true rfl, Nat.le_of_ble_eq_true rfl⟩ (va_recv hK.1 hW.1 (ci := 6) (q0 := 0) rfl rfl) rfl hl.1 rfl (Nat.le_of_ble_eq_true rfl) dX4_largestFree_1 ⟨Nat.le_of_ble_eq_true rfl, Nat.le_of_ble_eq_true rfl⟩ (fun H locs hW => ?_)
  obtain ⟨v2, ev2, hf⟩ := ob hf
  refine kc_s (n := 1) (As := [.int v1]) G hW (mX4_largestClearOrder l n v1 ev2) (gS q_29_18 q_29_19 q_1_2 q_29_20) ⟨rfl, rfl⟩ (by decide +kernel) ⟨Nat.le_of_ble_eq_true rfl, Nat.le_of_ble_eq_true rfl⟩ rfl hl.1 rfl (Nat.le_of_ble_eq_true rfl) dX4_largestFree_4 ⟨Nat.le_of_ble_eq_true rfl, Nat.le_of_ble_eq_true rfl⟩ (fun H locs hW => ?_)
  refine lv_istore_n (lv' := [(1, .int v2), (0, .ref (h 104))]) G.1 G.2.1 dX4_largestFree_7 rfl hl (by decide) rfl (fun ls hl => ?_)
  refine lv_iload_n G.1 G.2.1 dX4_largestFree_8 rfl (lv_at hl 0 rfl) ?_
  refine lv_iconst (v := (-1 : Int32)) G.1 G.2.1 dX4_largestFree_9 (by decide) ?_
  refine lv_icmp_ne (tgt := 23) G.1 G.2.1 dX4_largestFree_10 (by decide) (fun c10 => ?_) (fun c10 => ?_)
  · replace hf := ie c10 hf
    refine lv_iload_n G.1 G.2.1 dX4_largestFree_23 rfl (lv_at hl 0 rfl) ?_
    exact kx_iret (w := wB cy h kp) G hr hlk hW (Option.some.inj hf).symm (Nat.le_of_ble_eq_true rfl) (Nat.le_of_ble_eq_true rfl) dX4_largestFree_24
  · replace hf := it c10 hf
    exact kx_throwN (w := wB cy h kp) G hT hX hW htab hlk hl.1 (208, "no processor is free") (List.mem_of_getElem? (i := 8) rfl) q_29_16 q_29_17 dX4_largestFree_13 dX4_largestFree_16 dX4_largestFree_17 dX4_largestFree_19 dX4_largestFree_22 (Nat.le_of_ble_eq_true rfl) (Nat.le_of_ble_eq_true rfl) (Nat.le_of_ble_eq_true rfl) (Nat.le_of_ble_eq_true rfl) (Option.some.inj hf).symm (Nat.le_of_ble_eq_true rfl) (Nat.le_of_ble_eq_true rfl)

set_option maxHeartbeats 4000000 in
set_option maxRecDepth 100000 in
theorem mX4_fragmentation (l : Launch) (hT : l.stackTraces = false) (D : va_G) (cy : ClassId) (h : Nat → Nat) (kp : Nat) (sz n : Nat) (σ : St) {o : XRg UInt64} (hf : fX4_fragmentation n σ = some o) : Xd l yX4_fragmentation (ws_ yX4_fragmentation cX4_fragmentation 4 (some .double)) { frames := 6, cells := 1, slots := 6, locals := 90 } D cy (wB cy h kp) σ sz [.ref (h 104)] o 1 6 := by
  refine vx_ofW (cc := cX4_fragmentation) (maxL := 4) (ret := (some .double)) (by decide) rfl ?_
  intro p e s m args below meth c s₁ B hml htab hv
  obtain ⟨rfl, hsz, hP, hK, hD0, hX⟩ := hv
  subst hsz
  have hts := atoms_spec (ws := ws_ yX4_fragmentation cX4_fragmentation 4 (some .double)) B.pre
  have G : CallFix p m c cX4_fragmentation 4 s _ wA RX4 := ⟨B.exec, B.bytes, hml, findClass_of_methodNamed B.named, fun w h => hts w (List.mem_cons_of_mem _ h)⟩
  have hr := B.returns
  have hlk := B.notSynchronized
  have hW : KW D (va_A (wB cy h kp σ) s.heap.size) s.heap (wB cy h kp σ) s.heap [] := ⟨hP, hD0.self, va_S.rf⟩
  have hA : ∀ q, s.heap.size ≤ q → va_A (wB cy h kp σ) s.heap.size q := fun q h => Or.inr h
  have hl := lv_entry ([.ref (h 104)]) (n := 4) (Nat.le_of_ble_eq_true rfl)
  rw [lg_entry_eq]
  generalize (lg_sl ([.ref (h 104)]) ++ List.replicate (4 - (lg_sl ([.ref (h 104)])).length) Slot.unset).toArray = ls at hl ⊢
  have hl : lv_has ls 4 [(0, .ref (h 104))] := hl
  unfold fX4_fragmentation at hf
  refine lv_aload_n G.1 G.2.1 dX4_fragmentation_0 rfl (lv_at hl 0 rfl) ?_
  obtain ⟨v1, ev1, hf⟩ := ob hf
  refine kc_i (wr := []) (w := wB cy h kp σ) (w' := wB cy h kp σ) (n := 0) (As := []) (C := RX4) G hK hA hW (mX4_takenNow l D cy h kp _ n σ  ev1) (gV q_28_17 q_28_18 q_28_19 q_1_2 q_28_20) ⟨rfl, rfl⟩ (by decide +kernel) ⟨Nat.le_of_ble_eq_true rfl, Nat.le_of_ble_eq_true rfl⟩ (va_recv hK.1 hW.1 (ci := 6) (q0 := 0) rfl rfl) rfl hl.1 rfl (Nat.le_of_ble_eq_true rfl) dX4_fragmentation_1 ⟨Nat.le_of_ble_eq_true rfl, Nat.le_of_ble_eq_true rfl⟩ (fun H locs hW => ?_)
  refine lv_istore_n (lv' := [(1, .int v1), (0, .ref (h 104))]) G.1 G.2.1 dX4_fragmentation_4 rfl hl (by decide) rfl (fun ls hl => ?_)
  refine lv_iload_n G.1 G.2.1 dX4_fragmentation_5 rfl (lv_at hl 0 rfl) ?_
  obtain ⟨v2, ev2, hf⟩ := ob hf
  refine kc_s (n := 1) (As := [.int v1]) G hW (mX4_largestClearOrder l n v1 ev2) (gS q_29_18 q_29_19 q_1_2 q_29_20) ⟨rfl, rfl⟩ (by decide +kernel) ⟨Nat.le_of_ble_eq_true rfl, Nat.le_of_ble_eq_true rfl⟩ rfl hl.1 rfl (Nat.le_of_ble_eq_true rfl) dX4_fragmentation_6 ⟨Nat.le_of_ble_eq_true rfl, Nat.le_of_ble_eq_true rfl⟩ (fun H locs hW => ?_)
  refine lv_istore_n (lv' := [(2, .int v2), (1, .int v1), (0, .ref (h 104))]) G.1 G.2.1 dX4_fragmentation_9 rfl hl (by decide) rfl (fun ls hl => ?_)
  refine lv_bipush (v := (32 : Int32)) G.1 G.2.1 dX4_fragmentation_10 (by decide) ?_
  refine lv_iload_n G.1 G.2.1 dX4_fragmentation_12 rfl (lv_at hl 1 rfl) ?_
  obtain ⟨v3, ev3, hf⟩ := ob hf
  refine kc_s (n := 1) (As := [.int v1]) G hW (mJ6_bitCount_0f7a4 l n v1 ev3) (gS q_27_19 q_27_20 q_27_21 q_27_22) ⟨rfl, rfl⟩ (by decide +kernel) ⟨Nat.le_of_ble_eq_true rfl, Nat.le_of_ble_eq_true rfl⟩ rfl hl.1 rfl (Nat.le_of_ble_eq_true rfl) dX4_fragmentation_13 ⟨Nat.le_of_ble_eq_true rfl, Nat.le_of_ble_eq_true rfl⟩ (fun H locs hW => ?_)
  refine lv_isub G.1 G.2.1 dX4_fragmentation_16 ?_
  refine lv_istore_n (lv' := [(3, .int ((32 : Int32) - v3)), (2, .int v2), (1, .int v1), (0, .ref (h 104))]) G.1 G.2.1 dX4_fragmentation_17 rfl hl (by decide) rfl (fun ls hl => ?_)
  refine lv_iload_n G.1 G.2.1 dX4_fragmentation_18 rfl (lv_at hl 1 rfl) ?_
  refine lv_iconst (v := (-1 : Int32)) G.1 G.2.1 dX4_fragmentation_19 (by decide) ?_
  refine lv_icmp_eq (tgt := 27) G.1 G.2.1 dX4_fragmentation_20 (by decide) (fun c20 => ?_) (fun c20 => ?_)
  · replace hf := it c20 hf
    exact kx_throwN (w := wB cy h kp) G hT hX hW htab hlk hl.1 (208, "no processor is free") (List.mem_of_getElem? (i := 8) rfl) q_29_16 q_29_17 dX4_fragmentation_27 dX4_fragmentation_30 dX4_fragmentation_31 dX4_fragmentation_33 dX4_fragmentation_36 (Nat.le_of_ble_eq_true rfl) (Nat.le_of_ble_eq_true rfl) (Nat.le_of_ble_eq_true rfl) (Nat.le_of_ble_eq_true rfl) (Option.some.inj hf).symm (Nat.le_of_ble_eq_true rfl) (Nat.le_of_ble_eq_true rfl)
  · replace hf := ie c20 hf
    refine lv_iload_n G.1 G.2.1 dX4_fragmentation_23 rfl (lv_at hl 0 rfl) ?_
    refine lv_if_ne (tgt := 37) G.1 G.2.1 dX4_fragmentation_24 (by decide) (fun c24 => ?_) (fun c24 => ?_)
    · replace hf := ie c24 hf
      refine lv_dconst1 G.1 G.2.1 dX4_fragmentation_37 ?_
      refine lv_iconst (v := (1 : Int32)) G.1 G.2.1 dX4_fragmentation_38 (by decide) ?_
      refine lv_iload_n G.1 G.2.1 dX4_fragmentation_39 rfl (lv_at hl 1 rfl) ?_
      refine lv_ishl G.1 G.2.1 dX4_fragmentation_40 ?_
      refine lv_i2d G.1 G.2.1 dX4_fragmentation_41 ?_
      refine lv_iload_n G.1 G.2.1 dX4_fragmentation_42 rfl (lv_at hl 0 rfl) ?_
      refine lv_i2d G.1 G.2.1 dX4_fragmentation_43 ?_
      obtain ⟨v4, ev4, hf⟩ := ob hf
      obtain ⟨zv4, ev4⟩ := od_s ev4
      refine lv_ddiv G.1 G.2.1 dX4_fragmentation_44 zv4 ?_
      rw [← ev4]
      obtain ⟨v5, ev5, hf⟩ := ob hf
      obtain ⟨zv5, ev5⟩ := od_s ev5
      refine lv_dsub G.1 G.2.1 dX4_fragmentation_45 zv5 ?_
      rw [← ev5]
      exact kx_dret (w := wB cy h kp) G hr hlk hW (Option.some.inj hf).symm (Nat.le_of_ble_eq_true rfl) (Nat.le_of_ble_eq_true rfl) dX4_fragmentation_46
    · replace hf := it c24 hf
      exact kx_throwN (w := wB cy h kp) G hT hX hW htab hlk hl.1 (208, "no processor is free") (List.mem_of_getElem? (i := 8) rfl) q_29_16 q_29_17 dX4_fragmentation_27 dX4_fragmentation_30 dX4_fragmentation_31 dX4_fragmentation_33 dX4_fragmentation_36 (Nat.le_of_ble_eq_true rfl) (Nat.le_of_ble_eq_true rfl) (Nat.le_of_ble_eq_true rfl) (Nat.le_of_ble_eq_true rfl) (Option.some.inj hf).symm (Nat.le_of_ble_eq_true rfl) (Nat.le_of_ble_eq_true rfl)

set_option maxHeartbeats 4000000 in
set_option maxRecDepth 100000 in
theorem mX4_earliestStart (l : Launch) (hT : l.stackTraces = false) (D : va_G) (cy : ClassId) (h : Nat → Nat) (kp : Nat) (sz n : Nat) (σ : St) (x1 : Int32) (x2 : Int32) {o : XRg Int32} (hf : fX4_earliestStart n σ x1 x2 = some o) : Xi l yX4_earliestStart (ws_ yX4_earliestStart cX4_earliestStart 3 (some .int)) { frames := 6, cells := 1, slots := 6, locals := 90 } D cy (wB cy h kp) σ sz [.ref (h 104), .int x1, .int x2] o 1 6 := by
  refine vx_ofW (cc := cX4_earliestStart) (maxL := 3) (ret := (some .int)) (by decide) rfl ?_
  intro p e s m args below meth c s₁ B hml htab hv
  obtain ⟨rfl, hsz, hP, hK, hD0, hX⟩ := hv
  subst hsz
  have hts := atoms_spec (ws := ws_ yX4_earliestStart cX4_earliestStart 3 (some .int)) B.pre
  have G : CallFix p m c cX4_earliestStart 3 s _ wA RX4 := ⟨B.exec, B.bytes, hml, findClass_of_methodNamed B.named, fun w h => hts w (List.mem_cons_of_mem _ h)⟩
  have hr := B.returns
  have hlk := B.notSynchronized
  have hW : KW D (va_A (wB cy h kp σ) s.heap.size) s.heap (wB cy h kp σ) s.heap [] := ⟨hP, hD0.self, va_S.rf⟩
  have hA : ∀ q, s.heap.size ≤ q → va_A (wB cy h kp σ) s.heap.size q := fun q h => Or.inr h
  have hl := lv_entry ([.ref (h 104), .int x1, .int x2]) (n := 3) (Nat.le_of_ble_eq_true rfl)
  rw [lg_entry_eq]
  generalize (lg_sl ([.ref (h 104), .int x1, .int x2]) ++ List.replicate (3 - (lg_sl ([.ref (h 104), .int x1, .int x2])).length) Slot.unset).toArray = ls at hl ⊢
  have hl : lv_has ls 3 [(0, .ref (h 104)), (1, .int x1), (2, .int x2)] := hl
  unfold fX4_earliestStart at hf
  refine lv_iload_n G.1 G.2.1 dX4_earliestStart_0 rfl (lv_at hl 1 rfl) ?_
  obtain ⟨v1, ev1, hf⟩ := ob hf
  refine kc_s (n := 1) (As := [.int x1]) G hW (mX4_isOrder l n x1 ev1) (gS q_5_5 q_5_6 q_1_2 q_5_7) ⟨rfl, rfl⟩ (by decide +kernel) ⟨Nat.le_of_ble_eq_true rfl, Nat.le_of_ble_eq_true rfl⟩ rfl hl.1 rfl (Nat.le_of_ble_eq_true rfl) dX4_earliestStart_1 ⟨Nat.le_of_ble_eq_true rfl, Nat.le_of_ble_eq_true rfl⟩ (fun H locs hW => ?_)
  refine lv_if_eq (tgt := 14) G.1 G.2.1 dX4_earliestStart_4 (by decide) (fun c4 => ?_) (fun c4 => ?_)
  · replace hf := it c4 hf
    exact kx_throw (w := wB cy h kp) G hT hX hW htab hlk hl.1 (41, xIA) (List.mem_of_getElem? (i := 0) rfl) (39, "a number is out of range") (List.mem_of_getElem? (i := 18) rfl) q_4_20 q_4_21 dX4_earliestStart_14 dX4_earliestStart_17 dX4_earliestStart_18 dX4_earliestStart_20 dX4_earliestStart_23 (Nat.le_of_ble_eq_true rfl) (Nat.le_of_ble_eq_true rfl) (Nat.le_of_ble_eq_true rfl) (Nat.le_of_ble_eq_true rfl) (Option.some.inj hf).symm (Nat.le_of_ble_eq_true rfl) (Nat.le_of_ble_eq_true rfl)
  · replace hf := ie c4 hf
    refine lv_iload_n G.1 G.2.1 dX4_earliestStart_7 rfl (lv_at hl 2 rfl) ?_
    obtain ⟨v2, ev2, hf⟩ := ob hf
    refine kc_s (n := 1) (As := [.int x2]) G hW (mX4_isLength l n x2 ev2) (gS q_5_8 q_5_9 q_1_2 q_5_10) ⟨rfl, rfl⟩ (by decide +kernel) ⟨Nat.le_of_ble_eq_true rfl, Nat.le_of_ble_eq_true rfl⟩ rfl hl.1 rfl (Nat.le_of_ble_eq_true rfl) dX4_earliestStart_8 ⟨Nat.le_of_ble_eq_true rfl, Nat.le_of_ble_eq_true rfl⟩ (fun H locs hW => ?_)
    refine lv_if_ne (tgt := 24) G.1 G.2.1 dX4_earliestStart_11 (by decide) (fun c11 => ?_) (fun c11 => ?_)
    · replace hf := ie c11 hf
      refine lv_aload_n G.1 G.2.1 dX4_earliestStart_24 rfl (lv_at hl 0 rfl) ?_
      refine k_get G inlX4 hK hW 0 rfl rfl 0 (by decide) q_1_17 rfl dX4_earliestStart_25 ?_
      refine k_get G inlX0 hK hW 1 rfl rfl 0 (by decide) q_16_7 rfl dX4_earliestStart_28 ?_
      refine lv_iload_n G.1 G.2.1 dX4_earliestStart_31 rfl (lv_at hl 1 rfl) ?_
      refine lv_aload_n G.1 G.2.1 dX4_earliestStart_32 rfl (lv_at hl 0 rfl) ?_
      refine k_get G inlX4 hK hW 0 rfl rfl 0 (by decide) q_1_17 rfl dX4_earliestStart_33 ?_
      refine k_get G inlX0 hK hW 1 rfl rfl 4 (by decide) q_10_20 rfl dX4_earliestStart_36 ?_
      refine lv_iload_n G.1 G.2.1 dX4_earliestStart_39 rfl (lv_at hl 2 rfl) ?_
      obtain ⟨v3, ev3, hf⟩ := ob hf
      refine kc_i (wr := [(h 104, .inr (6, [.ref (h 103), .ref kp, .int (σ 28 0), .int (σ 29 0)]))]) (w := wC cy h σ) (w' := wC cy h σ) (n := 3) (As := [.int x1, .int (σ 25 0), .int x2]) (C := RX3) G hK hA hW (mX3_earliest l D cy h _ n σ x1 (σ 25 0) x2 ev3) (gV q_31_0 q_6_7 q_6_8 q_2_2 q_6_9) ⟨rfl, rfl⟩ (by decide +kernel) ⟨Nat.le_of_ble_eq_true rfl, Nat.le_of_ble_eq_true rfl⟩ (va_recv hK.1 hW.1 (ci := 5) (q0 := 5) rfl rfl) rfl hl.1 rfl (Nat.le_of_ble_eq_true rfl) dX4_earliestStart_40 ⟨Nat.le_of_ble_eq_true rfl, Nat.le_of_ble_eq_true rfl⟩ (fun H locs hW => ?_)
      exact kx_iret (w := wB cy h kp) G hr hlk hW (Option.some.inj hf).symm (Nat.le_of_ble_eq_true rfl) (Nat.le_of_ble_eq_true rfl) dX4_earliestStart_43
    · replace hf := it c11 hf
      exact kx_throw (w := wB cy h kp) G hT hX hW htab hlk hl.1 (41, xIA) (List.mem_of_getElem? (i := 0) rfl) (39, "a number is out of range") (List.mem_of_getElem? (i := 18) rfl) q_4_20 q_4_21 dX4_earliestStart_14 dX4_earliestStart_17 dX4_earliestStart_18 dX4_earliestStart_20 dX4_earliestStart_23 (Nat.le_of_ble_eq_true rfl) (Nat.le_of_ble_eq_true rfl) (Nat.le_of_ble_eq_true rfl) (Nat.le_of_ble_eq_true rfl) (Option.some.inj hf).symm (Nat.le_of_ble_eq_true rfl) (Nat.le_of_ble_eq_true rfl)

set_option maxHeartbeats 4000000 in
set_option maxRecDepth 100000 in
theorem mX4_lowestBlock (l : Launch) (hT : l.stackTraces = false) (D : va_G) (cy : ClassId) (h : Nat → Nat) (kp : Nat) (sz n : Nat) (σ : St) (x1 : Int32) (x2 : Int32) (x3 : Int32) {o : XRg Int32} (hf : fX4_lowestBlock n σ x1 x2 x3 = some o) : Xi l yX4_lowestBlock (ws_ yX4_lowestBlock cX4_lowestBlock 5 (some .int)) { frames := 7, cells := 2, slots := 12, locals := 112 } D cy (wB cy h kp) σ sz [.ref (h 104), .int x1, .int x2, .int x3] o 2 12 := by
  refine vx_ofW (cc := cX4_lowestBlock) (maxL := 5) (ret := (some .int)) (by decide) rfl ?_
  intro p e s m args below meth c s₁ B hml htab hv
  obtain ⟨rfl, hsz, hP, hK, hD0, hX⟩ := hv
  subst hsz
  have hts := atoms_spec (ws := ws_ yX4_lowestBlock cX4_lowestBlock 5 (some .int)) B.pre
  have G : CallFix p m c cX4_lowestBlock 5 s _ wA RX4 := ⟨B.exec, B.bytes, hml, findClass_of_methodNamed B.named, fun w h => hts w (List.mem_cons_of_mem _ h)⟩
  have hr := B.returns
  have hlk := B.notSynchronized
  have hW : KW D (va_A (wB cy h kp σ) s.heap.size) s.heap (wB cy h kp σ) s.heap [] := ⟨hP, hD0.self, va_S.rf⟩
  have hA : ∀ q, s.heap.size ≤ q → va_A (wB cy h kp σ) s.heap.size q := fun q h => Or.inr h
  have hl := lv_entry ([.ref (h 104), .int x1, .int x2, .int x3]) (n := 5) (Nat.le_of_ble_eq_true rfl)
  rw [lg_entry_eq]
  generalize (lg_sl ([.ref (h 104), .int x1, .int x2, .int x3]) ++ List.replicate (5 - (lg_sl ([.ref (h 104), .int x1, .int x2, .int x3])).length) Slot.unset).toArray = ls at hl ⊢
  have hl : lv_has ls 5 [(0, .ref (h 104)), (1, .int x1), (2, .int x2), (3, .int x3)] := hl
  unfold fX4_lowestBlock at hf
  refine lv_iload_n G.1 G.2.1 dX4_lowestBlock_0 rfl (lv_at hl 1 rfl) ?_
  refine lv_iload_n G.1 G.2.1 dX4_lowestBlock_1 rfl (lv_at hl 2 rfl) ?_
  refine lv_iload_n G.1 G.2.1 dX4_lowestBlock_2 rfl (lv_at hl 3 rfl) ?_
  refine kxc_s (w := wB cy h kp) (n := 3) (As := [.int x1, .int x2, .int x3]) G hK hX hA hW htab hlk hf (fun z hz => mX4_checkInterval l hT D cy h _ n σ x1 x2 x3 hz) (fun z hz => fX4_checkInterval_u hz) (gS q_15_23 q_16_0 q_1_2 q_16_1) ⟨rfl, rfl⟩ (by decide +kernel) ⟨Nat.le_of_ble_eq_true rfl, Nat.le_of_ble_eq_true rfl⟩ rfl hl.1 rfl (Nat.le_of_ble_eq_true rfl) dX4_lowestBlock_3 ⟨Nat.le_of_ble_eq_true rfl, Nat.le_of_ble_eq_true rfl⟩ (Nat.le_of_ble_eq_true rfl) (Nat.le_of_ble_eq_true rfl) (fun v1 s2 H locs hf hW => ?_)
  refine lv_aload_n G.1 G.2.1 dX4_lowestBlock_6 rfl (lv_at hl 0 rfl) ?_
  refine k_get G inlX4 hK hW 0 rfl rfl 0 (by decide) q_1_17 rfl dX4_lowestBlock_7 ?_
  refine k_get G inlX0 hK hW 1 rfl rfl 0 (by decide) q_16_7 rfl dX4_lowestBlock_10 ?_
  refine lv_iload_n G.1 G.2.1 dX4_lowestBlock_13 rfl (lv_at hl 1 rfl) ?_
  refine lv_iload_n G.1 G.2.1 dX4_lowestBlock_14 rfl (lv_at hl 2 rfl) ?_
  refine lv_iload_n G.1 G.2.1 dX4_lowestBlock_15 rfl (lv_at hl 3 rfl) ?_
  obtain ⟨v3, ev3, hf⟩ := ob hf
  refine kc_i (wr := [(h 104, .inr (6, [.ref (h 103), .ref kp, .int (s2 28 0), .int (s2 29 0)]))]) (w := wC cy h s2) (w' := wC cy h s2) (n := 3) (As := [.int x1, .int x2, .int x3]) (C := RX3) G hK hA hW (mX3_lowestFree l D cy h _ n s2 x1 x2 x3 ev3) (gV q_16_8 q_7_0 q_7_1 q_2_2 q_7_2) ⟨rfl, rfl⟩ (by decide +kernel) ⟨Nat.le_of_ble_eq_true rfl, Nat.le_of_ble_eq_true rfl⟩ (va_recv hK.1 hW.1 (ci := 5) (q0 := 5) rfl rfl) rfl hl.1 rfl (Nat.le_of_ble_eq_true rfl) dX4_lowestBlock_16 ⟨Nat.le_of_ble_eq_true rfl, Nat.le_of_ble_eq_true rfl⟩ (fun H locs hW => ?_)
  refine lv_istore (lv' := [(4, .int v3), (0, .ref (h 104)), (1, .int x1), (2, .int x2), (3, .int x3)]) G.1 G.2.1 dX4_lowestBlock_19 hl (by decide) rfl (fun ls hl => ?_)
  refine lv_iload G.1 G.2.1 dX4_lowestBlock_21 (lv_at hl 0 rfl) ?_
  refine lv_iconst (v := (-1 : Int32)) G.1 G.2.1 dX4_lowestBlock_23 (by decide) ?_
  refine lv_icmp_ne (tgt := 37) G.1 G.2.1 dX4_lowestBlock_24 (by decide) (fun c24 => ?_) (fun c24 => ?_)
  · replace hf := ie c24 hf
    refine lv_iload G.1 G.2.1 dX4_lowestBlock_37 (lv_at hl 0 rfl) ?_
    exact kx_iret (w := wB cy h kp) G hr hlk hW (Option.some.inj hf).symm (Nat.le_of_ble_eq_true rfl) (Nat.le_of_ble_eq_true rfl) dX4_lowestBlock_39
  · replace hf := it c24 hf
    exact kx_throwN (w := wB cy h kp) G hT hX hW htab hlk hl.1 (217, "no block of this order is free in the interval") (List.mem_of_getElem? (i := 9) rfl) q_29_16 q_29_17 dX4_lowestBlock_27 dX4_lowestBlock_30 dX4_lowestBlock_31 dX4_lowestBlock_33 dX4_lowestBlock_36 (Nat.le_of_ble_eq_true rfl) (Nat.le_of_ble_eq_true rfl) (Nat.le_of_ble_eq_true rfl) (Nat.le_of_ble_eq_true rfl) (Option.some.inj hf).symm (Nat.le_of_ble_eq_true rfl) (Nat.le_of_ble_eq_true rfl)

set_option maxHeartbeats 4000000 in
set_option maxRecDepth 100000 in
theorem mX4_blockStarts (l : Launch) (hT : l.stackTraces = false) (D : va_G) (cy : ClassId) (h : Nat → Nat) (kp : Nat) (sz n : Nat) (σ : St) (x1 : Int32) (x2 : Int32) {o : XRg Int32} (hf : fX4_blockStarts n σ x1 x2 = some o) : Xi l yX4_blockStarts (ws_ yX4_blockStarts cX4_blockStarts 3 (some .int)) { frames := 6, cells := 1, slots := 6, locals := 90 } D cy (wB cy h kp) σ sz [.ref (h 104), .int x1, .int x2] o 1 6 := by
  refine vx_ofW (cc := cX4_blockStarts) (maxL := 3) (ret := (some .int)) (by decide) rfl ?_
  intro p e s m args below meth c s₁ B hml htab hv
  obtain ⟨rfl, hsz, hP, hK, hD0, hX⟩ := hv
  subst hsz
  have hts := atoms_spec (ws := ws_ yX4_blockStarts cX4_blockStarts 3 (some .int)) B.pre
  have G : CallFix p m c cX4_blockStarts 3 s _ wA RX4 := ⟨B.exec, B.bytes, hml, findClass_of_methodNamed B.named, fun w h => hts w (List.mem_cons_of_mem _ h)⟩
  have hr := B.returns
  have hlk := B.notSynchronized
  have hW : KW D (va_A (wB cy h kp σ) s.heap.size) s.heap (wB cy h kp σ) s.heap [] := ⟨hP, hD0.self, va_S.rf⟩
  have hA : ∀ q, s.heap.size ≤ q → va_A (wB cy h kp σ) s.heap.size q := fun q h => Or.inr h
  have hl := lv_entry ([.ref (h 104), .int x1, .int x2]) (n := 3) (Nat.le_of_ble_eq_true rfl)
  rw [lg_entry_eq]
  generalize (lg_sl ([.ref (h 104), .int x1, .int x2]) ++ List.replicate (3 - (lg_sl ([.ref (h 104), .int x1, .int x2])).length) Slot.unset).toArray = ls at hl ⊢
  have hl : lv_has ls 3 [(0, .ref (h 104)), (1, .int x1), (2, .int x2)] := hl
  unfold fX4_blockStarts at hf
  refine lv_iload_n G.1 G.2.1 dX4_blockStarts_0 rfl (lv_at hl 1 rfl) ?_
  refine lv_iload_n G.1 G.2.1 dX4_blockStarts_1 rfl (lv_at hl 2 rfl) ?_
  obtain ⟨v1, ev1, hf⟩ := ob hf
  refine kc_s (n := 2) (As := [.int x1, .int x2]) G hW (mX4_isBlock l n x1 x2 ev1) (gS q_32_0 q_32_1 q_1_2 q_32_2) ⟨rfl, rfl⟩ (by decide +kernel) ⟨Nat.le_of_ble_eq_true rfl, Nat.le_of_ble_eq_true rfl⟩ rfl hl.1 rfl (Nat.le_of_ble_eq_true rfl) dX4_blockStarts_2 ⟨Nat.le_of_ble_eq_true rfl, Nat.le_of_ble_eq_true rfl⟩ (fun H locs hW => ?_)
  refine lv_if_ne (tgt := 18) G.1 G.2.1 dX4_blockStarts_5 (by decide) (fun c5 => ?_) (fun c5 => ?_)
  · replace hf := ie c5 hf
    refine lv_aload_n G.1 G.2.1 dX4_blockStarts_18 rfl (lv_at hl 0 rfl) ?_
    refine k_get G inlX4 hK hW 0 rfl rfl 0 (by decide) q_1_17 rfl dX4_blockStarts_19 ?_
    refine k_get G inlX0 hK hW 1 rfl rfl 3 (by decide) q_31_23 rfl dX4_blockStarts_22 ?_
    refine lv_iload_n G.1 G.2.1 dX4_blockStarts_25 rfl (lv_at hl 1 rfl) ?_
    refine lv_iload_n G.1 G.2.1 dX4_blockStarts_26 rfl (lv_at hl 2 rfl) ?_
    obtain ⟨v2, ev2, hf⟩ := ob hf
    refine kc_s (n := 2) (As := [.int x1, .int x2]) G hW (mX4_blockIndex l n x1 x2 ev2) (gS q_32_3 q_7_20 q_1_2 q_7_21) ⟨rfl, rfl⟩ (by decide +kernel) ⟨Nat.le_of_ble_eq_true rfl, Nat.le_of_ble_eq_true rfl⟩ rfl hl.1 rfl (Nat.le_of_ble_eq_true rfl) dX4_blockStarts_27 ⟨Nat.le_of_ble_eq_true rfl, Nat.le_of_ble_eq_true rfl⟩ (fun H locs hW => ?_)
    obtain ⟨v3, ev3, hf⟩ := ob hf
    refine k_ald G hK hW 2 rfl ev3 dX4_blockStarts_30 ?_
    exact kx_iret (w := wB cy h kp) G hr hlk hW (Option.some.inj hf).symm (Nat.le_of_ble_eq_true rfl) (Nat.le_of_ble_eq_true rfl) dX4_blockStarts_31
  · replace hf := it c5 hf
    exact kx_throw (w := wB cy h kp) G hT hX hW htab hlk hl.1 (41, xIA) (List.mem_of_getElem? (i := 0) rfl) (223, "there is no such block") (List.mem_of_getElem? (i := 10) rfl) q_4_20 q_4_21 dX4_blockStarts_8 dX4_blockStarts_11 dX4_blockStarts_12 dX4_blockStarts_14 dX4_blockStarts_17 (Nat.le_of_ble_eq_true rfl) (Nat.le_of_ble_eq_true rfl) (Nat.le_of_ble_eq_true rfl) (Nat.le_of_ble_eq_true rfl) (Option.some.inj hf).symm (Nat.le_of_ble_eq_true rfl) (Nat.le_of_ble_eq_true rfl)

set_option maxHeartbeats 4000000 in
set_option maxRecDepth 100000 in
theorem mX4_busiestBlock (l : Launch) (hT : l.stackTraces = false) (D : va_G) (cy : ClassId) (h : Nat → Nat) (kp : Nat) (sz n : Nat) (σ : St) {o : XRg Int32} (hf : fX4_busiestBlock n σ = some o) : Xi l yX4_busiestBlock (ws_ yX4_busiestBlock cX4_busiestBlock 7 (some .int)) { frames := 6, cells := 1, slots := 6, locals := 90 } D cy (wB cy h kp) σ sz [.ref (h 104)] o 1 6 := by
  refine vx_ofW (cc := cX4_busiestBlock) (maxL := 7) (ret := (some .int)) (by decide) rfl ?_
  intro p e s m args below meth c s₁ B hml htab hv
  obtain ⟨rfl, hsz, hP, hK, hD0, hX⟩ := hv
  subst hsz
  have hts := atoms_spec (ws := ws_ yX4_busiestBlock cX4_busiestBlock 7 (some .int)) B.pre
  have G : CallFix p m c cX4_busiestBlock 7 s _ wA RX4 := ⟨B.exec, B.bytes, hml, findClass_of_methodNamed B.named, fun w h => hts w (List.mem_cons_of_mem _ h)⟩
  have hr := B.returns
  have hlk := B.notSynchronized
  have hW : KW D (va_A (wB cy h kp σ) s.heap.size) s.heap (wB cy h kp σ) s.heap [] := ⟨hP, hD0.self, va_S.rf⟩
  have hA : ∀ q, s.heap.size ≤ q → va_A (wB cy h kp σ) s.heap.size q := fun q h => Or.inr h
  have hl := lv_entry ([.ref (h 104)]) (n := 7) (Nat.le_of_ble_eq_true rfl)
  rw [lg_entry_eq]
  generalize (lg_sl ([.ref (h 104)]) ++ List.replicate (7 - (lg_sl ([.ref (h 104)])).length) Slot.unset).toArray = ls at hl ⊢
  have hl : lv_has ls 7 [(0, .ref (h 104))] := hl
  unfold fX4_busiestBlock at hf
  refine lv_iconst (v := (0 : Int32)) G.1 G.2.1 dX4_busiestBlock_0 (by decide) ?_
  refine lv_istore_n (lv' := [(1, .int (0 : Int32)), (0, .ref (h 104))]) G.1 G.2.1 dX4_busiestBlock_1 rfl hl (by decide) rfl (fun ls hl => ?_)
  refine lv_iconst (v := (-1 : Int32)) G.1 G.2.1 dX4_busiestBlock_2 (by decide) ?_
  refine lv_istore_n (lv' := [(2, .int (-1 : Int32)), (1, .int (0 : Int32)), (0, .ref (h 104))]) G.1 G.2.1 dX4_busiestBlock_3 rfl hl (by decide) rfl (fun ls hl => ?_)
  refine lv_iconst (v := (0 : Int32)) G.1 G.2.1 dX4_busiestBlock_4 (by decide) ?_
  refine lv_istore_n (lv' := [(3, .int (0 : Int32)), (2, .int (-1 : Int32)), (1, .int (0 : Int32)), (0, .ref (h 104))]) G.1 G.2.1 dX4_busiestBlock_5 rfl hl (by decide) rfl (fun ls hl => ?_)
  have L6 : ∀ (fu : Nat) (y1 : Int32) (y2 : Int32) (y3 : Int32) (H : Heap) (locs : List Loc) (ls : Array Slot), lz3 (fX4_busiestBlock_b6 n σ) fu y1 y2 y3 = some o → KW D (va_A (wB cy h kp σ) s.heap.size) s.heap (wB cy h kp σ) H locs → lv_has ls 7 [(3, .int y1), (2, .int y2), (1, .int y3), (0, .ref (h 104))] → W p l e (headSpec (ws_ yX4_busiestBlock cX4_busiestBlock 7 (some .int)) { frames := 6, cells := 1, slots := 6, locals := 90 }).room s m (([.ref (h 104)] : List Value).toArray) below meth c H locs 0 0 (vx_MQ below (XQi D (va_A (wB cy h kp σ) s.heap.size) (wB cy h kp) o) (XCo D (va_A (wB cy h kp σ) s.heap.size) (wB cy h kp) o) (([.ref (h 104)] : List Value).toArray) s 1 6 (va_A (wB cy h kp σ) s.heap.size)) (F0 m 6 ls []) := by
    intro fu6
    induction fu6 with
    | zero => intro y1 y2 y3 H locs ls hf; cases hf
    | succ fu6 ih6 =>
      intro y1 y2 y3 H locs ls hf hW hl
      rw [lz3_s] at hf
      unfold fX4_busiestBlock_b6 at hf
      refine lv_iload_n G.1 G.2.1 dX4_busiestBlock_6 rfl (lv_at hl 0 rfl) ?_
      refine lv_iconst (v := (5 : Int32)) G.1 G.2.1 dX4_busiestBlock_7 (by decide) ?_
      refine lv_icmp_gt (tgt := 74) G.1 G.2.1 dX4_busiestBlock_8 (by decide) (fun c8 => ?_) (fun c8 => ?_)
      · replace hf := it c8 hf
        refine lv_iload_n G.1 G.2.1 dX4_busiestBlock_74 rfl (lv_at hl 1 rfl) ?_
        refine lv_iconst (v := (-1 : Int32)) G.1 G.2.1 dX4_busiestBlock_75 (by decide) ?_
        refine lv_icmp_ne (tgt := 89) G.1 G.2.1 dX4_busiestBlock_76 (by decide) (fun c76 => ?_) (fun c76 => ?_)
        · replace hf := ie c76 hf
          refine lv_iload_n G.1 G.2.1 dX4_busiestBlock_89 rfl (lv_at hl 1 rfl) ?_
          exact kx_iret (w := wB cy h kp) G hr hlk hW (Option.some.inj hf).symm (Nat.le_of_ble_eq_true rfl) (Nat.le_of_ble_eq_true rfl) dX4_busiestBlock_90
        · replace hf := it c76 hf
          exact kx_throwN (w := wB cy h kp) G hT hX hW htab hlk hl.1 (152, "no job was started") (List.mem_of_getElem? (i := 2) rfl) q_29_16 q_29_17 dX4_busiestBlock_79 dX4_busiestBlock_82 dX4_busiestBlock_83 dX4_busiestBlock_85 dX4_busiestBlock_88 (Nat.le_of_ble_eq_true rfl) (Nat.le_of_ble_eq_true rfl) (Nat.le_of_ble_eq_true rfl) (Nat.le_of_ble_eq_true rfl) (Option.some.inj hf).symm (Nat.le_of_ble_eq_true rfl) (Nat.le_of_ble_eq_true rfl)
      · replace hf := ie c8 hf
        refine lv_iconst (v := (0 : Int32)) G.1 G.2.1 dX4_busiestBlock_11 (by decide) ?_
        refine lv_istore (lv' := [(4, .int (0 : Int32)), (3, .int y1), (2, .int y2), (1, .int y3), (0, .ref (h 104))]) G.1 G.2.1 dX4_busiestBlock_12 hl (by decide) rfl (fun ls hl => ?_)
        have K14_68 : ∀ (y5 : Int32) (y6 : Int32) (y7 : Int32) (H : Heap) (locs : List Loc) (ls : Array Slot), fX4_busiestBlock_k14_68 y1 (lz3 (fX4_busiestBlock_b6 n σ) fu6) y5 y6 y7 = some o → KW D (va_A (wB cy h kp σ) s.heap.size) s.heap (wB cy h kp σ) H locs → lv_has ls 7 [(4, .int y5), (3, .int y1), (2, .int y6), (1, .int y7), (0, .ref (h 104))] → W p l e (headSpec (ws_ yX4_busiestBlock cX4_busiestBlock 7 (some .int)) { frames := 6, cells := 1, slots := 6, locals := 90 }).room s m (([.ref (h 104)] : List Value).toArray) below meth c H locs 0 0 (vx_MQ below (XQi D (va_A (wB cy h kp σ) s.heap.size) (wB cy h kp) o) (XCo D (va_A (wB cy h kp σ) s.heap.size) (wB cy h kp) o) (([.ref (h 104)] : List Value).toArray) s 1 6 (va_A (wB cy h kp σ) s.heap.size)) (F0 m 68 ls []) := by
          intro y5 y6 y7 H locs ls hf hW hl
          unfold fX4_busiestBlock_k14_68 at hf
          refine lv_iinc (v := (y1 + (1 : Int32))) (lv' := [(3, .int (y1 + (1 : Int32))), (4, .int y5), (2, .int y6), (1, .int y7), (0, .ref (h 104))]) G.1 G.2.1 dX4_busiestBlock_68 hl (k := 1) rfl (congrArg (y1 + ·) (by decide)) (by decide) rfl (fun ls hl => ?_)
          refine lv_goto (tgt := 6) G.1 G.2.1 dX4_busiestBlock_71 (by decide) ?_
          exact ih6 _ _ _ _ _ _ hf hW (lv_sub hl [0, 2, 3, 4] rfl)
        have L14 : ∀ (fu : Nat) (y8 : Int32) (y9 : Int32) (y10 : Int32) (H : Heap) (locs : List Loc) (ls : Array Slot), lz3 (fX4_busiestBlock_b14 n σ y1 (lz3 (fX4_busiestBlock_b6 n σ) fu6)) fu y8 y9 y10 = some o → KW D (va_A (wB cy h kp σ) s.heap.size) s.heap (wB cy h kp σ) H locs → lv_has ls 7 [(4, .int y8), (3, .int y1), (2, .int y9), (1, .int y10), (0, .ref (h 104))] → W p l e (headSpec (ws_ yX4_busiestBlock cX4_busiestBlock 7 (some .int)) { frames := 6, cells := 1, slots := 6, locals := 90 }).room s m (([.ref (h 104)] : List Value).toArray) below meth c H locs 0 0 (vx_MQ below (XQi D (va_A (wB cy h kp σ) s.heap.size) (wB cy h kp) o) (XCo D (va_A (wB cy h kp σ) s.heap.size) (wB cy h kp) o) (([.ref (h 104)] : List Value).toArray) s 1 6 (va_A (wB cy h kp σ) s.heap.size)) (F0 m 14 ls []) := by
          intro fu14
          induction fu14 with
          | zero => intro y8 y9 y10 H locs ls hf; cases hf
          | succ fu14 ih14 =>
            intro y8 y9 y10 H locs ls hf hW hl
            rw [lz3_s] at hf
            unfold fX4_busiestBlock_b14 at hf
            refine lv_iload G.1 G.2.1 dX4_busiestBlock_14 (lv_at hl 0 rfl) ?_
            refine lv_bipush (v := (32 : Int32)) G.1 G.2.1 dX4_busiestBlock_16 (by decide) ?_
            refine lv_iload_n G.1 G.2.1 dX4_busiestBlock_18 rfl (lv_at hl 1 rfl) ?_
            refine lv_ishr G.1 G.2.1 dX4_busiestBlock_19 ?_
            refine lv_icmp_ge (tgt := 68) G.1 G.2.1 dX4_busiestBlock_20 (by decide) (fun c20 => ?_) (fun c20 => ?_)
            · replace hf := it c20 hf
              exact K14_68 _ _ _ _ _ _ hf hW (lv_sub hl [0, 1, 2, 3, 4] rfl)
            · replace hf := ie c20 hf
              refine lv_iload G.1 G.2.1 dX4_busiestBlock_23 (lv_at hl 0 rfl) ?_
              refine lv_iload_n G.1 G.2.1 dX4_busiestBlock_25 rfl (lv_at hl 1 rfl) ?_
              refine lv_ishl G.1 G.2.1 dX4_busiestBlock_26 ?_
              refine lv_istore (lv' := [(5, .int (y8 <<< (y1 &&& 31))), (4, .int y8), (3, .int y1), (2, .int y9), (1, .int y10), (0, .ref (h 104))]) G.1 G.2.1 dX4_busiestBlock_27 hl (by decide) rfl (fun ls hl => ?_)
              refine lv_aload_n G.1 G.2.1 dX4_busiestBlock_29 rfl (lv_at hl 5 rfl) ?_
              refine k_get G inlX4 hK hW 0 rfl rfl 0 (by decide) q_1_17 rfl dX4_busiestBlock_30 ?_
              refine k_get G inlX0 hK hW 1 rfl rfl 3 (by decide) q_31_23 rfl dX4_busiestBlock_33 ?_
              refine lv_iload_n G.1 G.2.1 dX4_busiestBlock_36 rfl (lv_at hl 2 rfl) ?_
              refine lv_iload G.1 G.2.1 dX4_busiestBlock_37 (lv_at hl 0 rfl) ?_
              obtain ⟨v12, ev12, hf⟩ := ob hf
              refine kc_s (n := 2) (As := [.int y1, .int (y8 <<< (y1 &&& 31))]) G hW (mX4_blockIndex l n y1 (y8 <<< (y1 &&& 31)) ev12) (gS q_32_3 q_7_20 q_1_2 q_7_21) ⟨rfl, rfl⟩ (by decide +kernel) ⟨Nat.le_of_ble_eq_true rfl, Nat.le_of_ble_eq_true rfl⟩ rfl hl.1 rfl (Nat.le_of_ble_eq_true rfl) dX4_busiestBlock_39 ⟨Nat.le_of_ble_eq_true rfl, Nat.le_of_ble_eq_true rfl⟩ (fun H locs hW => ?_)
              obtain ⟨v13, ev13, hf⟩ := ob hf
              refine k_ald G hK hW 2 rfl ev13 dX4_busiestBlock_42 ?_
              refine lv_istore (lv' := [(6, .int v13), (5, .int (y8 <<< (y1 &&& 31))), (4, .int y8), (3, .int y1), (2, .int y9), (1, .int y10), (0, .ref (h 104))]) G.1 G.2.1 dX4_busiestBlock_43 hl (by decide) rfl (fun ls hl => ?_)
              refine lv_iload G.1 G.2.1 dX4_busiestBlock_45 (lv_at hl 0 rfl) ?_
              refine lv_iload_n G.1 G.2.1 dX4_busiestBlock_47 rfl (lv_at hl 5 rfl) ?_
              refine lv_icmp_le (tgt := 62) G.1 G.2.1 dX4_busiestBlock_48 (by decide) (fun c48 => ?_) (fun c48 => ?_)
              · replace hf := it c48 hf
                refine lv_iinc (v := (y8 + (1 : Int32))) (lv' := [(4, .int (y8 + (1 : Int32))), (6, .int v13), (5, .int (y8 <<< (y1 &&& 31))), (3, .int y1), (2, .int y9), (1, .int y10), (0, .ref (h 104))]) G.1 G.2.1 dX4_busiestBlock_62 hl (k := 2) rfl (congrArg (y8 + ·) (by decide)) (by decide) rfl (fun ls hl => ?_)
                refine lv_goto (tgt := 14) G.1 G.2.1 dX4_busiestBlock_65 (by decide) ?_
                exact ih14 _ _ _ _ _ _ hf hW (lv_sub hl [0, 3, 4, 5, 6] rfl)
              · replace hf := ie c48 hf
                refine lv_iload G.1 G.2.1 dX4_busiestBlock_51 (lv_at hl 0 rfl) ?_
                refine lv_istore_n (lv' := [(1, .int v13), (6, .int v13), (5, .int (y8 <<< (y1 &&& 31))), (4, .int y8), (3, .int y1), (2, .int y9), (0, .ref (h 104))]) G.1 G.2.1 dX4_busiestBlock_53 rfl hl (by decide) rfl (fun ls hl => ?_)
                refine lv_bipush (v := (100 : Int32)) G.1 G.2.1 dX4_busiestBlock_54 (by decide) ?_
                refine lv_iload_n G.1 G.2.1 dX4_busiestBlock_56 rfl (lv_at hl 4 rfl) ?_
                refine lv_imul G.1 G.2.1 dX4_busiestBlock_57 ?_
                refine lv_iload G.1 G.2.1 dX4_busiestBlock_58 (lv_at hl 2 rfl) ?_
                refine lv_iadd G.1 G.2.1 dX4_busiestBlock_60 ?_
                refine lv_istore_n (lv' := [(2, .int (((100 : Int32) * y1) + (y8 <<< (y1 &&& 31)))), (1, .int v13), (6, .int v13), (5, .int (y8 <<< (y1 &&& 31))), (4, .int y8), (3, .int y1), (0, .ref (h 104))]) G.1 G.2.1 dX4_busiestBlock_61 rfl hl (by decide) rfl (fun ls hl => ?_)
                refine lv_iinc (v := (y8 + (1 : Int32))) (lv' := [(4, .int (y8 + (1 : Int32))), (2, .int (((100 : Int32) * y1) + (y8 <<< (y1 &&& 31)))), (1, .int v13), (6, .int v13), (5, .int (y8 <<< (y1 &&& 31))), (3, .int y1), (0, .ref (h 104))]) G.1 G.2.1 dX4_busiestBlock_62 hl (k := 4) rfl (congrArg (y8 + ·) (by decide)) (by decide) rfl (fun ls hl => ?_)
                refine lv_goto (tgt := 14) G.1 G.2.1 dX4_busiestBlock_65 (by decide) ?_
                exact ih14 _ _ _ _ _ _ hf hW (lv_sub hl [0, 5, 1, 2, 6] rfl)
        exact L14 _ _ _ _ _ _ _ hf hW (lv_sub hl [0, 1, 2, 3, 4] rfl)
  exact L6 _ _ _ _ _ _ _ hf hW (lv_sub hl [0, 1, 2, 3] rfl)

set_option maxHeartbeats 4000000 in
set_option maxRecDepth 100000 in
theorem mX4_eventCount (l : Launch) (D : va_G) (cy : ClassId) (h : Nat → Nat) (kp : Nat) (sz n : Nat) (σ : St) {r : Int32} (hf : fX4_eventCount n σ = some r) : Mi l yX4_eventCount (ws_ yX4_eventCount cX4_eventCount 1 (some .int)) { frames := 0, cells := 0, slots := 0, locals := 0 } D cy (wB cy h kp σ) (wB cy h kp σ) sz [.ref (h 104)] r := by
  refine Met.ofW (cc := cX4_eventCount) (maxL := 1) (ret := (some .int)) (by decide) rfl ?_
  intro p e s m args below meth c s₁ B hml hv
  obtain ⟨rfl, hsz, hP, hK, hD0⟩ := hv
  subst hsz
  have hts := atoms_spec (ws := ws_ yX4_eventCount cX4_eventCount 1 (some .int)) B.pre
  have G : CallFix p m c cX4_eventCount 1 s _ wA RX4 := ⟨B.exec, B.bytes, hml, findClass_of_methodNamed B.named, fun w h => hts w (List.mem_cons_of_mem _ h)⟩
  have hr := B.returns
  have hlk := B.notSynchronized
  have hW : KW D (va_A (wB cy h kp σ) s.heap.size) s.heap (wB cy h kp σ) s.heap [] := ⟨hP, hD0.self, va_S.rf⟩
  have hA : ∀ q, s.heap.size ≤ q → va_A (wB cy h kp σ) s.heap.size q := fun q h => Or.inr h
  have hl := lv_entry ([.ref (h 104)]) (n := 1) (Nat.le_of_ble_eq_true rfl)
  rw [lg_entry_eq]
  generalize (lg_sl ([.ref (h 104)]) ++ List.replicate (1 - (lg_sl ([.ref (h 104)])).length) Slot.unset).toArray = ls at hl ⊢
  have hl : lv_has ls 1 [(0, .ref (h 104))] := hl
  unfold fX4_eventCount at hf
  refine lv_aload_n G.1 G.2.1 dX4_eventCount_0 rfl (lv_at hl 0 rfl) ?_
  refine k_get G inlX4 hK hW 0 rfl rfl 0 (by decide) q_1_17 rfl dX4_eventCount_1 ?_
  refine k_get G inlX0 hK hW 1 rfl rfl 2 (by decide) q_32_23 rfl dX4_eventCount_4 ?_
  refine k_get G inlX1 hK hW 23 rfl rfl 0 (by decide) q_33_0 rfl dX4_eventCount_7 ?_
  cases hf
  exact k_iret G hr hlk hK hW dX4_eventCount_10

set_option maxHeartbeats 4000000 in
set_option maxRecDepth 100000 in
theorem mX4_event (l : Launch) (hT : l.stackTraces = false) (D : va_G) (cy : ClassId) (h : Nat → Nat) (kp : Nat) (sz n : Nat) (σ : St) (x1 : Int32) (x2 : Int32) {o : XRg Int32} (hf : fX4_event n σ x1 x2 = some o) : Xi l yX4_event (ws_ yX4_event cX4_event 3 (some .int)) { frames := 6, cells := 1, slots := 6, locals := 90 } D cy (wB cy h kp) σ sz [.ref (h 104), .int x1, .int x2] o 1 6 := by
  refine vx_ofW (cc := cX4_event) (maxL := 3) (ret := (some .int)) (by decide) rfl ?_
  intro p e s m args below meth c s₁ B hml htab hv
  obtain ⟨rfl, hsz, hP, hK, hD0, hX⟩ := hv
  subst hsz
  have hts := atoms_spec (ws := ws_ yX4_event cX4_event 3 (some .int)) B.pre
  have G : CallFix p m c cX4_event 3 s _ wA RX4 := ⟨B.exec, B.bytes, hml, findClass_of_methodNamed B.named, fun w h => hts w (List.mem_cons_of_mem _ h)⟩
  have hr := B.returns
  have hlk := B.notSynchronized
  have hW : KW D (va_A (wB cy h kp σ) s.heap.size) s.heap (wB cy h kp σ) s.heap [] := ⟨hP, hD0.self, va_S.rf⟩
  have hA : ∀ q, s.heap.size ≤ q → va_A (wB cy h kp σ) s.heap.size q := fun q h => Or.inr h
  have hl := lv_entry ([.ref (h 104), .int x1, .int x2]) (n := 3) (Nat.le_of_ble_eq_true rfl)
  rw [lg_entry_eq]
  generalize (lg_sl ([.ref (h 104), .int x1, .int x2]) ++ List.replicate (3 - (lg_sl ([.ref (h 104), .int x1, .int x2])).length) Slot.unset).toArray = ls at hl ⊢
  have hl : lv_has ls 3 [(0, .ref (h 104)), (1, .int x1), (2, .int x2)] := hl
  unfold fX4_event at hf
  refine lv_iload_n G.1 G.2.1 dX4_event_0 rfl (lv_at hl 1 rfl) ?_
  refine lv_if_lt (tgt := 27) G.1 G.2.1 dX4_event_1 (by decide) (fun c1 => ?_) (fun c1 => ?_)
  · replace hf := it c1 hf
    exact kx_throw (w := wB cy h kp) G hT hX hW htab hlk hl.1 (165, xIO) (List.mem_of_getElem? (i := 2) rfl) (238, "there is no such event or column") (List.mem_of_getElem? (i := 11) rfl) q_14_6 q_14_7 dX4_event_27 dX4_event_30 dX4_event_31 dX4_event_33 dX4_event_36 (Nat.le_of_ble_eq_true rfl) (Nat.le_of_ble_eq_true rfl) (Nat.le_of_ble_eq_true rfl) (Nat.le_of_ble_eq_true rfl) (Option.some.inj hf).symm (Nat.le_of_ble_eq_true rfl) (Nat.le_of_ble_eq_true rfl)
  · replace hf := ie c1 hf
    refine lv_iload_n G.1 G.2.1 dX4_event_4 rfl (lv_at hl 1 rfl) ?_
    refine lv_aload_n G.1 G.2.1 dX4_event_5 rfl (lv_at hl 0 rfl) ?_
    refine k_get G inlX4 hK hW 0 rfl rfl 0 (by decide) q_1_17 rfl dX4_event_6 ?_
    refine k_get G inlX0 hK hW 1 rfl rfl 2 (by decide) q_32_23 rfl dX4_event_9 ?_
    refine k_get G inlX1 hK hW 23 rfl rfl 0 (by decide) q_33_0 rfl dX4_event_12 ?_
    refine lv_icmp_ge (tgt := 27) G.1 G.2.1 dX4_event_15 (by decide) (fun c15 => ?_) (fun c15 => ?_)
    · replace hf := it c15 hf
      exact kx_throw (w := wB cy h kp) G hT hX hW htab hlk hl.1 (165, xIO) (List.mem_of_getElem? (i := 2) rfl) (238, "there is no such event or column") (List.mem_of_getElem? (i := 11) rfl) q_14_6 q_14_7 dX4_event_27 dX4_event_30 dX4_event_31 dX4_event_33 dX4_event_36 (Nat.le_of_ble_eq_true rfl) (Nat.le_of_ble_eq_true rfl) (Nat.le_of_ble_eq_true rfl) (Nat.le_of_ble_eq_true rfl) (Option.some.inj hf).symm (Nat.le_of_ble_eq_true rfl) (Nat.le_of_ble_eq_true rfl)
    · replace hf := ie c15 hf
      refine lv_iload_n G.1 G.2.1 dX4_event_18 rfl (lv_at hl 2 rfl) ?_
      refine lv_if_lt (tgt := 27) G.1 G.2.1 dX4_event_19 (by decide) (fun c19 => ?_) (fun c19 => ?_)
      · replace hf := it c19 hf
        exact kx_throw (w := wB cy h kp) G hT hX hW htab hlk hl.1 (165, xIO) (List.mem_of_getElem? (i := 2) rfl) (238, "there is no such event or column") (List.mem_of_getElem? (i := 11) rfl) q_14_6 q_14_7 dX4_event_27 dX4_event_30 dX4_event_31 dX4_event_33 dX4_event_36 (Nat.le_of_ble_eq_true rfl) (Nat.le_of_ble_eq_true rfl) (Nat.le_of_ble_eq_true rfl) (Nat.le_of_ble_eq_true rfl) (Option.some.inj hf).symm (Nat.le_of_ble_eq_true rfl) (Nat.le_of_ble_eq_true rfl)
      · replace hf := ie c19 hf
        refine lv_iload_n G.1 G.2.1 dX4_event_22 rfl (lv_at hl 2 rfl) ?_
        refine lv_iconst (v := (2 : Int32)) G.1 G.2.1 dX4_event_23 (by decide) ?_
        refine lv_icmp_le (tgt := 37) G.1 G.2.1 dX4_event_24 (by decide) (fun c24 => ?_) (fun c24 => ?_)
        · replace hf := it c24 hf
          refine lv_aload_n G.1 G.2.1 dX4_event_37 rfl (lv_at hl 0 rfl) ?_
          refine k_get G inlX4 hK hW 0 rfl rfl 0 (by decide) q_1_17 rfl dX4_event_38 ?_
          refine k_get G inlX0 hK hW 1 rfl rfl 2 (by decide) q_32_23 rfl dX4_event_41 ?_
          refine lv_iload_n G.1 G.2.1 dX4_event_44 rfl (lv_at hl 1 rfl) ?_
          refine lv_iload_n G.1 G.2.1 dX4_event_45 rfl (lv_at hl 2 rfl) ?_
          obtain ⟨v1, ev1, hf⟩ := ob hf
          refine kc_i (wr := [(h 104, .inr (6, [.ref (h 103), .ref kp, .int (σ 28 0), .int (σ 29 0)]))]) (w := wC cy h σ) (w' := wC cy h σ) (n := 2) (As := [.int x1, .int x2]) (C := RX1) G hK hA hW (mX1_entry l D cy h _ n σ x1 x2 ev1) (gV q_33_12 q_33_13 q_33_14 q_2_10 q_33_15) ⟨rfl, rfl⟩ (by decide +kernel) ⟨Nat.le_of_ble_eq_true rfl, Nat.le_of_ble_eq_true rfl⟩ (va_recv hK.1 hW.1 (ci := 3) (q0 := 23) rfl rfl) rfl hl.1 rfl (Nat.le_of_ble_eq_true rfl) dX4_event_46 ⟨Nat.le_of_ble_eq_true rfl, Nat.le_of_ble_eq_true rfl⟩ (fun H locs hW => ?_)
          exact kx_iret (w := wB cy h kp) G hr hlk hW (Option.some.inj hf).symm (Nat.le_of_ble_eq_true rfl) (Nat.le_of_ble_eq_true rfl) dX4_event_49
        · replace hf := ie c24 hf
          exact kx_throw (w := wB cy h kp) G hT hX hW htab hlk hl.1 (165, xIO) (List.mem_of_getElem? (i := 2) rfl) (238, "there is no such event or column") (List.mem_of_getElem? (i := 11) rfl) q_14_6 q_14_7 dX4_event_27 dX4_event_30 dX4_event_31 dX4_event_33 dX4_event_36 (Nat.le_of_ble_eq_true rfl) (Nat.le_of_ble_eq_true rfl) (Nat.le_of_ble_eq_true rfl) (Nat.le_of_ble_eq_true rfl) (Option.some.inj hf).symm (Nat.le_of_ble_eq_true rfl) (Nat.le_of_ble_eq_true rfl)

set_option maxHeartbeats 4000000 in
set_option maxRecDepth 100000 in
theorem mX4_restore (l : Launch) (hT : l.stackTraces = false) (D : va_G) (cy : ClassId) (h : Nat → Nat) (h2 : Nat → Nat) (sz n : Nat) (σ2 : St) (σ : St) {o : XRg Int32} (hf : fX4_restore n σ2 σ = some o) : Xi l yX4_restore (ws_ yX4_restore cX4_restore 1 (some .int)) { frames := 6, cells := 1, slots := 6, locals := 102 } D cy (wBB cy h h2 σ2) σ sz [.ref (h 104)] o 1 6 := by
  refine vx_ofW (cc := cX4_restore) (maxL := 1) (ret := (some .int)) (by decide) rfl ?_
  intro p e s m args below meth c s₁ B hml htab hv
  obtain ⟨rfl, hsz, hP, hK, hD0, hX⟩ := hv
  subst hsz
  have hts := atoms_spec (ws := ws_ yX4_restore cX4_restore 1 (some .int)) B.pre
  have G : CallFix p m c cX4_restore 1 s _ wA RX4 := ⟨B.exec, B.bytes, hml, findClass_of_methodNamed B.named, fun w h => hts w (List.mem_cons_of_mem _ h)⟩
  have hr := B.returns
  have hlk := B.notSynchronized
  have hW : KW D (va_A (wBB cy h h2 σ2 σ) s.heap.size) s.heap (wBB cy h h2 σ2 σ) s.heap [] := ⟨hP, hD0.self, va_S.rf⟩
  have hA : ∀ q, s.heap.size ≤ q → va_A (wBB cy h h2 σ2 σ) s.heap.size q := fun q h => Or.inr h
  have hl := lv_entry ([.ref (h 104)]) (n := 1) (Nat.le_of_ble_eq_true rfl)
  rw [lg_entry_eq]
  generalize (lg_sl ([.ref (h 104)]) ++ List.replicate (1 - (lg_sl ([.ref (h 104)])).length) Slot.unset).toArray = ls at hl ⊢
  have hl : lv_has ls 1 [(0, .ref (h 104))] := hl
  unfold fX4_restore at hf
  refine lv_aload_n G.1 G.2.1 dX4_restore_0 rfl (lv_at hl 0 rfl) ?_
  refine k_get G inlX4 hK hW 0 rfl rfl 2 (by decide) q_1_19 rfl dX4_restore_1 ?_
  refine lv_if_ne (tgt := 17) G.1 G.2.1 dX4_restore_4 (by decide) (fun c4 => ?_) (fun c4 => ?_)
  · replace hf := ie c4 hf
    refine lv_aload_n G.1 G.2.1 dX4_restore_17 rfl (lv_at hl 0 rfl) ?_
    refine k_get G inlX4 hK hW 0 rfl rfl 0 (by decide) q_1_17 rfl dX4_restore_18 ?_
    refine lv_aload_n G.1 G.2.1 dX4_restore_21 rfl (lv_at hl 0 rfl) ?_
    refine k_get G inlX4 hK hW 0 rfl rfl 1 (by decide) q_1_18 rfl dX4_restore_22 ?_
    obtain ⟨s1, es1, hf⟩ := ob hf
    refine kc_v (wr := [(h 104, .inr (6, [.ref (h 103), .ref (h2 103), .int (σ 28 0), .int (σ 29 0)]))]) (w := wCC cy h h2 σ2 σ) (w' := wCC cy h h2 σ2 s1) (n := 1) (As := [.ref (h2 103)]) (C := RX0) G hK hA hW (mX0_copyFrom l D cy h h2 _ n σ2 σ  es1) (gV q_34_0 q_34_1 q_34_2 q_1_16 q_34_3) ⟨rfl, rfl⟩ (by decide +kernel) ⟨Nat.le_of_ble_eq_true rfl, Nat.le_of_ble_eq_true rfl⟩ (va_recv hK.1 hW.1 (ci := 2) (q0 := 1) rfl rfl) rfl hl.1 rfl (Nat.le_of_ble_eq_true rfl) dX4_restore_25 ⟨Nat.le_of_ble_eq_true rfl, Nat.le_of_ble_eq_true rfl⟩ (fun H locs hW => ?_)
    obtain ⟨s2, es2, hf⟩ := ob hf
    replace hW : KW D (va_A (wBB cy h h2 σ2 σ) s.heap.size) s.heap (wBB cy h h2 σ2 s2) H locs := by cases es2; exact hW
    refine lv_aload_n G.1 G.2.1 dX4_restore_28 rfl (lv_at hl 0 rfl) ?_
    refine k_get G inlX4 hK hW 0 rfl rfl 0 (by decide) q_1_17 rfl dX4_restore_29 ?_
    refine k_get G inlX0 hK hW 1 rfl rfl 4 (by decide) q_10_20 rfl dX4_restore_32 ?_
    exact kx_iret (w := wBB cy h h2 σ2) G hr hlk hW (Option.some.inj hf).symm (Nat.le_of_ble_eq_true rfl) (Nat.le_of_ble_eq_true rfl) dX4_restore_35
  · replace hf := it c4 hf
    exact kx_throw (w := wBB cy h h2 σ2) G hT hX hW htab hlk hl.1 (57, xIS) (List.mem_of_getElem? (i := 1) rfl) (247, "nothing was saved") (List.mem_of_getElem? (i := 12) rfl) q_4_22 q_4_23 dX4_restore_7 dX4_restore_10 dX4_restore_11 dX4_restore_13 dX4_restore_16 (Nat.le_of_ble_eq_true rfl) (Nat.le_of_ble_eq_true rfl) (Nat.le_of_ble_eq_true rfl) (Nat.le_of_ble_eq_true rfl) (Option.some.inj hf).symm (Nat.le_of_ble_eq_true rfl) (Nat.le_of_ble_eq_true rfl)
