set_option maxHeartbeats 4000000 in
set_option maxRecDepth 100000 in
theorem mX5_preempt (l : Launch) (D : va_G) (cy : ClassId) (h : Nat → Nat) (sz n : Nat) (σ : St) (x1 : Int32) (x2 : Int32) {r : Int32} {σ' : St} (hf : fX5_preempt n σ x1 x2 = some (r, σ')) : Mi l yX5_preempt (ws_ yX5_preempt cX5_preempt 5 (some .int)) { frames := 7, cells := 0, slots := 0, locals := 164 } D cy (wM cy h σ) (wM cy h σ') sz [.ref (h 10), .int x1, .int x2] r := by
  refine Met.ofW (cc := cX5_preempt) (maxL := 5) (ret := (some .int)) (by decide) rfl ?_
  intro p e s m args below meth c s₁ B hml hv
  obtain ⟨rfl, hsz, hP, hK, hD0⟩ := hv
  subst hsz
  have hts := atoms_spec (ws := ws_ yX5_preempt cX5_preempt 5 (some .int)) B.pre
  have G : CallFix p m c cX5_preempt 5 s _ wA RX5 := ⟨B.exec, B.bytes, hml, findClass_of_methodNamed B.named, fun w h => hts w (List.mem_cons_of_mem _ h)⟩
  have hr := B.returns
  have hlk := B.notSynchronized
  have hW : KW D (va_A (wM cy h σ) s.heap.size) s.heap (wM cy h σ) s.heap [] := ⟨hP, hD0.self, va_S.rf⟩
  have hA : ∀ q, s.heap.size ≤ q → va_A (wM cy h σ) s.heap.size q := fun q h => Or.inr h
  have hl := lv_entry ([.ref (h 10), .int x1, .int x2]) (n := 5) (Nat.le_of_ble_eq_true rfl)
  rw [lg_entry_eq]
  generalize (lg_sl ([.ref (h 10), .int x1, .int x2]) ++ List.replicate (5 - (lg_sl ([.ref (h 10), .int x1, .int x2])).length) Slot.unset).toArray = ls at hl ⊢
  have hl : lv_has ls 5 [(0, .ref (h 10)), (1, .int x1), (2, .int x2)] := hl
  unfold fX5_preempt at hf
  refine lv_aload_n G.1 G.2.1 dX5_preempt_0 rfl (lv_at hl 0 rfl) ?_
  refine lv_iconst (v := (0 : Int32)) G.1 G.2.1 dX5_preempt_1 (by decide) ?_
  obtain ⟨s1, es1, hf⟩ := ob hf
  refine k_put (w := wM cy h) G inlX5 tyX5 tyX5_ok nmX5 hK hW 0 6 rfl rfl 4 (by decide) q_8_2 rfl (by decide +kernel) (Nat.le_of_ble_eq_true rfl) rfl es1 dX5_preempt_2 (fun H locs hW => ?_)
  refine lv_aload_n G.1 G.2.1 dX5_preempt_5 rfl (lv_at hl 0 rfl) ?_
  refine lv_iload_n G.1 G.2.1 dX5_preempt_6 rfl (lv_at hl 1 rfl) ?_
  obtain ⟨v2, ev2, hf⟩ := ob hf
  refine kc_i (wr := []) (w := wM cy h s1) (w' := wM cy h s1) (n := 1) (As := [.int x1]) (C := RX5) G hK hA hW (mX5_isJob l D cy h _ n s1 x1 ev2) (gV q_14_20 q_14_21 q_14_22 q_1_5 q_14_23) ⟨rfl, rfl⟩ (by decide +kernel) ⟨Nat.le_of_ble_eq_true rfl, Nat.le_of_ble_eq_true rfl⟩ (va_recv hK.1 hW.1 (ci := 7) (q0 := 0) rfl rfl) rfl hl.1 rfl (Nat.le_of_ble_eq_true rfl) dX5_preempt_7 ⟨Nat.le_of_ble_eq_true rfl, Nat.le_of_ble_eq_true rfl⟩ (fun H locs hW => ?_)
  refine lv_if_ne (tgt := 19) G.1 G.2.1 dX5_preempt_10 (by decide) (fun c10 => ?_) (fun c10 => ?_)
  · replace hf := ie c10 hf
    refine lv_iload_n G.1 G.2.1 dX5_preempt_19 rfl (lv_at hl 2 rfl) ?_
    refine lv_iconst (v := (0 : Int32)) G.1 G.2.1 dX5_preempt_20 (by decide) ?_
    refine lv_bipush (v := (9 : Int32)) G.1 G.2.1 dX5_preempt_21 (by decide) ?_
    obtain ⟨v3, ev3, hf⟩ := ob hf
    refine kc_s (n := 3) (As := [.int x2, .int (0 : Int32), .int (9 : Int32)]) G hW (mX5_in l n x2 (0 : Int32) (9 : Int32) ev3) (gS q_8_3 q_8_4 q_1_5 q_8_5) ⟨rfl, rfl⟩ (by decide +kernel) ⟨Nat.le_of_ble_eq_true rfl, Nat.le_of_ble_eq_true rfl⟩ rfl hl.1 rfl (Nat.le_of_ble_eq_true rfl) dX5_preempt_23 ⟨Nat.le_of_ble_eq_true rfl, Nat.le_of_ble_eq_true rfl⟩ (fun H locs hW => ?_)
    refine lv_if_ne (tgt := 35) G.1 G.2.1 dX5_preempt_26 (by decide) (fun c26 => ?_) (fun c26 => ?_)
    · replace hf := ie c26 hf
      refine lv_aload_n G.1 G.2.1 dX5_preempt_35 rfl (lv_at hl 0 rfl) ?_
      refine lv_iload_n G.1 G.2.1 dX5_preempt_36 rfl (lv_at hl 1 rfl) ?_
      refine lv_iconst (v := (4 : Int32)) G.1 G.2.1 dX5_preempt_37 (by decide) ?_
      obtain ⟨v4, ev4, hf⟩ := ob hf
      refine kc_i (wr := []) (w := wM cy h s1) (w' := wM cy h s1) (n := 2) (As := [.int x1, .int (4 : Int32)]) (C := RX5) G hK hA hW (mX5_of l D cy h _ n s1 x1 (4 : Int32) ev4) (gV q_8_22 q_8_23 q_9_0 q_1_5 q_9_1) ⟨rfl, rfl⟩ (by decide +kernel) ⟨Nat.le_of_ble_eq_true rfl, Nat.le_of_ble_eq_true rfl⟩ (va_recv hK.1 hW.1 (ci := 7) (q0 := 0) rfl rfl) rfl hl.1 rfl (Nat.le_of_ble_eq_true rfl) dX5_preempt_38 ⟨Nat.le_of_ble_eq_true rfl, Nat.le_of_ble_eq_true rfl⟩ (fun H locs hW => ?_)
      refine lv_iconst (v := (1 : Int32)) G.1 G.2.1 dX5_preempt_41 (by decide) ?_
      refine lv_icmp_eq (tgt := 51) G.1 G.2.1 dX5_preempt_42 (by decide) (fun c42 => ?_) (fun c42 => ?_)
      · replace hf := it c42 hf
        refine lv_aload_n G.1 G.2.1 dX5_preempt_51 rfl (lv_at hl 0 rfl) ?_
        refine k_get G inlX5 hK hW 0 rfl rfl 0 (by decide) q_4_6 rfl dX5_preempt_52 ?_
        refine lv_iconst (v := (0 : Int32)) G.1 G.2.1 dX5_preempt_55 (by decide) ?_
        obtain ⟨v5, ev5, hf⟩ := ob hf
        refine k_ald G hK hW 1 rfl ev5 dX5_preempt_56 ?_
        refine lv_aload_n G.1 G.2.1 dX5_preempt_57 rfl (lv_at hl 0 rfl) ?_
        refine lv_iload_n G.1 G.2.1 dX5_preempt_58 rfl (lv_at hl 1 rfl) ?_
        refine lv_bipush (v := (6 : Int32)) G.1 G.2.1 dX5_preempt_59 (by decide) ?_
        obtain ⟨v6, ev6, hf⟩ := ob hf
        refine kc_i (wr := []) (w := wM cy h s1) (w' := wM cy h s1) (n := 2) (As := [.int x1, .int (6 : Int32)]) (C := RX5) G hK hA hW (mX5_of l D cy h _ n s1 x1 (6 : Int32) ev6) (gV q_8_22 q_8_23 q_9_0 q_1_5 q_9_1) ⟨rfl, rfl⟩ (by decide +kernel) ⟨Nat.le_of_ble_eq_true rfl, Nat.le_of_ble_eq_true rfl⟩ (va_recv hK.1 hW.1 (ci := 7) (q0 := 0) rfl rfl) rfl hl.1 rfl (Nat.le_of_ble_eq_true rfl) dX5_preempt_61 ⟨Nat.le_of_ble_eq_true rfl, Nat.le_of_ble_eq_true rfl⟩ (fun H locs hW => ?_)
        refine lv_isub G.1 G.2.1 dX5_preempt_64 ?_
        refine lv_istore_n (lv' := [(3, .int (v5 - v6)), (0, .ref (h 10)), (1, .int x1), (2, .int x2)]) G.1 G.2.1 dX5_preempt_65 rfl hl (by decide) rfl (fun ls hl => ?_)
        refine lv_aload_n G.1 G.2.1 dX5_preempt_66 rfl (lv_at hl 1 rfl) ?_
        refine lv_iload_n G.1 G.2.1 dX5_preempt_67 rfl (lv_at hl 2 rfl) ?_
        refine lv_bipush (v := (13 : Int32)) G.1 G.2.1 dX5_preempt_68 (by decide) ?_
        refine lv_aload_n G.1 G.2.1 dX5_preempt_70 rfl (lv_at hl 1 rfl) ?_
        refine lv_iload_n G.1 G.2.1 dX5_preempt_71 rfl (lv_at hl 2 rfl) ?_
        refine lv_bipush (v := (13 : Int32)) G.1 G.2.1 dX5_preempt_72 (by decide) ?_
        obtain ⟨v7, ev7, hf⟩ := ob hf
        refine kc_i (wr := []) (w := wM cy h s1) (w' := wM cy h s1) (n := 2) (As := [.int x1, .int (13 : Int32)]) (C := RX5) G hK hA hW (mX5_of l D cy h _ n s1 x1 (13 : Int32) ev7) (gV q_8_22 q_8_23 q_9_0 q_1_5 q_9_1) ⟨rfl, rfl⟩ (by decide +kernel) ⟨Nat.le_of_ble_eq_true rfl, Nat.le_of_ble_eq_true rfl⟩ (va_recv hK.1 hW.1 (ci := 7) (q0 := 0) rfl rfl) rfl hl.1 rfl (Nat.le_of_ble_eq_true rfl) dX5_preempt_74 ⟨Nat.le_of_ble_eq_true rfl, Nat.le_of_ble_eq_true rfl⟩ (fun H locs hW => ?_)
        refine lv_iload_n G.1 G.2.1 dX5_preempt_77 rfl (lv_at hl 0 rfl) ?_
        refine lv_iadd G.1 G.2.1 dX5_preempt_78 ?_
        obtain ⟨s8, es8, hf⟩ := ob hf
        refine kc_v (wr := []) (w := wM cy h s1) (w' := wM cy h s8) (n := 3) (As := [.int x1, .int (13 : Int32), .int (v7 + (v5 - v6))]) (C := RX5) G hK hA hW (mX5_put l D cy h _ n s1 x1 (13 : Int32) (v7 + (v5 - v6)) es8) (gV q_8_10 q_8_11 q_8_12 q_1_5 q_8_13) ⟨rfl, rfl⟩ (by decide +kernel) ⟨Nat.le_of_ble_eq_true rfl, Nat.le_of_ble_eq_true rfl⟩ (va_recv hK.1 hW.1 (ci := 7) (q0 := 0) rfl rfl) rfl hl.1 rfl (Nat.le_of_ble_eq_true rfl) dX5_preempt_79 ⟨Nat.le_of_ble_eq_true rfl, Nat.le_of_ble_eq_true rfl⟩ (fun H locs hW => ?_)
        refine lv_aload_n G.1 G.2.1 dX5_preempt_82 rfl (lv_at hl 1 rfl) ?_
        refine lv_iload_n G.1 G.2.1 dX5_preempt_83 rfl (lv_at hl 2 rfl) ?_
        refine lv_iconst (v := (2 : Int32)) G.1 G.2.1 dX5_preempt_84 (by decide) ?_
        refine lv_aload_n G.1 G.2.1 dX5_preempt_85 rfl (lv_at hl 1 rfl) ?_
        refine lv_iload_n G.1 G.2.1 dX5_preempt_86 rfl (lv_at hl 2 rfl) ?_
        refine lv_iconst (v := (2 : Int32)) G.1 G.2.1 dX5_preempt_87 (by decide) ?_
        obtain ⟨v9, ev9, hf⟩ := ob hf
        refine kc_i (wr := []) (w := wM cy h s8) (w' := wM cy h s8) (n := 2) (As := [.int x1, .int (2 : Int32)]) (C := RX5) G hK hA hW (mX5_of l D cy h _ n s8 x1 (2 : Int32) ev9) (gV q_8_22 q_8_23 q_9_0 q_1_5 q_9_1) ⟨rfl, rfl⟩ (by decide +kernel) ⟨Nat.le_of_ble_eq_true rfl, Nat.le_of_ble_eq_true rfl⟩ (va_recv hK.1 hW.1 (ci := 7) (q0 := 0) rfl rfl) rfl hl.1 rfl (Nat.le_of_ble_eq_true rfl) dX5_preempt_88 ⟨Nat.le_of_ble_eq_true rfl, Nat.le_of_ble_eq_true rfl⟩ (fun H locs hW => ?_)
        refine lv_iload_n G.1 G.2.1 dX5_preempt_91 rfl (lv_at hl 0 rfl) ?_
        refine lv_isub G.1 G.2.1 dX5_preempt_92 ?_
        refine lv_iload_n G.1 G.2.1 dX5_preempt_93 rfl (lv_at hl 3 rfl) ?_
        refine lv_iadd G.1 G.2.1 dX5_preempt_94 ?_
        obtain ⟨s10, es10, hf⟩ := ob hf
        refine kc_v (wr := []) (w := wM cy h s8) (w' := wM cy h s10) (n := 3) (As := [.int x1, .int (2 : Int32), .int ((v9 - (v5 - v6)) + x2)]) (C := RX5) G hK hA hW (mX5_put l D cy h _ n s8 x1 (2 : Int32) ((v9 - (v5 - v6)) + x2) es10) (gV q_8_10 q_8_11 q_8_12 q_1_5 q_8_13) ⟨rfl, rfl⟩ (by decide +kernel) ⟨Nat.le_of_ble_eq_true rfl, Nat.le_of_ble_eq_true rfl⟩ (va_recv hK.1 hW.1 (ci := 7) (q0 := 0) rfl rfl) rfl hl.1 rfl (Nat.le_of_ble_eq_true rfl) dX5_preempt_95 ⟨Nat.le_of_ble_eq_true rfl, Nat.le_of_ble_eq_true rfl⟩ (fun H locs hW => ?_)
        refine lv_aload_n G.1 G.2.1 dX5_preempt_98 rfl (lv_at hl 1 rfl) ?_
        refine lv_iload_n G.1 G.2.1 dX5_preempt_99 rfl (lv_at hl 2 rfl) ?_
        refine lv_iconst (v := (3 : Int32)) G.1 G.2.1 dX5_preempt_100 (by decide) ?_
        refine lv_aload_n G.1 G.2.1 dX5_preempt_101 rfl (lv_at hl 1 rfl) ?_
        refine lv_iload_n G.1 G.2.1 dX5_preempt_102 rfl (lv_at hl 2 rfl) ?_
        refine lv_iconst (v := (3 : Int32)) G.1 G.2.1 dX5_preempt_103 (by decide) ?_
        obtain ⟨v11, ev11, hf⟩ := ob hf
        refine kc_i (wr := []) (w := wM cy h s10) (w' := wM cy h s10) (n := 2) (As := [.int x1, .int (3 : Int32)]) (C := RX5) G hK hA hW (mX5_of l D cy h _ n s10 x1 (3 : Int32) ev11) (gV q_8_22 q_8_23 q_9_0 q_1_5 q_9_1) ⟨rfl, rfl⟩ (by decide +kernel) ⟨Nat.le_of_ble_eq_true rfl, Nat.le_of_ble_eq_true rfl⟩ (va_recv hK.1 hW.1 (ci := 7) (q0 := 0) rfl rfl) rfl hl.1 rfl (Nat.le_of_ble_eq_true rfl) dX5_preempt_104 ⟨Nat.le_of_ble_eq_true rfl, Nat.le_of_ble_eq_true rfl⟩ (fun H locs hW => ?_)
        refine lv_iload_n G.1 G.2.1 dX5_preempt_107 rfl (lv_at hl 0 rfl) ?_
        refine lv_isub G.1 G.2.1 dX5_preempt_108 ?_
        refine lv_iload_n G.1 G.2.1 dX5_preempt_109 rfl (lv_at hl 3 rfl) ?_
        refine lv_iadd G.1 G.2.1 dX5_preempt_110 ?_
        obtain ⟨s12, es12, hf⟩ := ob hf
        refine kc_v (wr := []) (w := wM cy h s10) (w' := wM cy h s12) (n := 3) (As := [.int x1, .int (3 : Int32), .int ((v11 - (v5 - v6)) + x2)]) (C := RX5) G hK hA hW (mX5_put l D cy h _ n s10 x1 (3 : Int32) ((v11 - (v5 - v6)) + x2) es12) (gV q_8_10 q_8_11 q_8_12 q_1_5 q_8_13) ⟨rfl, rfl⟩ (by decide +kernel) ⟨Nat.le_of_ble_eq_true rfl, Nat.le_of_ble_eq_true rfl⟩ (va_recv hK.1 hW.1 (ci := 7) (q0 := 0) rfl rfl) rfl hl.1 rfl (Nat.le_of_ble_eq_true rfl) dX5_preempt_111 ⟨Nat.le_of_ble_eq_true rfl, Nat.le_of_ble_eq_true rfl⟩ (fun H locs hW => ?_)
        refine lv_aload_n G.1 G.2.1 dX5_preempt_114 rfl (lv_at hl 1 rfl) ?_
        refine lv_iload_n G.1 G.2.1 dX5_preempt_115 rfl (lv_at hl 2 rfl) ?_
        refine lv_bipush (v := (11 : Int32)) G.1 G.2.1 dX5_preempt_116 (by decide) ?_
        refine lv_aload_n G.1 G.2.1 dX5_preempt_118 rfl (lv_at hl 1 rfl) ?_
        refine lv_iload_n G.1 G.2.1 dX5_preempt_119 rfl (lv_at hl 2 rfl) ?_
        refine lv_bipush (v := (11 : Int32)) G.1 G.2.1 dX5_preempt_120 (by decide) ?_
        obtain ⟨v13, ev13, hf⟩ := ob hf
        refine kc_i (wr := []) (w := wM cy h s12) (w' := wM cy h s12) (n := 2) (As := [.int x1, .int (11 : Int32)]) (C := RX5) G hK hA hW (mX5_of l D cy h _ n s12 x1 (11 : Int32) ev13) (gV q_8_22 q_8_23 q_9_0 q_1_5 q_9_1) ⟨rfl, rfl⟩ (by decide +kernel) ⟨Nat.le_of_ble_eq_true rfl, Nat.le_of_ble_eq_true rfl⟩ (va_recv hK.1 hW.1 (ci := 7) (q0 := 0) rfl rfl) rfl hl.1 rfl (Nat.le_of_ble_eq_true rfl) dX5_preempt_122 ⟨Nat.le_of_ble_eq_true rfl, Nat.le_of_ble_eq_true rfl⟩ (fun H locs hW => ?_)
        refine lv_iconst (v := (1 : Int32)) G.1 G.2.1 dX5_preempt_125 (by decide) ?_
        refine lv_iadd G.1 G.2.1 dX5_preempt_126 ?_
        obtain ⟨s14, es14, hf⟩ := ob hf
        refine kc_v (wr := []) (w := wM cy h s12) (w' := wM cy h s14) (n := 3) (As := [.int x1, .int (11 : Int32), .int (v13 + (1 : Int32))]) (C := RX5) G hK hA hW (mX5_put l D cy h _ n s12 x1 (11 : Int32) (v13 + (1 : Int32)) es14) (gV q_8_10 q_8_11 q_8_12 q_1_5 q_8_13) ⟨rfl, rfl⟩ (by decide +kernel) ⟨Nat.le_of_ble_eq_true rfl, Nat.le_of_ble_eq_true rfl⟩ (va_recv hK.1 hW.1 (ci := 7) (q0 := 0) rfl rfl) rfl hl.1 rfl (Nat.le_of_ble_eq_true rfl) dX5_preempt_127 ⟨Nat.le_of_ble_eq_true rfl, Nat.le_of_ble_eq_true rfl⟩ (fun H locs hW => ?_)
        refine lv_aload_n G.1 G.2.1 dX5_preempt_130 rfl (lv_at hl 1 rfl) ?_
        refine lv_iload_n G.1 G.2.1 dX5_preempt_131 rfl (lv_at hl 2 rfl) ?_
        refine lv_iconst (v := (4 : Int32)) G.1 G.2.1 dX5_preempt_132 (by decide) ?_
        refine lv_iconst (v := (4 : Int32)) G.1 G.2.1 dX5_preempt_133 (by decide) ?_
        obtain ⟨s15, es15, hf⟩ := ob hf
        refine kc_v (wr := []) (w := wM cy h s14) (w' := wM cy h s15) (n := 3) (As := [.int x1, .int (4 : Int32), .int (4 : Int32)]) (C := RX5) G hK hA hW (mX5_put l D cy h _ n s14 x1 (4 : Int32) (4 : Int32) es15) (gV q_8_10 q_8_11 q_8_12 q_1_5 q_8_13) ⟨rfl, rfl⟩ (by decide +kernel) ⟨Nat.le_of_ble_eq_true rfl, Nat.le_of_ble_eq_true rfl⟩ (va_recv hK.1 hW.1 (ci := 7) (q0 := 0) rfl rfl) rfl hl.1 rfl (Nat.le_of_ble_eq_true rfl) dX5_preempt_134 ⟨Nat.le_of_ble_eq_true rfl, Nat.le_of_ble_eq_true rfl⟩ (fun H locs hW => ?_)
        refine lv_aload_n G.1 G.2.1 dX5_preempt_137 rfl (lv_at hl 1 rfl) ?_
        refine lv_iconst (v := (4 : Int32)) G.1 G.2.1 dX5_preempt_138 (by decide) ?_
        refine lv_iload_n G.1 G.2.1 dX5_preempt_139 rfl (lv_at hl 2 rfl) ?_
        obtain ⟨s16, es16, hf⟩ := ob hf
        refine kc_v (wr := []) (w := wM cy h s15) (w' := wM cy h s16) (n := 2) (As := [.int (4 : Int32), .int x1]) (C := RX5) G hK hA hW (mX5_records l D cy h _ n s15 (4 : Int32) x1 es16) (gV q_8_14 q_8_15 q_8_16 q_1_5 q_8_17) ⟨rfl, rfl⟩ (by decide +kernel) ⟨Nat.le_of_ble_eq_true rfl, Nat.le_of_ble_eq_true rfl⟩ (va_recv hK.1 hW.1 (ci := 7) (q0 := 0) rfl rfl) rfl hl.1 rfl (Nat.le_of_ble_eq_true rfl) dX5_preempt_140 ⟨Nat.le_of_ble_eq_true rfl, Nat.le_of_ble_eq_true rfl⟩ (fun H locs hW => ?_)
        refine lv_aload_n G.1 G.2.1 dX5_preempt_143 rfl (lv_at hl 1 rfl) ?_
        obtain ⟨s17, es17, hf⟩ := ob hf
        refine kc_v (wr := []) (w := wM cy h s16) (w' := wM cy h s17) (n := 0) (As := []) (C := RX5) G hK hA hW (mX5_replans l D cy h _ n s16  es17) (gV q_13_1 q_13_2 q_13_3 q_1_5 q_13_4) ⟨rfl, rfl⟩ (by decide +kernel) ⟨Nat.le_of_ble_eq_true rfl, Nat.le_of_ble_eq_true rfl⟩ (va_recv hK.1 hW.1 (ci := 7) (q0 := 0) rfl rfl) rfl hl.1 rfl (Nat.le_of_ble_eq_true rfl) dX5_preempt_144 ⟨Nat.le_of_ble_eq_true rfl, Nat.le_of_ble_eq_true rfl⟩ (fun H locs hW => ?_)
        refine lv_aload_n G.1 G.2.1 dX5_preempt_147 rfl (lv_at hl 1 rfl) ?_
        refine lv_iload_n G.1 G.2.1 dX5_preempt_148 rfl (lv_at hl 2 rfl) ?_
        obtain ⟨s18, es18, hf⟩ := ob hf
        refine kc_v (wr := []) (w := wM cy h s17) (w' := wM cy h s18) (n := 1) (As := [.int x1]) (C := RX5) G hK hA hW (mX5_plans l D cy h _ n s17 x1 es18) (gV q_8_18 q_8_19 q_8_20 q_1_5 q_8_21) ⟨rfl, rfl⟩ (by decide +kernel) ⟨Nat.le_of_ble_eq_true rfl, Nat.le_of_ble_eq_true rfl⟩ (va_recv hK.1 hW.1 (ci := 7) (q0 := 0) rfl rfl) rfl hl.1 rfl (Nat.le_of_ble_eq_true rfl) dX5_preempt_149 ⟨Nat.le_of_ble_eq_true rfl, Nat.le_of_ble_eq_true rfl⟩ (fun H locs hW => ?_)
        refine lv_aload_n G.1 G.2.1 dX5_preempt_152 rfl (lv_at hl 1 rfl) ?_
        refine lv_iload_n G.1 G.2.1 dX5_preempt_153 rfl (lv_at hl 2 rfl) ?_
        refine lv_bipush (v := (6 : Int32)) G.1 G.2.1 dX5_preempt_154 (by decide) ?_
        obtain ⟨v19, ev19, hf⟩ := ob hf
        refine kc_i (wr := []) (w := wM cy h s18) (w' := wM cy h s18) (n := 2) (As := [.int x1, .int (6 : Int32)]) (C := RX5) G hK hA hW (mX5_of l D cy h _ n s18 x1 (6 : Int32) ev19) (gV q_8_22 q_8_23 q_9_0 q_1_5 q_9_1) ⟨rfl, rfl⟩ (by decide +kernel) ⟨Nat.le_of_ble_eq_true rfl, Nat.le_of_ble_eq_true rfl⟩ (va_recv hK.1 hW.1 (ci := 7) (q0 := 0) rfl rfl) rfl hl.1 rfl (Nat.le_of_ble_eq_true rfl) dX5_preempt_156 ⟨Nat.le_of_ble_eq_true rfl, Nat.le_of_ble_eq_true rfl⟩ (fun H locs hW => ?_)
        refine lv_istore (lv' := [(4, .int v19), (3, .int (v5 - v6)), (0, .ref (h 10)), (1, .int x1), (2, .int x2)]) G.1 G.2.1 dX5_preempt_159 hl (by decide) rfl (fun ls hl => ?_)
        refine lv_aload_n G.1 G.2.1 dX5_preempt_161 rfl (lv_at hl 2 rfl) ?_
        obtain ⟨s20, es20, hf⟩ := ob hf
        refine kc_v (wr := []) (w := wM cy h s18) (w' := wM cy h s20) (n := 0) (As := []) (C := RX5) G hK hA hW (mX5_starts l D cy h _ n s18  es20) (gV q_10_2 q_10_3 q_10_4 q_1_5 q_10_5) ⟨rfl, rfl⟩ (by decide +kernel) ⟨Nat.le_of_ble_eq_true rfl, Nat.le_of_ble_eq_true rfl⟩ (va_recv hK.1 hW.1 (ci := 7) (q0 := 0) rfl rfl) rfl hl.1 rfl (Nat.le_of_ble_eq_true rfl) dX5_preempt_162 ⟨Nat.le_of_ble_eq_true rfl, Nat.le_of_ble_eq_true rfl⟩ (fun H locs hW => ?_)
        refine lv_iload G.1 G.2.1 dX5_preempt_165 (lv_at hl 0 rfl) ?_
        cases hf
        exact k_iret G hr hlk hK hW dX5_preempt_167
      · replace hf := ie c42 hf
        refine lv_aload_n G.1 G.2.1 dX5_preempt_45 rfl (lv_at hl 0 rfl) ?_
        refine lv_iconst (v := (3 : Int32)) G.1 G.2.1 dX5_preempt_46 (by decide) ?_
        obtain ⟨v21, s22, ev21, hf⟩ := ob2 hf
        refine kc_i (wr := []) (w := wM cy h s1) (w' := wM cy h s22) (n := 1) (As := [.int (3 : Int32)]) (C := RX5) G hK hA hW (mX5_raises l D cy h _ n s1 (3 : Int32) ev21) (gV q_8_6 q_8_7 q_8_8 q_1_5 q_8_9) ⟨rfl, rfl⟩ (by decide +kernel) ⟨Nat.le_of_ble_eq_true rfl, Nat.le_of_ble_eq_true rfl⟩ (va_recv hK.1 hW.1 (ci := 7) (q0 := 0) rfl rfl) rfl hl.1 rfl (Nat.le_of_ble_eq_true rfl) dX5_preempt_47 ⟨Nat.le_of_ble_eq_true rfl, Nat.le_of_ble_eq_true rfl⟩ (fun H locs hW => ?_)
        cases hf
        exact k_iret G hr hlk hK hW dX5_preempt_50
    · replace hf := it c26 hf
      refine lv_aload_n G.1 G.2.1 dX5_preempt_29 rfl (lv_at hl 0 rfl) ?_
      refine lv_iconst (v := (2 : Int32)) G.1 G.2.1 dX5_preempt_30 (by decide) ?_
      obtain ⟨v23, s24, ev23, hf⟩ := ob2 hf
      refine kc_i (wr := []) (w := wM cy h s1) (w' := wM cy h s24) (n := 1) (As := [.int (2 : Int32)]) (C := RX5) G hK hA hW (mX5_raises l D cy h _ n s1 (2 : Int32) ev23) (gV q_8_6 q_8_7 q_8_8 q_1_5 q_8_9) ⟨rfl, rfl⟩ (by decide +kernel) ⟨Nat.le_of_ble_eq_true rfl, Nat.le_of_ble_eq_true rfl⟩ (va_recv hK.1 hW.1 (ci := 7) (q0 := 0) rfl rfl) rfl hl.1 rfl (Nat.le_of_ble_eq_true rfl) dX5_preempt_31 ⟨Nat.le_of_ble_eq_true rfl, Nat.le_of_ble_eq_true rfl⟩ (fun H locs hW => ?_)
      cases hf
      exact k_iret G hr hlk hK hW dX5_preempt_34
  · replace hf := it c10 hf
    refine lv_aload_n G.1 G.2.1 dX5_preempt_13 rfl (lv_at hl 0 rfl) ?_
    refine lv_iconst (v := (1 : Int32)) G.1 G.2.1 dX5_preempt_14 (by decide) ?_
    obtain ⟨v25, s26, ev25, hf⟩ := ob2 hf
    refine kc_i (wr := []) (w := wM cy h s1) (w' := wM cy h s26) (n := 1) (As := [.int (1 : Int32)]) (C := RX5) G hK hA hW (mX5_raises l D cy h _ n s1 (1 : Int32) ev25) (gV q_8_6 q_8_7 q_8_8 q_1_5 q_8_9) ⟨rfl, rfl⟩ (by decide +kernel) ⟨Nat.le_of_ble_eq_true rfl, Nat.le_of_ble_eq_true rfl⟩ (va_recv hK.1 hW.1 (ci := 7) (q0 := 0) rfl rfl) rfl hl.1 rfl (Nat.le_of_ble_eq_true rfl) dX5_preempt_15 ⟨Nat.le_of_ble_eq_true rfl, Nat.le_of_ble_eq_true rfl⟩ (fun H locs hW => ?_)
    cases hf
    exact k_iret G hr hlk hK hW dX5_preempt_18

set_option maxHeartbeats 4000000 in
set_option maxRecDepth 100000 in
theorem mX5_refuses (l : Launch) (D : va_G) (cy : ClassId) (h : Nat → Nat) (sz n : Nat) (σ : St) (x1 : Int32) {r : Int32} {σ' : St} (hf : fX5_refuses n σ x1 = some (r, σ')) : Mi l yX5_refuses (ws_ yX5_refuses cX5_refuses 2 (some .int)) { frames := 1, cells := 0, slots := 0, locals := 21 } D cy (wM cy h σ) (wM cy h σ') sz [.ref (h 10), .int x1] r := by
  refine Met.ofW (cc := cX5_refuses) (maxL := 2) (ret := (some .int)) (by decide) rfl ?_
  intro p e s m args below meth c s₁ B hml hv
  obtain ⟨rfl, hsz, hP, hK, hD0⟩ := hv
  subst hsz
  have hts := atoms_spec (ws := ws_ yX5_refuses cX5_refuses 2 (some .int)) B.pre
  have G : CallFix p m c cX5_refuses 2 s _ wA RX5 := ⟨B.exec, B.bytes, hml, findClass_of_methodNamed B.named, fun w h => hts w (List.mem_cons_of_mem _ h)⟩
  have hr := B.returns
  have hlk := B.notSynchronized
  have hW : KW D (va_A (wM cy h σ) s.heap.size) s.heap (wM cy h σ) s.heap [] := ⟨hP, hD0.self, va_S.rf⟩
  have hA : ∀ q, s.heap.size ≤ q → va_A (wM cy h σ) s.heap.size q := fun q h => Or.inr h
  have hl := lv_entry ([.ref (h 10), .int x1]) (n := 2) (Nat.le_of_ble_eq_true rfl)
  rw [lg_entry_eq]
  generalize (lg_sl ([.ref (h 10), .int x1]) ++ List.replicate (2 - (lg_sl ([.ref (h 10), .int x1])).length) Slot.unset).toArray = ls at hl ⊢
  have hl : lv_has ls 2 [(0, .ref (h 10)), (1, .int x1)] := hl
  unfold fX5_refuses at hf
  refine lv_aload_n G.1 G.2.1 dX5_refuses_0 rfl (lv_at hl 0 rfl) ?_
  refine lv_iload_n G.1 G.2.1 dX5_refuses_1 rfl (lv_at hl 1 rfl) ?_
  obtain ⟨s1, es1, hf⟩ := ob hf
  refine k_put (w := wM cy h) G inlX5 tyX5 tyX5_ok nmX5 hK hW 0 5 rfl rfl 3 (by decide) q_16_17 rfl (by decide +kernel) (Nat.le_of_ble_eq_true rfl) rfl es1 dX5_refuses_2 (fun H locs hW => ?_)
  refine lv_aload_n G.1 G.2.1 dX5_refuses_5 rfl (lv_at hl 0 rfl) ?_
  refine lv_iconst (v := (2 : Int32)) G.1 G.2.1 dX5_refuses_6 (by decide) ?_
  obtain ⟨v2, s3, ev2, hf⟩ := ob2 hf
  refine kc_i (wr := []) (w := wM cy h s1) (w' := wM cy h s3) (n := 1) (As := [.int (2 : Int32)]) (C := RX5) G hK hA hW (mX5_raises l D cy h _ n s1 (2 : Int32) ev2) (gV q_8_6 q_8_7 q_8_8 q_1_5 q_8_9) ⟨rfl, rfl⟩ (by decide +kernel) ⟨Nat.le_of_ble_eq_true rfl, Nat.le_of_ble_eq_true rfl⟩ (va_recv hK.1 hW.1 (ci := 7) (q0 := 0) rfl rfl) rfl hl.1 rfl (Nat.le_of_ble_eq_true rfl) dX5_refuses_7 ⟨Nat.le_of_ble_eq_true rfl, Nat.le_of_ble_eq_true rfl⟩ (fun H locs hW => ?_)
  cases hf
  exact k_iret G hr hlk hK hW dX5_refuses_10

set_option maxHeartbeats 4000000 in
set_option maxRecDepth 100000 in
theorem mX5_reserve (l : Launch) (D : va_G) (cy : ClassId) (h : Nat → Nat) (sz n : Nat) (σ : St) (x1 : Int32) (x2 : Int32) (x3 : Int32) {r : Int32} {σ' : St} (hf : fX5_reserve n σ x1 x2 x3 = some (r, σ')) : Mi l yX5_reserve (ws_ yX5_reserve cX5_reserve 6 (some .int)) { frames := 4, cells := 0, slots := 0, locals := 92 } D cy (wM cy h σ) (wM cy h σ') sz [.ref (h 10), .int x1, .int x2, .int x3] r := by
  refine Met.ofW (cc := cX5_reserve) (maxL := 6) (ret := (some .int)) (by decide) rfl ?_
  intro p e s m args below meth c s₁ B hml hv
  obtain ⟨rfl, hsz, hP, hK, hD0⟩ := hv
  subst hsz
  have hts := atoms_spec (ws := ws_ yX5_reserve cX5_reserve 6 (some .int)) B.pre
  have G : CallFix p m c cX5_reserve 6 s _ wA RX5 := ⟨B.exec, B.bytes, hml, findClass_of_methodNamed B.named, fun w h => hts w (List.mem_cons_of_mem _ h)⟩
  have hr := B.returns
  have hlk := B.notSynchronized
  have hW : KW D (va_A (wM cy h σ) s.heap.size) s.heap (wM cy h σ) s.heap [] := ⟨hP, hD0.self, va_S.rf⟩
  have hA : ∀ q, s.heap.size ≤ q → va_A (wM cy h σ) s.heap.size q := fun q h => Or.inr h
  have hl := lv_entry ([.ref (h 10), .int x1, .int x2, .int x3]) (n := 6) (Nat.le_of_ble_eq_true rfl)
  rw [lg_entry_eq]
  generalize (lg_sl ([.ref (h 10), .int x1, .int x2, .int x3]) ++ List.replicate (6 - (lg_sl ([.ref (h 10), .int x1, .int x2, .int x3])).length) Slot.unset).toArray = ls at hl ⊢
  have hl : lv_has ls 6 [(0, .ref (h 10)), (1, .int x1), (2, .int x2), (3, .int x3)] := hl
  unfold fX5_reserve at hf
  refine lv_aload_n G.1 G.2.1 dX5_reserve_0 rfl (lv_at hl 0 rfl) ?_
  refine lv_iconst (v := (0 : Int32)) G.1 G.2.1 dX5_reserve_1 (by decide) ?_
  obtain ⟨s1, es1, hf⟩ := ob hf
  refine k_put (w := wM cy h) G inlX5 tyX5 tyX5_ok nmX5 hK hW 0 6 rfl rfl 4 (by decide) q_8_2 rfl (by decide +kernel) (Nat.le_of_ble_eq_true rfl) rfl es1 dX5_reserve_2 (fun H locs hW => ?_)
  refine lv_iload_n G.1 G.2.1 dX5_reserve_5 rfl (lv_at hl 1 rfl) ?_
  refine lv_iconst (v := (0 : Int32)) G.1 G.2.1 dX5_reserve_6 (by decide) ?_
  refine lv_iconst (v := (5 : Int32)) G.1 G.2.1 dX5_reserve_7 (by decide) ?_
  obtain ⟨v2, ev2, hf⟩ := ob hf
  refine kc_s (n := 3) (As := [.int x1, .int (0 : Int32), .int (5 : Int32)]) G hW (mX5_in l n x1 (0 : Int32) (5 : Int32) ev2) (gS q_8_3 q_8_4 q_1_5 q_8_5) ⟨rfl, rfl⟩ (by decide +kernel) ⟨Nat.le_of_ble_eq_true rfl, Nat.le_of_ble_eq_true rfl⟩ rfl hl.1 rfl (Nat.le_of_ble_eq_true rfl) dX5_reserve_8 ⟨Nat.le_of_ble_eq_true rfl, Nat.le_of_ble_eq_true rfl⟩ (fun H locs hW => ?_)
  refine lv_if_eq (tgt := 35) G.1 G.2.1 dX5_reserve_11 (by decide) (fun c11 => ?_) (fun c11 => ?_)
  · replace hf := it c11 hf
    refine lv_aload_n G.1 G.2.1 dX5_reserve_35 rfl (lv_at hl 0 rfl) ?_
    refine lv_iconst (v := (1 : Int32)) G.1 G.2.1 dX5_reserve_36 (by decide) ?_
    obtain ⟨v3, s4, ev3, hf⟩ := ob2 hf
    refine kc_i (wr := []) (w := wM cy h s1) (w' := wM cy h s4) (n := 1) (As := [.int (1 : Int32)]) (C := RX5) G hK hA hW (mX5_raises l D cy h _ n s1 (1 : Int32) ev3) (gV q_8_6 q_8_7 q_8_8 q_1_5 q_8_9) ⟨rfl, rfl⟩ (by decide +kernel) ⟨Nat.le_of_ble_eq_true rfl, Nat.le_of_ble_eq_true rfl⟩ (va_recv hK.1 hW.1 (ci := 7) (q0 := 0) rfl rfl) rfl hl.1 rfl (Nat.le_of_ble_eq_true rfl) dX5_reserve_37 ⟨Nat.le_of_ble_eq_true rfl, Nat.le_of_ble_eq_true rfl⟩ (fun H locs hW => ?_)
    cases hf
    exact k_iret G hr hlk hK hW dX5_reserve_40
  · replace hf := ie c11 hf
    refine lv_iload_n G.1 G.2.1 dX5_reserve_14 rfl (lv_at hl 2 rfl) ?_
    refine lv_iconst (v := (0 : Int32)) G.1 G.2.1 dX5_reserve_15 (by decide) ?_
    refine lv_sipush (v := (1000 : Int32)) G.1 G.2.1 dX5_reserve_16 (by decide) ?_
    obtain ⟨v5, ev5, hf⟩ := ob hf
    refine kc_s (n := 3) (As := [.int x2, .int (0 : Int32), .int (1000 : Int32)]) G hW (mX5_in l n x2 (0 : Int32) (1000 : Int32) ev5) (gS q_8_3 q_8_4 q_1_5 q_8_5) ⟨rfl, rfl⟩ (by decide +kernel) ⟨Nat.le_of_ble_eq_true rfl, Nat.le_of_ble_eq_true rfl⟩ rfl hl.1 rfl (Nat.le_of_ble_eq_true rfl) dX5_reserve_19 ⟨Nat.le_of_ble_eq_true rfl, Nat.le_of_ble_eq_true rfl⟩ (fun H locs hW => ?_)
    refine lv_if_eq (tgt := 35) G.1 G.2.1 dX5_reserve_22 (by decide) (fun c22 => ?_) (fun c22 => ?_)
    · replace hf := it c22 hf
      refine lv_aload_n G.1 G.2.1 dX5_reserve_35 rfl (lv_at hl 0 rfl) ?_
      refine lv_iconst (v := (1 : Int32)) G.1 G.2.1 dX5_reserve_36 (by decide) ?_
      obtain ⟨v6, s7, ev6, hf⟩ := ob2 hf
      refine kc_i (wr := []) (w := wM cy h s1) (w' := wM cy h s7) (n := 1) (As := [.int (1 : Int32)]) (C := RX5) G hK hA hW (mX5_raises l D cy h _ n s1 (1 : Int32) ev6) (gV q_8_6 q_8_7 q_8_8 q_1_5 q_8_9) ⟨rfl, rfl⟩ (by decide +kernel) ⟨Nat.le_of_ble_eq_true rfl, Nat.le_of_ble_eq_true rfl⟩ (va_recv hK.1 hW.1 (ci := 7) (q0 := 0) rfl rfl) rfl hl.1 rfl (Nat.le_of_ble_eq_true rfl) dX5_reserve_37 ⟨Nat.le_of_ble_eq_true rfl, Nat.le_of_ble_eq_true rfl⟩ (fun H locs hW => ?_)
      cases hf
      exact k_iret G hr hlk hK hW dX5_reserve_40
    · replace hf := ie c22 hf
      refine lv_iload_n G.1 G.2.1 dX5_reserve_25 rfl (lv_at hl 3 rfl) ?_
      refine lv_iconst (v := (1 : Int32)) G.1 G.2.1 dX5_reserve_26 (by decide) ?_
      refine lv_bipush (v := (40 : Int32)) G.1 G.2.1 dX5_reserve_27 (by decide) ?_
      obtain ⟨v8, ev8, hf⟩ := ob hf
      refine kc_s (n := 3) (As := [.int x3, .int (1 : Int32), .int (40 : Int32)]) G hW (mX5_in l n x3 (1 : Int32) (40 : Int32) ev8) (gS q_8_3 q_8_4 q_1_5 q_8_5) ⟨rfl, rfl⟩ (by decide +kernel) ⟨Nat.le_of_ble_eq_true rfl, Nat.le_of_ble_eq_true rfl⟩ rfl hl.1 rfl (Nat.le_of_ble_eq_true rfl) dX5_reserve_29 ⟨Nat.le_of_ble_eq_true rfl, Nat.le_of_ble_eq_true rfl⟩ (fun H locs hW => ?_)
      refine lv_if_ne (tgt := 41) G.1 G.2.1 dX5_reserve_32 (by decide) (fun c32 => ?_) (fun c32 => ?_)
      · replace hf := ie c32 hf
        refine lv_iload_n G.1 G.2.1 dX5_reserve_41 rfl (lv_at hl 2 rfl) ?_
        refine lv_aload_n G.1 G.2.1 dX5_reserve_42 rfl (lv_at hl 0 rfl) ?_
        refine k_get G inlX5 hK hW 0 rfl rfl 0 (by decide) q_4_6 rfl dX5_reserve_43 ?_
        refine lv_iconst (v := (0 : Int32)) G.1 G.2.1 dX5_reserve_46 (by decide) ?_
        obtain ⟨v9, ev9, hf⟩ := ob hf
        refine k_ald G hK hW 1 rfl ev9 dX5_reserve_47 ?_
        refine lv_icmp_ge (tgt := 57) G.1 G.2.1 dX5_reserve_48 (by decide) (fun c48 => ?_) (fun c48 => ?_)
        · replace hf := it c48 hf
          refine lv_aload_n G.1 G.2.1 dX5_reserve_57 rfl (lv_at hl 0 rfl) ?_
          refine k_get G inlX5 hK hW 0 rfl rfl 0 (by decide) q_4_6 rfl dX5_reserve_58 ?_
          refine lv_iconst (v := (2 : Int32)) G.1 G.2.1 dX5_reserve_61 (by decide) ?_
          obtain ⟨v10, ev10, hf⟩ := ob hf
          refine k_ald G hK hW 1 rfl ev10 dX5_reserve_62 ?_
          refine lv_bipush (v := (6 : Int32)) G.1 G.2.1 dX5_reserve_63 (by decide) ?_
          refine lv_icmp_ne (tgt := 74) G.1 G.2.1 dX5_reserve_65 (by decide) (fun c65 => ?_) (fun c65 => ?_)
          · replace hf := ie c65 hf
            refine lv_aload_n G.1 G.2.1 dX5_reserve_74 rfl (lv_at hl 0 rfl) ?_
            refine lv_iload_n G.1 G.2.1 dX5_reserve_75 rfl (lv_at hl 1 rfl) ?_
            refine lv_iload_n G.1 G.2.1 dX5_reserve_76 rfl (lv_at hl 2 rfl) ?_
            refine lv_iload_n G.1 G.2.1 dX5_reserve_77 rfl (lv_at hl 3 rfl) ?_
            obtain ⟨v11, ev11, hf⟩ := ob hf
            refine kc_i (wr := []) (w := wM cy h s1) (w' := wM cy h s1) (n := 3) (As := [.int x1, .int x2, .int x3]) (C := RX5) G hK hA hW (mX5_lowest l D cy h _ n s1 x1 x2 x3 ev11) (gV q_9_15 q_9_16 q_9_17 q_1_5 q_9_18) ⟨rfl, rfl⟩ (by decide +kernel) ⟨Nat.le_of_ble_eq_true rfl, Nat.le_of_ble_eq_true rfl⟩ (va_recv hK.1 hW.1 (ci := 7) (q0 := 0) rfl rfl) rfl hl.1 rfl (Nat.le_of_ble_eq_true rfl) dX5_reserve_78 ⟨Nat.le_of_ble_eq_true rfl, Nat.le_of_ble_eq_true rfl⟩ (fun H locs hW => ?_)
            refine lv_istore (lv' := [(4, .int v11), (0, .ref (h 10)), (1, .int x1), (2, .int x2), (3, .int x3)]) G.1 G.2.1 dX5_reserve_81 hl (by decide) rfl (fun ls hl => ?_)
            refine lv_iload G.1 G.2.1 dX5_reserve_83 (lv_at hl 0 rfl) ?_
            refine lv_if_ge (tgt := 94) G.1 G.2.1 dX5_reserve_85 (by decide) (fun c85 => ?_) (fun c85 => ?_)
            · replace hf := it c85 hf
              refine lv_aload_n G.1 G.2.1 dX5_reserve_94 rfl (lv_at hl 1 rfl) ?_
              refine lv_iconst (v := (0 : Int32)) G.1 G.2.1 dX5_reserve_95 (by decide) ?_
              obtain ⟨s12, es12, hf⟩ := ob hf
              refine k_put (w := wM cy h) G inlX5 tyX5 tyX5_ok nmX5 hK hW 0 5 rfl rfl 3 (by decide) q_16_17 rfl (by decide +kernel) (Nat.le_of_ble_eq_true rfl) rfl es12 dX5_reserve_96 (fun H locs hW => ?_)
              refine lv_sipush (v := (341 : Int32)) G.1 G.2.1 dX5_reserve_99 (by decide) ?_
              refine lv_iconst (v := (4 : Int32)) G.1 G.2.1 dX5_reserve_102 (by decide) ?_
              refine lv_aload_n G.1 G.2.1 dX5_reserve_103 rfl (lv_at hl 1 rfl) ?_
              refine k_get G inlX5 hK hW 0 rfl rfl 0 (by decide) q_4_6 rfl dX5_reserve_104 ?_
              refine lv_iconst (v := (2 : Int32)) G.1 G.2.1 dX5_reserve_107 (by decide) ?_
              obtain ⟨v13, ev13, hf⟩ := ob hf
              refine k_ald G hK hW 1 rfl ev13 dX5_reserve_108 ?_
              refine lv_imul G.1 G.2.1 dX5_reserve_109 ?_
              refine lv_iadd G.1 G.2.1 dX5_reserve_110 ?_
              refine lv_istore (lv' := [(5, .int ((341 : Int32) + ((4 : Int32) * v13))), (4, .int v11), (0, .ref (h 10)), (1, .int x1), (2, .int x2), (3, .int x3)]) G.1 G.2.1 dX5_reserve_111 hl (by decide) rfl (fun ls hl => ?_)
              refine lv_aload_n G.1 G.2.1 dX5_reserve_113 rfl (lv_at hl 2 rfl) ?_
              refine k_get G inlX5 hK hW 0 rfl rfl 0 (by decide) q_4_6 rfl dX5_reserve_114 ?_
              refine lv_iload G.1 G.2.1 dX5_reserve_117 (lv_at hl 0 rfl) ?_
              refine lv_iload_n G.1 G.2.1 dX5_reserve_119 rfl (lv_at hl 3 rfl) ?_
              obtain ⟨s14, es14, hf⟩ := ob hf
              refine k_ast (w := wM cy h) G hK hW 1 0 609 rfl (fun _ => rfl) es14 dX5_reserve_120 (fun H locs hW => ?_)
              refine lv_aload_n G.1 G.2.1 dX5_reserve_121 rfl (lv_at hl 2 rfl) ?_
              refine k_get G inlX5 hK hW 0 rfl rfl 0 (by decide) q_4_6 rfl dX5_reserve_122 ?_
              refine lv_iload G.1 G.2.1 dX5_reserve_125 (lv_at hl 0 rfl) ?_
              refine lv_iconst (v := (1 : Int32)) G.1 G.2.1 dX5_reserve_127 (by decide) ?_
              refine lv_iadd G.1 G.2.1 dX5_reserve_128 ?_
              refine lv_iload G.1 G.2.1 dX5_reserve_129 (lv_at hl 1 rfl) ?_
              obtain ⟨s15, es15, hf⟩ := ob hf
              refine k_ast (w := wM cy h) G hK hW 1 0 609 rfl (fun _ => rfl) es15 dX5_reserve_131 (fun H locs hW => ?_)
              refine lv_aload_n G.1 G.2.1 dX5_reserve_132 rfl (lv_at hl 2 rfl) ?_
              refine k_get G inlX5 hK hW 0 rfl rfl 0 (by decide) q_4_6 rfl dX5_reserve_133 ?_
              refine lv_iload G.1 G.2.1 dX5_reserve_136 (lv_at hl 0 rfl) ?_
              refine lv_iconst (v := (2 : Int32)) G.1 G.2.1 dX5_reserve_138 (by decide) ?_
              refine lv_iadd G.1 G.2.1 dX5_reserve_139 ?_
              refine lv_iload_n G.1 G.2.1 dX5_reserve_140 rfl (lv_at hl 4 rfl) ?_
              obtain ⟨s16, es16, hf⟩ := ob hf
              refine k_ast (w := wM cy h) G hK hW 1 0 609 rfl (fun _ => rfl) es16 dX5_reserve_141 (fun H locs hW => ?_)
              refine lv_aload_n G.1 G.2.1 dX5_reserve_142 rfl (lv_at hl 2 rfl) ?_
              refine k_get G inlX5 hK hW 0 rfl rfl 0 (by decide) q_4_6 rfl dX5_reserve_143 ?_
              refine lv_iload G.1 G.2.1 dX5_reserve_146 (lv_at hl 0 rfl) ?_
              refine lv_iconst (v := (3 : Int32)) G.1 G.2.1 dX5_reserve_148 (by decide) ?_
              refine lv_iadd G.1 G.2.1 dX5_reserve_149 ?_
              refine lv_iload_n G.1 G.2.1 dX5_reserve_150 rfl (lv_at hl 5 rfl) ?_
              obtain ⟨s17, es17, hf⟩ := ob hf
              refine k_ast (w := wM cy h) G hK hW 1 0 609 rfl (fun _ => rfl) es17 dX5_reserve_151 (fun H locs hW => ?_)
              refine lv_aload_n G.1 G.2.1 dX5_reserve_152 rfl (lv_at hl 2 rfl) ?_
              refine k_get G inlX5 hK hW 0 rfl rfl 0 (by decide) q_4_6 rfl dX5_reserve_153 ?_
              refine lv_iconst (v := (2 : Int32)) G.1 G.2.1 dX5_reserve_156 (by decide) ?_
              refine lv_dup2_11 G.1 G.2.1 dX5_reserve_157 rfl rfl ?_
              obtain ⟨v18, ev18, hf⟩ := ob hf
              refine k_ald G hK hW 1 rfl ev18 dX5_reserve_158 ?_
              refine lv_dup_x2 G.1 G.2.1 dX5_reserve_159 rfl rfl rfl ?_
              refine lv_iconst (v := (1 : Int32)) G.1 G.2.1 dX5_reserve_160 (by decide) ?_
              refine lv_iadd G.1 G.2.1 dX5_reserve_161 ?_
              obtain ⟨s19, es19, hf⟩ := ob hf
              refine k_ast (w := wM cy h) G hK hW 1 0 609 rfl (fun _ => rfl) es19 dX5_reserve_162 (fun H locs hW => ?_)
              cases hf
              exact k_iret G hr hlk hK hW dX5_reserve_163
            · replace hf := ie c85 hf
              refine lv_aload_n G.1 G.2.1 dX5_reserve_88 rfl (lv_at hl 1 rfl) ?_
              refine lv_iconst (v := (3 : Int32)) G.1 G.2.1 dX5_reserve_89 (by decide) ?_
              obtain ⟨v20, s21, ev20, hf⟩ := ob2 hf
              refine kc_i (wr := []) (w := wM cy h s1) (w' := wM cy h s21) (n := 1) (As := [.int (3 : Int32)]) (C := RX5) G hK hA hW (mX5_refuses l D cy h _ n s1 (3 : Int32) ev20) (gV q_16_18 q_16_19 q_16_20 q_1_5 q_16_21) ⟨rfl, rfl⟩ (by decide +kernel) ⟨Nat.le_of_ble_eq_true rfl, Nat.le_of_ble_eq_true rfl⟩ (va_recv hK.1 hW.1 (ci := 7) (q0 := 0) rfl rfl) rfl hl.1 rfl (Nat.le_of_ble_eq_true rfl) dX5_reserve_90 ⟨Nat.le_of_ble_eq_true rfl, Nat.le_of_ble_eq_true rfl⟩ (fun H locs hW => ?_)
              cases hf
              exact k_iret G hr hlk hK hW dX5_reserve_93
          · replace hf := it c65 hf
            refine lv_aload_n G.1 G.2.1 dX5_reserve_68 rfl (lv_at hl 0 rfl) ?_
            refine lv_iconst (v := (2 : Int32)) G.1 G.2.1 dX5_reserve_69 (by decide) ?_
            obtain ⟨v22, s23, ev22, hf⟩ := ob2 hf
            refine kc_i (wr := []) (w := wM cy h s1) (w' := wM cy h s23) (n := 1) (As := [.int (2 : Int32)]) (C := RX5) G hK hA hW (mX5_refuses l D cy h _ n s1 (2 : Int32) ev22) (gV q_16_18 q_16_19 q_16_20 q_1_5 q_16_21) ⟨rfl, rfl⟩ (by decide +kernel) ⟨Nat.le_of_ble_eq_true rfl, Nat.le_of_ble_eq_true rfl⟩ (va_recv hK.1 hW.1 (ci := 7) (q0 := 0) rfl rfl) rfl hl.1 rfl (Nat.le_of_ble_eq_true rfl) dX5_reserve_70 ⟨Nat.le_of_ble_eq_true rfl, Nat.le_of_ble_eq_true rfl⟩ (fun H locs hW => ?_)
            cases hf
            exact k_iret G hr hlk hK hW dX5_reserve_73
        · replace hf := ie c48 hf
          refine lv_aload_n G.1 G.2.1 dX5_reserve_51 rfl (lv_at hl 0 rfl) ?_
          refine lv_iconst (v := (1 : Int32)) G.1 G.2.1 dX5_reserve_52 (by decide) ?_
          obtain ⟨v24, s25, ev24, hf⟩ := ob2 hf
          refine kc_i (wr := []) (w := wM cy h s1) (w' := wM cy h s25) (n := 1) (As := [.int (1 : Int32)]) (C := RX5) G hK hA hW (mX5_refuses l D cy h _ n s1 (1 : Int32) ev24) (gV q_16_18 q_16_19 q_16_20 q_1_5 q_16_21) ⟨rfl, rfl⟩ (by decide +kernel) ⟨Nat.le_of_ble_eq_true rfl, Nat.le_of_ble_eq_true rfl⟩ (va_recv hK.1 hW.1 (ci := 7) (q0 := 0) rfl rfl) rfl hl.1 rfl (Nat.le_of_ble_eq_true rfl) dX5_reserve_53 ⟨Nat.le_of_ble_eq_true rfl, Nat.le_of_ble_eq_true rfl⟩ (fun H locs hW => ?_)
          cases hf
          exact k_iret G hr hlk hK hW dX5_reserve_56
      · replace hf := it c32 hf
        refine lv_aload_n G.1 G.2.1 dX5_reserve_35 rfl (lv_at hl 0 rfl) ?_
        refine lv_iconst (v := (1 : Int32)) G.1 G.2.1 dX5_reserve_36 (by decide) ?_
        obtain ⟨v26, s27, ev26, hf⟩ := ob2 hf
        refine kc_i (wr := []) (w := wM cy h s1) (w' := wM cy h s27) (n := 1) (As := [.int (1 : Int32)]) (C := RX5) G hK hA hW (mX5_raises l D cy h _ n s1 (1 : Int32) ev26) (gV q_8_6 q_8_7 q_8_8 q_1_5 q_8_9) ⟨rfl, rfl⟩ (by decide +kernel) ⟨Nat.le_of_ble_eq_true rfl, Nat.le_of_ble_eq_true rfl⟩ (va_recv hK.1 hW.1 (ci := 7) (q0 := 0) rfl rfl) rfl hl.1 rfl (Nat.le_of_ble_eq_true rfl) dX5_reserve_37 ⟨Nat.le_of_ble_eq_true rfl, Nat.le_of_ble_eq_true rfl⟩ (fun H locs hW => ?_)
        cases hf
        exact k_iret G hr hlk hK hW dX5_reserve_40

set_option maxHeartbeats 4000000 in
set_option maxRecDepth 100000 in
theorem mX5_refusal (l : Launch) (D : va_G) (cy : ClassId) (h : Nat → Nat) (sz n : Nat) (σ : St) {r : Int32} {σ' : St} (hf : fX5_refusal n σ = some (r, σ')) : Mi l yX5_refusal (ws_ yX5_refusal cX5_refusal 1 (some .int)) { frames := 0, cells := 0, slots := 0, locals := 0 } D cy (wM cy h σ) (wM cy h σ') sz [.ref (h 10)] r := by
  refine Met.ofW (cc := cX5_refusal) (maxL := 1) (ret := (some .int)) (by decide) rfl ?_
  intro p e s m args below meth c s₁ B hml hv
  obtain ⟨rfl, hsz, hP, hK, hD0⟩ := hv
  subst hsz
  have hts := atoms_spec (ws := ws_ yX5_refusal cX5_refusal 1 (some .int)) B.pre
  have G : CallFix p m c cX5_refusal 1 s _ wA RX5 := ⟨B.exec, B.bytes, hml, findClass_of_methodNamed B.named, fun w h => hts w (List.mem_cons_of_mem _ h)⟩
  have hr := B.returns
  have hlk := B.notSynchronized
  have hW : KW D (va_A (wM cy h σ) s.heap.size) s.heap (wM cy h σ) s.heap [] := ⟨hP, hD0.self, va_S.rf⟩
  have hA : ∀ q, s.heap.size ≤ q → va_A (wM cy h σ) s.heap.size q := fun q h => Or.inr h
  have hl := lv_entry ([.ref (h 10)]) (n := 1) (Nat.le_of_ble_eq_true rfl)
  rw [lg_entry_eq]
  generalize (lg_sl ([.ref (h 10)]) ++ List.replicate (1 - (lg_sl ([.ref (h 10)])).length) Slot.unset).toArray = ls at hl ⊢
  have hl : lv_has ls 1 [(0, .ref (h 10))] := hl
  unfold fX5_refusal at hf
  refine lv_aload_n G.1 G.2.1 dX5_refusal_0 rfl (lv_at hl 0 rfl) ?_
  refine lv_iconst (v := (0 : Int32)) G.1 G.2.1 dX5_refusal_1 (by decide) ?_
  obtain ⟨s1, es1, hf⟩ := ob hf
  refine k_put (w := wM cy h) G inlX5 tyX5 tyX5_ok nmX5 hK hW 0 6 rfl rfl 4 (by decide) q_8_2 rfl (by decide +kernel) (Nat.le_of_ble_eq_true rfl) rfl es1 dX5_refusal_2 (fun H locs hW => ?_)
  refine lv_aload_n G.1 G.2.1 dX5_refusal_5 rfl (lv_at hl 0 rfl) ?_
  refine k_get G inlX5 hK hW 0 rfl rfl 3 (by decide) q_16_17 rfl dX5_refusal_6 ?_
  cases hf
  exact k_iret G hr hlk hK hW dX5_refusal_9

set_option maxHeartbeats 4000000 in
set_option maxRecDepth 100000 in
theorem mX5_cancelReservation (l : Launch) (D : va_G) (cy : ClassId) (h : Nat → Nat) (sz n : Nat) (σ : St) (x1 : Int32) {σ' : St} (hf : fX5_cancelReservation n σ x1 = some σ') : Mv l yX5_cancelReservation (ws_ yX5_cancelReservation cX5_cancelReservation 2 none) { frames := 7, cells := 0, slots := 0, locals := 164 } D cy (wM cy h σ) (wM cy h σ') sz [.ref (h 10), .int x1] := by
  refine Met.ofW (cc := cX5_cancelReservation) (maxL := 2) (ret := none) (by decide) rfl ?_
  intro p e s m args below meth c s₁ B hml hv
  obtain ⟨rfl, hsz, hP, hK, hD0⟩ := hv
  subst hsz
  have hts := atoms_spec (ws := ws_ yX5_cancelReservation cX5_cancelReservation 2 none) B.pre
  have G : CallFix p m c cX5_cancelReservation 2 s _ wA RX5 := ⟨B.exec, B.bytes, hml, findClass_of_methodNamed B.named, fun w h => hts w (List.mem_cons_of_mem _ h)⟩
  have hr := B.returns
  have hlk := B.notSynchronized
  have hW : KW D (va_A (wM cy h σ) s.heap.size) s.heap (wM cy h σ) s.heap [] := ⟨hP, hD0.self, va_S.rf⟩
  have hA : ∀ q, s.heap.size ≤ q → va_A (wM cy h σ) s.heap.size q := fun q h => Or.inr h
  have hl := lv_entry ([.ref (h 10), .int x1]) (n := 2) (Nat.le_of_ble_eq_true rfl)
  rw [lg_entry_eq]
  generalize (lg_sl ([.ref (h 10), .int x1]) ++ List.replicate (2 - (lg_sl ([.ref (h 10), .int x1])).length) Slot.unset).toArray = ls at hl ⊢
  have hl : lv_has ls 2 [(0, .ref (h 10)), (1, .int x1)] := hl
  unfold fX5_cancelReservation at hf
  refine lv_aload_n G.1 G.2.1 dX5_cancelReservation_0 rfl (lv_at hl 0 rfl) ?_
  refine lv_iconst (v := (0 : Int32)) G.1 G.2.1 dX5_cancelReservation_1 (by decide) ?_
  obtain ⟨s1, es1, hf⟩ := ob hf
  refine k_put (w := wM cy h) G inlX5 tyX5 tyX5_ok nmX5 hK hW 0 6 rfl rfl 4 (by decide) q_8_2 rfl (by decide +kernel) (Nat.le_of_ble_eq_true rfl) rfl es1 dX5_cancelReservation_2 (fun H locs hW => ?_)
  refine lv_aload_n G.1 G.2.1 dX5_cancelReservation_5 rfl (lv_at hl 0 rfl) ?_
  refine lv_iload_n G.1 G.2.1 dX5_cancelReservation_6 rfl (lv_at hl 1 rfl) ?_
  obtain ⟨v2, ev2, hf⟩ := ob hf
  refine kc_i (wr := []) (w := wM cy h s1) (w' := wM cy h s1) (n := 1) (As := [.int x1]) (C := RX5) G hK hA hW (mX5_isReservation l D cy h _ n s1 x1 ev2) (gV q_18_5 q_18_6 q_18_7 q_1_5 q_18_8) ⟨rfl, rfl⟩ (by decide +kernel) ⟨Nat.le_of_ble_eq_true rfl, Nat.le_of_ble_eq_true rfl⟩ (va_recv hK.1 hW.1 (ci := 7) (q0 := 0) rfl rfl) rfl hl.1 rfl (Nat.le_of_ble_eq_true rfl) dX5_cancelReservation_7 ⟨Nat.le_of_ble_eq_true rfl, Nat.le_of_ble_eq_true rfl⟩ (fun H locs hW => ?_)
  refine lv_if_ne (tgt := 19) G.1 G.2.1 dX5_cancelReservation_10 (by decide) (fun c10 => ?_) (fun c10 => ?_)
  · replace hf := ie c10 hf
    refine lv_aload_n G.1 G.2.1 dX5_cancelReservation_19 rfl (lv_at hl 0 rfl) ?_
    refine lv_iload_n G.1 G.2.1 dX5_cancelReservation_20 rfl (lv_at hl 1 rfl) ?_
    refine lv_iconst (v := (3 : Int32)) G.1 G.2.1 dX5_cancelReservation_21 (by decide) ?_
    obtain ⟨v3, ev3, hf⟩ := ob hf
    refine kc_i (wr := []) (w := wM cy h s1) (w' := wM cy h s1) (n := 2) (As := [.int x1, .int (3 : Int32)]) (C := RX5) G hK hA hW (mX5_reserved l D cy h _ n s1 x1 (3 : Int32) ev3) (gV q_9_7 q_9_8 q_9_9 q_1_5 q_9_10) ⟨rfl, rfl⟩ (by decide +kernel) ⟨Nat.le_of_ble_eq_true rfl, Nat.le_of_ble_eq_true rfl⟩ (va_recv hK.1 hW.1 (ci := 7) (q0 := 0) rfl rfl) rfl hl.1 rfl (Nat.le_of_ble_eq_true rfl) dX5_cancelReservation_22 ⟨Nat.le_of_ble_eq_true rfl, Nat.le_of_ble_eq_true rfl⟩ (fun H locs hW => ?_)
    refine lv_if_ne (tgt := 34) G.1 G.2.1 dX5_cancelReservation_25 (by decide) (fun c25 => ?_) (fun c25 => ?_)
    · replace hf := ie c25 hf
      refine lv_aload_n G.1 G.2.1 dX5_cancelReservation_34 rfl (lv_at hl 0 rfl) ?_
      refine k_get G inlX5 hK hW 0 rfl rfl 0 (by decide) q_4_6 rfl dX5_cancelReservation_35 ?_
      refine lv_sipush (v := (341 : Int32)) G.1 G.2.1 dX5_cancelReservation_38 (by decide) ?_
      refine lv_iconst (v := (4 : Int32)) G.1 G.2.1 dX5_cancelReservation_41 (by decide) ?_
      refine lv_iload_n G.1 G.2.1 dX5_cancelReservation_42 rfl (lv_at hl 1 rfl) ?_
      refine lv_imul G.1 G.2.1 dX5_cancelReservation_43 ?_
      refine lv_iadd G.1 G.2.1 dX5_cancelReservation_44 ?_
      refine lv_iconst (v := (3 : Int32)) G.1 G.2.1 dX5_cancelReservation_45 (by decide) ?_
      refine lv_iadd G.1 G.2.1 dX5_cancelReservation_46 ?_
      refine lv_iconst (v := (0 : Int32)) G.1 G.2.1 dX5_cancelReservation_47 (by decide) ?_
      obtain ⟨s4, es4, hf⟩ := ob hf
      refine k_ast (w := wM cy h) G hK hW 1 0 609 rfl (fun _ => rfl) es4 dX5_cancelReservation_48 (fun H locs hW => ?_)
      refine lv_aload_n G.1 G.2.1 dX5_cancelReservation_49 rfl (lv_at hl 0 rfl) ?_
      obtain ⟨s5, es5, hf⟩ := ob hf
      refine kc_v (wr := []) (w := wM cy h s4) (w' := wM cy h s5) (n := 0) (As := []) (C := RX5) G hK hA hW (mX5_replans l D cy h _ n s4  es5) (gV q_13_1 q_13_2 q_13_3 q_1_5 q_13_4) ⟨rfl, rfl⟩ (by decide +kernel) ⟨Nat.le_of_ble_eq_true rfl, Nat.le_of_ble_eq_true rfl⟩ (va_recv hK.1 hW.1 (ci := 7) (q0 := 0) rfl rfl) rfl hl.1 rfl (Nat.le_of_ble_eq_true rfl) dX5_cancelReservation_50 ⟨Nat.le_of_ble_eq_true rfl, Nat.le_of_ble_eq_true rfl⟩ (fun H locs hW => ?_)
      refine lv_aload_n G.1 G.2.1 dX5_cancelReservation_53 rfl (lv_at hl 0 rfl) ?_
      obtain ⟨s6, es6, hf⟩ := ob hf
      refine kc_v (wr := []) (w := wM cy h s5) (w' := wM cy h s6) (n := 0) (As := []) (C := RX5) G hK hA hW (mX5_starts l D cy h _ n s5  es6) (gV q_10_2 q_10_3 q_10_4 q_1_5 q_10_5) ⟨rfl, rfl⟩ (by decide +kernel) ⟨Nat.le_of_ble_eq_true rfl, Nat.le_of_ble_eq_true rfl⟩ (va_recv hK.1 hW.1 (ci := 7) (q0 := 0) rfl rfl) rfl hl.1 rfl (Nat.le_of_ble_eq_true rfl) dX5_cancelReservation_54 ⟨Nat.le_of_ble_eq_true rfl, Nat.le_of_ble_eq_true rfl⟩ (fun H locs hW => ?_)
      cases hf
      exact k_vret G hr hlk hK hW dX5_cancelReservation_57
    · replace hf := it c25 hf
      refine lv_aload_n G.1 G.2.1 dX5_cancelReservation_28 rfl (lv_at hl 0 rfl) ?_
      refine lv_iconst (v := (2 : Int32)) G.1 G.2.1 dX5_cancelReservation_29 (by decide) ?_
      obtain ⟨s7, es7, hf⟩ := ob hf
      refine k_put (w := wM cy h) G inlX5 tyX5 tyX5_ok nmX5 hK hW 0 6 rfl rfl 4 (by decide) q_8_2 rfl (by decide +kernel) (Nat.le_of_ble_eq_true rfl) rfl es7 dX5_cancelReservation_30 (fun H locs hW => ?_)
      cases hf
      exact k_vret G hr hlk hK hW dX5_cancelReservation_33
  · replace hf := it c10 hf
    refine lv_aload_n G.1 G.2.1 dX5_cancelReservation_13 rfl (lv_at hl 0 rfl) ?_
    refine lv_iconst (v := (1 : Int32)) G.1 G.2.1 dX5_cancelReservation_14 (by decide) ?_
    obtain ⟨s8, es8, hf⟩ := ob hf
    refine k_put (w := wM cy h) G inlX5 tyX5 tyX5_ok nmX5 hK hW 0 6 rfl rfl 4 (by decide) q_8_2 rfl (by decide +kernel) (Nat.le_of_ble_eq_true rfl) rfl es8 dX5_cancelReservation_15 (fun H locs hW => ?_)
    cases hf
    exact k_vret G hr hlk hK hW dX5_cancelReservation_18

set_option maxHeartbeats 4000000 in
set_option maxRecDepth 100000 in
theorem mX5_reservedProcessor (l : Launch) (D : va_G) (cy : ClassId) (h : Nat → Nat) (sz n : Nat) (σ : St) (x1 : Int32) {r : Int32} {σ' : St} (hf : fX5_reservedProcessor n σ x1 = some (r, σ')) : Mi l yX5_reservedProcessor (ws_ yX5_reservedProcessor cX5_reservedProcessor 2 (some .int)) { frames := 2, cells := 0, slots := 0, locals := 43 } D cy (wM cy h σ) (wM cy h σ') sz [.ref (h 10), .int x1] r := by
  refine Met.ofW (cc := cX5_reservedProcessor) (maxL := 2) (ret := (some .int)) (by decide) rfl ?_
  intro p e s m args below meth c s₁ B hml hv
  obtain ⟨rfl, hsz, hP, hK, hD0⟩ := hv
  subst hsz
  have hts := atoms_spec (ws := ws_ yX5_reservedProcessor cX5_reservedProcessor 2 (some .int)) B.pre
  have G : CallFix p m c cX5_reservedProcessor 2 s _ wA RX5 := ⟨B.exec, B.bytes, hml, findClass_of_methodNamed B.named, fun w h => hts w (List.mem_cons_of_mem _ h)⟩
  have hr := B.returns
  have hlk := B.notSynchronized
  have hW : KW D (va_A (wM cy h σ) s.heap.size) s.heap (wM cy h σ) s.heap [] := ⟨hP, hD0.self, va_S.rf⟩
  have hA : ∀ q, s.heap.size ≤ q → va_A (wM cy h σ) s.heap.size q := fun q h => Or.inr h
  have hl := lv_entry ([.ref (h 10), .int x1]) (n := 2) (Nat.le_of_ble_eq_true rfl)
  rw [lg_entry_eq]
  generalize (lg_sl ([.ref (h 10), .int x1]) ++ List.replicate (2 - (lg_sl ([.ref (h 10), .int x1])).length) Slot.unset).toArray = ls at hl ⊢
  have hl : lv_has ls 2 [(0, .ref (h 10)), (1, .int x1)] := hl
  unfold fX5_reservedProcessor at hf
  refine lv_aload_n G.1 G.2.1 dX5_reservedProcessor_0 rfl (lv_at hl 0 rfl) ?_
  refine lv_iconst (v := (0 : Int32)) G.1 G.2.1 dX5_reservedProcessor_1 (by decide) ?_
  obtain ⟨s1, es1, hf⟩ := ob hf
  refine k_put (w := wM cy h) G inlX5 tyX5 tyX5_ok nmX5 hK hW 0 6 rfl rfl 4 (by decide) q_8_2 rfl (by decide +kernel) (Nat.le_of_ble_eq_true rfl) rfl es1 dX5_reservedProcessor_2 (fun H locs hW => ?_)
  refine lv_aload_n G.1 G.2.1 dX5_reservedProcessor_5 rfl (lv_at hl 0 rfl) ?_
  refine lv_iload_n G.1 G.2.1 dX5_reservedProcessor_6 rfl (lv_at hl 1 rfl) ?_
  obtain ⟨v2, ev2, hf⟩ := ob hf
  refine kc_i (wr := []) (w := wM cy h s1) (w' := wM cy h s1) (n := 1) (As := [.int x1]) (C := RX5) G hK hA hW (mX5_isReservation l D cy h _ n s1 x1 ev2) (gV q_18_5 q_18_6 q_18_7 q_1_5 q_18_8) ⟨rfl, rfl⟩ (by decide +kernel) ⟨Nat.le_of_ble_eq_true rfl, Nat.le_of_ble_eq_true rfl⟩ (va_recv hK.1 hW.1 (ci := 7) (q0 := 0) rfl rfl) rfl hl.1 rfl (Nat.le_of_ble_eq_true rfl) dX5_reservedProcessor_7 ⟨Nat.le_of_ble_eq_true rfl, Nat.le_of_ble_eq_true rfl⟩ (fun H locs hW => ?_)
  refine lv_if_ne (tgt := 19) G.1 G.2.1 dX5_reservedProcessor_10 (by decide) (fun c10 => ?_) (fun c10 => ?_)
  · replace hf := ie c10 hf
    refine lv_aload_n G.1 G.2.1 dX5_reservedProcessor_19 rfl (lv_at hl 0 rfl) ?_
    refine lv_iload_n G.1 G.2.1 dX5_reservedProcessor_20 rfl (lv_at hl 1 rfl) ?_
    refine lv_iconst (v := (3 : Int32)) G.1 G.2.1 dX5_reservedProcessor_21 (by decide) ?_
    obtain ⟨v3, ev3, hf⟩ := ob hf
    refine kc_i (wr := []) (w := wM cy h s1) (w' := wM cy h s1) (n := 2) (As := [.int x1, .int (3 : Int32)]) (C := RX5) G hK hA hW (mX5_reserved l D cy h _ n s1 x1 (3 : Int32) ev3) (gV q_9_7 q_9_8 q_9_9 q_1_5 q_9_10) ⟨rfl, rfl⟩ (by decide +kernel) ⟨Nat.le_of_ble_eq_true rfl, Nat.le_of_ble_eq_true rfl⟩ (va_recv hK.1 hW.1 (ci := 7) (q0 := 0) rfl rfl) rfl hl.1 rfl (Nat.le_of_ble_eq_true rfl) dX5_reservedProcessor_22 ⟨Nat.le_of_ble_eq_true rfl, Nat.le_of_ble_eq_true rfl⟩ (fun H locs hW => ?_)
    refine lv_if_ne (tgt := 36) G.1 G.2.1 dX5_reservedProcessor_25 (by decide) (fun c25 => ?_) (fun c25 => ?_)
    · replace hf := ie c25 hf
      refine lv_aload_n G.1 G.2.1 dX5_reservedProcessor_36 rfl (lv_at hl 0 rfl) ?_
      refine lv_iload_n G.1 G.2.1 dX5_reservedProcessor_37 rfl (lv_at hl 1 rfl) ?_
      refine lv_iconst (v := (1 : Int32)) G.1 G.2.1 dX5_reservedProcessor_38 (by decide) ?_
      obtain ⟨v4, ev4, hf⟩ := ob hf
      refine kc_i (wr := []) (w := wM cy h s1) (w' := wM cy h s1) (n := 2) (As := [.int x1, .int (1 : Int32)]) (C := RX5) G hK hA hW (mX5_reserved l D cy h _ n s1 x1 (1 : Int32) ev4) (gV q_9_7 q_9_8 q_9_9 q_1_5 q_9_10) ⟨rfl, rfl⟩ (by decide +kernel) ⟨Nat.le_of_ble_eq_true rfl, Nat.le_of_ble_eq_true rfl⟩ (va_recv hK.1 hW.1 (ci := 7) (q0 := 0) rfl rfl) rfl hl.1 rfl (Nat.le_of_ble_eq_true rfl) dX5_reservedProcessor_39 ⟨Nat.le_of_ble_eq_true rfl, Nat.le_of_ble_eq_true rfl⟩ (fun H locs hW => ?_)
      cases hf
      exact k_iret G hr hlk hK hW dX5_reservedProcessor_42
    · replace hf := it c25 hf
      refine lv_aload_n G.1 G.2.1 dX5_reservedProcessor_28 rfl (lv_at hl 0 rfl) ?_
      refine lv_iconst (v := (2 : Int32)) G.1 G.2.1 dX5_reservedProcessor_29 (by decide) ?_
      obtain ⟨v5, s6, ev5, hf⟩ := ob2 hf
      refine kc_i (wr := []) (w := wM cy h s1) (w' := wM cy h s6) (n := 1) (As := [.int (2 : Int32)]) (C := RX5) G hK hA hW (mX5_raises l D cy h _ n s1 (2 : Int32) ev5) (gV q_8_6 q_8_7 q_8_8 q_1_5 q_8_9) ⟨rfl, rfl⟩ (by decide +kernel) ⟨Nat.le_of_ble_eq_true rfl, Nat.le_of_ble_eq_true rfl⟩ (va_recv hK.1 hW.1 (ci := 7) (q0 := 0) rfl rfl) rfl hl.1 rfl (Nat.le_of_ble_eq_true rfl) dX5_reservedProcessor_30 ⟨Nat.le_of_ble_eq_true rfl, Nat.le_of_ble_eq_true rfl⟩ (fun H locs hW => ?_)
      refine lv_goto (tgt := 42) G.1 G.2.1 dX5_reservedProcessor_33 (by decide) ?_
      cases hf
      exact k_iret G hr hlk hK hW dX5_reservedProcessor_42
  · replace hf := it c10 hf
    refine lv_aload_n G.1 G.2.1 dX5_reservedProcessor_13 rfl (lv_at hl 0 rfl) ?_
    refine lv_iconst (v := (1 : Int32)) G.1 G.2.1 dX5_reservedProcessor_14 (by decide) ?_
    obtain ⟨v7, s8, ev7, hf⟩ := ob2 hf
    refine kc_i (wr := []) (w := wM cy h s1) (w' := wM cy h s8) (n := 1) (As := [.int (1 : Int32)]) (C := RX5) G hK hA hW (mX5_raises l D cy h _ n s1 (1 : Int32) ev7) (gV q_8_6 q_8_7 q_8_8 q_1_5 q_8_9) ⟨rfl, rfl⟩ (by decide +kernel) ⟨Nat.le_of_ble_eq_true rfl, Nat.le_of_ble_eq_true rfl⟩ (va_recv hK.1 hW.1 (ci := 7) (q0 := 0) rfl rfl) rfl hl.1 rfl (Nat.le_of_ble_eq_true rfl) dX5_reservedProcessor_15 ⟨Nat.le_of_ble_eq_true rfl, Nat.le_of_ble_eq_true rfl⟩ (fun H locs hW => ?_)
    cases hf
    exact k_iret G hr hlk hK hW dX5_reservedProcessor_18

set_option maxHeartbeats 4000000 in
set_option maxRecDepth 100000 in
theorem mX5_setFair (l : Launch) (D : va_G) (cy : ClassId) (h : Nat → Nat) (sz n : Nat) (σ : St) (x1 : Int32) {r : Int32} {σ' : St} (hf : fX5_setFair n σ x1 = some (r, σ')) : Mi l yX5_setFair (ws_ yX5_setFair cX5_setFair 3 (some .boolean)) { frames := 0, cells := 0, slots := 0, locals := 0 } D cy (wM cy h σ) (wM cy h σ') sz [.ref (h 10), .int x1] r := by
  refine Met.ofW (cc := cX5_setFair) (maxL := 3) (ret := (some .boolean)) (by decide) rfl ?_
  intro p e s m args below meth c s₁ B hml hv
  obtain ⟨rfl, hsz, hP, hK, hD0⟩ := hv
  subst hsz
  have hts := atoms_spec (ws := ws_ yX5_setFair cX5_setFair 3 (some .boolean)) B.pre
  have G : CallFix p m c cX5_setFair 3 s _ wA RX5 := ⟨B.exec, B.bytes, hml, findClass_of_methodNamed B.named, fun w h => hts w (List.mem_cons_of_mem _ h)⟩
  have hr := B.returns
  have hlk := B.notSynchronized
  have hW : KW D (va_A (wM cy h σ) s.heap.size) s.heap (wM cy h σ) s.heap [] := ⟨hP, hD0.self, va_S.rf⟩
  have hA : ∀ q, s.heap.size ≤ q → va_A (wM cy h σ) s.heap.size q := fun q h => Or.inr h
  have hl := lv_entry ([.ref (h 10), .int x1]) (n := 3) (Nat.le_of_ble_eq_true rfl)
  rw [lg_entry_eq]
  generalize (lg_sl ([.ref (h 10), .int x1]) ++ List.replicate (3 - (lg_sl ([.ref (h 10), .int x1])).length) Slot.unset).toArray = ls at hl ⊢
  have hl : lv_has ls 3 [(0, .ref (h 10)), (1, .int x1)] := hl
  unfold fX5_setFair at hf
  refine lv_aload_n G.1 G.2.1 dX5_setFair_0 rfl (lv_at hl 0 rfl) ?_
  refine lv_iconst (v := (0 : Int32)) G.1 G.2.1 dX5_setFair_1 (by decide) ?_
  obtain ⟨s1, es1, hf⟩ := ob hf
  refine k_put (w := wM cy h) G inlX5 tyX5 tyX5_ok nmX5 hK hW 0 6 rfl rfl 4 (by decide) q_8_2 rfl (by decide +kernel) (Nat.le_of_ble_eq_true rfl) rfl es1 dX5_setFair_2 (fun H locs hW => ?_)
  refine lv_aload_n G.1 G.2.1 dX5_setFair_5 rfl (lv_at hl 0 rfl) ?_
  refine k_get G inlX5 hK hW 0 rfl rfl 0 (by decide) q_4_6 rfl dX5_setFair_6 ?_
  refine lv_iconst (v := (3 : Int32)) G.1 G.2.1 dX5_setFair_9 (by decide) ?_
  obtain ⟨v2, ev2, hf⟩ := ob hf
  refine k_ald G hK hW 1 rfl ev2 dX5_setFair_10 ?_
  refine lv_iconst (v := (1 : Int32)) G.1 G.2.1 dX5_setFair_11 (by decide) ?_
  refine lv_icmp_ne (tgt := 19) G.1 G.2.1 dX5_setFair_12 (by decide) (fun c12 => ?_) (fun c12 => ?_)
  · replace hf := ie c12 hf
    refine lv_iconst (v := (0 : Int32)) G.1 G.2.1 dX5_setFair_19 (by decide) ?_
    refine lv_istore_n (lv' := [(2, .int (0 : Int32)), (0, .ref (h 10)), (1, .int x1)]) G.1 G.2.1 dX5_setFair_20 rfl hl (by decide) rfl (fun ls hl => ?_)
    refine lv_aload_n G.1 G.2.1 dX5_setFair_21 rfl (lv_at hl 1 rfl) ?_
    refine k_get G inlX5 hK hW 0 rfl rfl 0 (by decide) q_4_6 rfl dX5_setFair_22 ?_
    refine lv_iconst (v := (3 : Int32)) G.1 G.2.1 dX5_setFair_25 (by decide) ?_
    refine lv_iload_n G.1 G.2.1 dX5_setFair_26 rfl (lv_at hl 2 rfl) ?_
    refine lv_if_eq (tgt := 34) G.1 G.2.1 dX5_setFair_27 (by decide) (fun c27 => ?_) (fun c27 => ?_)
    · replace hf := it c27 hf
      refine lv_iconst (v := (0 : Int32)) G.1 G.2.1 dX5_setFair_34 (by decide) ?_
      obtain ⟨s3, es3, hf⟩ := ob hf
      refine k_ast (w := wM cy h) G hK hW 1 0 609 rfl (fun _ => rfl) es3 dX5_setFair_35 (fun H locs hW => ?_)
      refine lv_iload_n G.1 G.2.1 dX5_setFair_36 rfl (lv_at hl 0 rfl) ?_
      cases hf
      exact k_zret G hr hlk hK hW rfl dX5_setFair_37
    · replace hf := ie c27 hf
      refine lv_iconst (v := (1 : Int32)) G.1 G.2.1 dX5_setFair_30 (by decide) ?_
      refine lv_goto (tgt := 35) G.1 G.2.1 dX5_setFair_31 (by decide) ?_
      obtain ⟨s4, es4, hf⟩ := ob hf
      refine k_ast (w := wM cy h) G hK hW 1 0 609 rfl (fun _ => rfl) es4 dX5_setFair_35 (fun H locs hW => ?_)
      refine lv_iload_n G.1 G.2.1 dX5_setFair_36 rfl (lv_at hl 0 rfl) ?_
      cases hf
      exact k_zret G hr hlk hK hW rfl dX5_setFair_37
  · replace hf := it c12 hf
    refine lv_iconst (v := (1 : Int32)) G.1 G.2.1 dX5_setFair_15 (by decide) ?_
    refine lv_goto (tgt := 20) G.1 G.2.1 dX5_setFair_16 (by decide) ?_
    refine lv_istore_n (lv' := [(2, .int (1 : Int32)), (0, .ref (h 10)), (1, .int x1)]) G.1 G.2.1 dX5_setFair_20 rfl hl (by decide) rfl (fun ls hl => ?_)
    refine lv_aload_n G.1 G.2.1 dX5_setFair_21 rfl (lv_at hl 1 rfl) ?_
    refine k_get G inlX5 hK hW 0 rfl rfl 0 (by decide) q_4_6 rfl dX5_setFair_22 ?_
    refine lv_iconst (v := (3 : Int32)) G.1 G.2.1 dX5_setFair_25 (by decide) ?_
    refine lv_iload_n G.1 G.2.1 dX5_setFair_26 rfl (lv_at hl 2 rfl) ?_
    refine lv_if_eq (tgt := 34) G.1 G.2.1 dX5_setFair_27 (by decide) (fun c27 => ?_) (fun c27 => ?_)
    · replace hf := it c27 hf
      refine lv_iconst (v := (0 : Int32)) G.1 G.2.1 dX5_setFair_34 (by decide) ?_
      obtain ⟨s5, es5, hf⟩ := ob hf
      refine k_ast (w := wM cy h) G hK hW 1 0 609 rfl (fun _ => rfl) es5 dX5_setFair_35 (fun H locs hW => ?_)
      refine lv_iload_n G.1 G.2.1 dX5_setFair_36 rfl (lv_at hl 0 rfl) ?_
      cases hf
      exact k_zret G hr hlk hK hW rfl dX5_setFair_37
    · replace hf := ie c27 hf
      refine lv_iconst (v := (1 : Int32)) G.1 G.2.1 dX5_setFair_30 (by decide) ?_
      refine lv_goto (tgt := 35) G.1 G.2.1 dX5_setFair_31 (by decide) ?_
      obtain ⟨s6, es6, hf⟩ := ob hf
      refine k_ast (w := wM cy h) G hK hW 1 0 609 rfl (fun _ => rfl) es6 dX5_setFair_35 (fun H locs hW => ?_)
      refine lv_iload_n G.1 G.2.1 dX5_setFair_36 rfl (lv_at hl 0 rfl) ?_
      cases hf
      exact k_zret G hr hlk hK hW rfl dX5_setFair_37

set_option maxHeartbeats 4000000 in
set_option maxRecDepth 100000 in
theorem mX5_clock (l : Launch) (D : va_G) (cy : ClassId) (h : Nat → Nat) (sz n : Nat) (σ : St) {r : Int32} {σ' : St} (hf : fX5_clock n σ = some (r, σ')) : Mi l yX5_clock (ws_ yX5_clock cX5_clock 1 (some .int)) { frames := 0, cells := 0, slots := 0, locals := 0 } D cy (wM cy h σ) (wM cy h σ') sz [.ref (h 10)] r := by
  refine Met.ofW (cc := cX5_clock) (maxL := 1) (ret := (some .int)) (by decide) rfl ?_
  intro p e s m args below meth c s₁ B hml hv
  obtain ⟨rfl, hsz, hP, hK, hD0⟩ := hv
  subst hsz
  have hts := atoms_spec (ws := ws_ yX5_clock cX5_clock 1 (some .int)) B.pre
  have G : CallFix p m c cX5_clock 1 s _ wA RX5 := ⟨B.exec, B.bytes, hml, findClass_of_methodNamed B.named, fun w h => hts w (List.mem_cons_of_mem _ h)⟩
  have hr := B.returns
  have hlk := B.notSynchronized
  have hW : KW D (va_A (wM cy h σ) s.heap.size) s.heap (wM cy h σ) s.heap [] := ⟨hP, hD0.self, va_S.rf⟩
  have hA : ∀ q, s.heap.size ≤ q → va_A (wM cy h σ) s.heap.size q := fun q h => Or.inr h
  have hl := lv_entry ([.ref (h 10)]) (n := 1) (Nat.le_of_ble_eq_true rfl)
  rw [lg_entry_eq]
  generalize (lg_sl ([.ref (h 10)]) ++ List.replicate (1 - (lg_sl ([.ref (h 10)])).length) Slot.unset).toArray = ls at hl ⊢
  have hl : lv_has ls 1 [(0, .ref (h 10))] := hl
  unfold fX5_clock at hf
  refine lv_aload_n G.1 G.2.1 dX5_clock_0 rfl (lv_at hl 0 rfl) ?_
  refine lv_iconst (v := (0 : Int32)) G.1 G.2.1 dX5_clock_1 (by decide) ?_
  obtain ⟨s1, es1, hf⟩ := ob hf
  refine k_put (w := wM cy h) G inlX5 tyX5 tyX5_ok nmX5 hK hW 0 6 rfl rfl 4 (by decide) q_8_2 rfl (by decide +kernel) (Nat.le_of_ble_eq_true rfl) rfl es1 dX5_clock_2 (fun H locs hW => ?_)
  refine lv_aload_n G.1 G.2.1 dX5_clock_5 rfl (lv_at hl 0 rfl) ?_
  refine k_get G inlX5 hK hW 0 rfl rfl 0 (by decide) q_4_6 rfl dX5_clock_6 ?_
  refine lv_iconst (v := (0 : Int32)) G.1 G.2.1 dX5_clock_9 (by decide) ?_
  obtain ⟨v2, ev2, hf⟩ := ob hf
  refine k_ald G hK hW 1 rfl ev2 dX5_clock_10 ?_
  cases hf
  exact k_iret G hr hlk hK hW dX5_clock_11

set_option maxHeartbeats 4000000 in
set_option maxRecDepth 100000 in
theorem mX5_jobCount (l : Launch) (D : va_G) (cy : ClassId) (h : Nat → Nat) (sz n : Nat) (σ : St) {r : Int32} {σ' : St} (hf : fX5_jobCount n σ = some (r, σ')) : Mi l yX5_jobCount (ws_ yX5_jobCount cX5_jobCount 1 (some .int)) { frames := 0, cells := 0, slots := 0, locals := 0 } D cy (wM cy h σ) (wM cy h σ') sz [.ref (h 10)] r := by
  refine Met.ofW (cc := cX5_jobCount) (maxL := 1) (ret := (some .int)) (by decide) rfl ?_
  intro p e s m args below meth c s₁ B hml hv
  obtain ⟨rfl, hsz, hP, hK, hD0⟩ := hv
  subst hsz
  have hts := atoms_spec (ws := ws_ yX5_jobCount cX5_jobCount 1 (some .int)) B.pre
  have G : CallFix p m c cX5_jobCount 1 s _ wA RX5 := ⟨B.exec, B.bytes, hml, findClass_of_methodNamed B.named, fun w h => hts w (List.mem_cons_of_mem _ h)⟩
  have hr := B.returns
  have hlk := B.notSynchronized
  have hW : KW D (va_A (wM cy h σ) s.heap.size) s.heap (wM cy h σ) s.heap [] := ⟨hP, hD0.self, va_S.rf⟩
  have hA : ∀ q, s.heap.size ≤ q → va_A (wM cy h σ) s.heap.size q := fun q h => Or.inr h
  have hl := lv_entry ([.ref (h 10)]) (n := 1) (Nat.le_of_ble_eq_true rfl)
  rw [lg_entry_eq]
  generalize (lg_sl ([.ref (h 10)]) ++ List.replicate (1 - (lg_sl ([.ref (h 10)])).length) Slot.unset).toArray = ls at hl ⊢
  have hl : lv_has ls 1 [(0, .ref (h 10))] := hl
  unfold fX5_jobCount at hf
  refine lv_aload_n G.1 G.2.1 dX5_jobCount_0 rfl (lv_at hl 0 rfl) ?_
  refine lv_iconst (v := (0 : Int32)) G.1 G.2.1 dX5_jobCount_1 (by decide) ?_
  obtain ⟨s1, es1, hf⟩ := ob hf
  refine k_put (w := wM cy h) G inlX5 tyX5 tyX5_ok nmX5 hK hW 0 6 rfl rfl 4 (by decide) q_8_2 rfl (by decide +kernel) (Nat.le_of_ble_eq_true rfl) rfl es1 dX5_jobCount_2 (fun H locs hW => ?_)
  refine lv_aload_n G.1 G.2.1 dX5_jobCount_5 rfl (lv_at hl 0 rfl) ?_
  refine k_get G inlX5 hK hW 0 rfl rfl 0 (by decide) q_4_6 rfl dX5_jobCount_6 ?_
  refine lv_iconst (v := (1 : Int32)) G.1 G.2.1 dX5_jobCount_9 (by decide) ?_
  obtain ⟨v2, ev2, hf⟩ := ob hf
  refine k_ald G hK hW 1 rfl ev2 dX5_jobCount_10 ?_
  cases hf
  exact k_iret G hr hlk hK hW dX5_jobCount_11

set_option maxHeartbeats 4000000 in
set_option maxRecDepth 100000 in
theorem mX5_state (l : Launch) (D : va_G) (cy : ClassId) (h : Nat → Nat) (sz n : Nat) (σ : St) (x1 : Int32) {r : Int32} {σ' : St} (hf : fX5_state n σ x1 = some (r, σ')) : Mi l yX5_state (ws_ yX5_state cX5_state 2 (some .int)) { frames := 2, cells := 0, slots := 0, locals := 43 } D cy (wM cy h σ) (wM cy h σ') sz [.ref (h 10), .int x1] r := by
  refine Met.ofW (cc := cX5_state) (maxL := 2) (ret := (some .int)) (by decide) rfl ?_
  intro p e s m args below meth c s₁ B hml hv
  obtain ⟨rfl, hsz, hP, hK, hD0⟩ := hv
  subst hsz
  have hts := atoms_spec (ws := ws_ yX5_state cX5_state 2 (some .int)) B.pre
  have G : CallFix p m c cX5_state 2 s _ wA RX5 := ⟨B.exec, B.bytes, hml, findClass_of_methodNamed B.named, fun w h => hts w (List.mem_cons_of_mem _ h)⟩
  have hr := B.returns
  have hlk := B.notSynchronized
  have hW : KW D (va_A (wM cy h σ) s.heap.size) s.heap (wM cy h σ) s.heap [] := ⟨hP, hD0.self, va_S.rf⟩
  have hA : ∀ q, s.heap.size ≤ q → va_A (wM cy h σ) s.heap.size q := fun q h => Or.inr h
  have hl := lv_entry ([.ref (h 10), .int x1]) (n := 2) (Nat.le_of_ble_eq_true rfl)
  rw [lg_entry_eq]
  generalize (lg_sl ([.ref (h 10), .int x1]) ++ List.replicate (2 - (lg_sl ([.ref (h 10), .int x1])).length) Slot.unset).toArray = ls at hl ⊢
  have hl : lv_has ls 2 [(0, .ref (h 10)), (1, .int x1)] := hl
  unfold fX5_state at hf
  refine lv_aload_n G.1 G.2.1 dX5_state_0 rfl (lv_at hl 0 rfl) ?_
  refine lv_iconst (v := (0 : Int32)) G.1 G.2.1 dX5_state_1 (by decide) ?_
  obtain ⟨s1, es1, hf⟩ := ob hf
  refine k_put (w := wM cy h) G inlX5 tyX5 tyX5_ok nmX5 hK hW 0 6 rfl rfl 4 (by decide) q_8_2 rfl (by decide +kernel) (Nat.le_of_ble_eq_true rfl) rfl es1 dX5_state_2 (fun H locs hW => ?_)
  refine lv_aload_n G.1 G.2.1 dX5_state_5 rfl (lv_at hl 0 rfl) ?_
  refine lv_iload_n G.1 G.2.1 dX5_state_6 rfl (lv_at hl 1 rfl) ?_
  obtain ⟨v2, ev2, hf⟩ := ob hf
  refine kc_i (wr := []) (w := wM cy h s1) (w' := wM cy h s1) (n := 1) (As := [.int x1]) (C := RX5) G hK hA hW (mX5_isJob l D cy h _ n s1 x1 ev2) (gV q_14_20 q_14_21 q_14_22 q_1_5 q_14_23) ⟨rfl, rfl⟩ (by decide +kernel) ⟨Nat.le_of_ble_eq_true rfl, Nat.le_of_ble_eq_true rfl⟩ (va_recv hK.1 hW.1 (ci := 7) (q0 := 0) rfl rfl) rfl hl.1 rfl (Nat.le_of_ble_eq_true rfl) dX5_state_7 ⟨Nat.le_of_ble_eq_true rfl, Nat.le_of_ble_eq_true rfl⟩ (fun H locs hW => ?_)
  refine lv_if_eq (tgt := 22) G.1 G.2.1 dX5_state_10 (by decide) (fun c10 => ?_) (fun c10 => ?_)
  · replace hf := it c10 hf
    refine lv_aload_n G.1 G.2.1 dX5_state_22 rfl (lv_at hl 0 rfl) ?_
    refine lv_iconst (v := (1 : Int32)) G.1 G.2.1 dX5_state_23 (by decide) ?_
    obtain ⟨v3, s4, ev3, hf⟩ := ob2 hf
    refine kc_i (wr := []) (w := wM cy h s1) (w' := wM cy h s4) (n := 1) (As := [.int (1 : Int32)]) (C := RX5) G hK hA hW (mX5_raises l D cy h _ n s1 (1 : Int32) ev3) (gV q_8_6 q_8_7 q_8_8 q_1_5 q_8_9) ⟨rfl, rfl⟩ (by decide +kernel) ⟨Nat.le_of_ble_eq_true rfl, Nat.le_of_ble_eq_true rfl⟩ (va_recv hK.1 hW.1 (ci := 7) (q0 := 0) rfl rfl) rfl hl.1 rfl (Nat.le_of_ble_eq_true rfl) dX5_state_24 ⟨Nat.le_of_ble_eq_true rfl, Nat.le_of_ble_eq_true rfl⟩ (fun H locs hW => ?_)
    cases hf
    exact k_iret G hr hlk hK hW dX5_state_27
  · replace hf := ie c10 hf
    refine lv_aload_n G.1 G.2.1 dX5_state_13 rfl (lv_at hl 0 rfl) ?_
    refine lv_iload_n G.1 G.2.1 dX5_state_14 rfl (lv_at hl 1 rfl) ?_
    refine lv_iconst (v := (4 : Int32)) G.1 G.2.1 dX5_state_15 (by decide) ?_
    obtain ⟨v5, ev5, hf⟩ := ob hf
    refine kc_i (wr := []) (w := wM cy h s1) (w' := wM cy h s1) (n := 2) (As := [.int x1, .int (4 : Int32)]) (C := RX5) G hK hA hW (mX5_of l D cy h _ n s1 x1 (4 : Int32) ev5) (gV q_8_22 q_8_23 q_9_0 q_1_5 q_9_1) ⟨rfl, rfl⟩ (by decide +kernel) ⟨Nat.le_of_ble_eq_true rfl, Nat.le_of_ble_eq_true rfl⟩ (va_recv hK.1 hW.1 (ci := 7) (q0 := 0) rfl rfl) rfl hl.1 rfl (Nat.le_of_ble_eq_true rfl) dX5_state_16 ⟨Nat.le_of_ble_eq_true rfl, Nat.le_of_ble_eq_true rfl⟩ (fun H locs hW => ?_)
    refine lv_goto (tgt := 27) G.1 G.2.1 dX5_state_19 (by decide) ?_
    cases hf
    exact k_iret G hr hlk hK hW dX5_state_27

set_option maxHeartbeats 4000000 in
set_option maxRecDepth 100000 in
theorem mX5_ofAllocated (l : Launch) (D : va_G) (cy : ClassId) (h : Nat → Nat) (sz n : Nat) (σ : St) (x1 : Int32) (x2 : Int32) {r : Int32} {σ' : St} (hf : fX5_ofAllocated n σ x1 x2 = some (r, σ')) : Mi l yX5_ofAllocated (ws_ yX5_ofAllocated cX5_ofAllocated 3 (some .int)) { frames := 2, cells := 0, slots := 0, locals := 43 } D cy (wM cy h σ) (wM cy h σ') sz [.ref (h 10), .int x1, .int x2] r := by
  refine Met.ofW (cc := cX5_ofAllocated) (maxL := 3) (ret := (some .int)) (by decide) rfl ?_
  intro p e s m args below meth c s₁ B hml hv
  obtain ⟨rfl, hsz, hP, hK, hD0⟩ := hv
  subst hsz
  have hts := atoms_spec (ws := ws_ yX5_ofAllocated cX5_ofAllocated 3 (some .int)) B.pre
  have G : CallFix p m c cX5_ofAllocated 3 s _ wA RX5 := ⟨B.exec, B.bytes, hml, findClass_of_methodNamed B.named, fun w h => hts w (List.mem_cons_of_mem _ h)⟩
  have hr := B.returns
  have hlk := B.notSynchronized
  have hW : KW D (va_A (wM cy h σ) s.heap.size) s.heap (wM cy h σ) s.heap [] := ⟨hP, hD0.self, va_S.rf⟩
  have hA : ∀ q, s.heap.size ≤ q → va_A (wM cy h σ) s.heap.size q := fun q h => Or.inr h
  have hl := lv_entry ([.ref (h 10), .int x1, .int x2]) (n := 3) (Nat.le_of_ble_eq_true rfl)
  rw [lg_entry_eq]
  generalize (lg_sl ([.ref (h 10), .int x1, .int x2]) ++ List.replicate (3 - (lg_sl ([.ref (h 10), .int x1, .int x2])).length) Slot.unset).toArray = ls at hl ⊢
  have hl : lv_has ls 3 [(0, .ref (h 10)), (1, .int x1), (2, .int x2)] := hl
  unfold fX5_ofAllocated at hf
  refine lv_aload_n G.1 G.2.1 dX5_ofAllocated_0 rfl (lv_at hl 0 rfl) ?_
  refine lv_iconst (v := (0 : Int32)) G.1 G.2.1 dX5_ofAllocated_1 (by decide) ?_
  obtain ⟨s1, es1, hf⟩ := ob hf
  refine k_put (w := wM cy h) G inlX5 tyX5 tyX5_ok nmX5 hK hW 0 6 rfl rfl 4 (by decide) q_8_2 rfl (by decide +kernel) (Nat.le_of_ble_eq_true rfl) rfl es1 dX5_ofAllocated_2 (fun H locs hW => ?_)
  refine lv_aload_n G.1 G.2.1 dX5_ofAllocated_5 rfl (lv_at hl 0 rfl) ?_
  refine lv_iload_n G.1 G.2.1 dX5_ofAllocated_6 rfl (lv_at hl 1 rfl) ?_
  obtain ⟨v2, ev2, hf⟩ := ob hf
  refine kc_i (wr := []) (w := wM cy h s1) (w' := wM cy h s1) (n := 1) (As := [.int x1]) (C := RX5) G hK hA hW (mX5_isJob l D cy h _ n s1 x1 ev2) (gV q_14_20 q_14_21 q_14_22 q_1_5 q_14_23) ⟨rfl, rfl⟩ (by decide +kernel) ⟨Nat.le_of_ble_eq_true rfl, Nat.le_of_ble_eq_true rfl⟩ (va_recv hK.1 hW.1 (ci := 7) (q0 := 0) rfl rfl) rfl hl.1 rfl (Nat.le_of_ble_eq_true rfl) dX5_ofAllocated_7 ⟨Nat.le_of_ble_eq_true rfl, Nat.le_of_ble_eq_true rfl⟩ (fun H locs hW => ?_)
  refine lv_if_ne (tgt := 19) G.1 G.2.1 dX5_ofAllocated_10 (by decide) (fun c10 => ?_) (fun c10 => ?_)
  · replace hf := ie c10 hf
    refine lv_aload_n G.1 G.2.1 dX5_ofAllocated_19 rfl (lv_at hl 0 rfl) ?_
    refine lv_iload_n G.1 G.2.1 dX5_ofAllocated_20 rfl (lv_at hl 1 rfl) ?_
    obtain ⟨v3, ev3, hf⟩ := ob hf
    refine kc_i (wr := []) (w := wM cy h s1) (w' := wM cy h s1) (n := 1) (As := [.int x1]) (C := RX5) G hK hA hW (mX5_isAllocated l D cy h _ n s1 x1 ev3) (gV q_9_11 q_9_12 q_9_13 q_1_5 q_9_14) ⟨rfl, rfl⟩ (by decide +kernel) ⟨Nat.le_of_ble_eq_true rfl, Nat.le_of_ble_eq_true rfl⟩ (va_recv hK.1 hW.1 (ci := 7) (q0 := 0) rfl rfl) rfl hl.1 rfl (Nat.le_of_ble_eq_true rfl) dX5_ofAllocated_21 ⟨Nat.le_of_ble_eq_true rfl, Nat.le_of_ble_eq_true rfl⟩ (fun H locs hW => ?_)
    refine lv_if_eq (tgt := 36) G.1 G.2.1 dX5_ofAllocated_24 (by decide) (fun c24 => ?_) (fun c24 => ?_)
    · replace hf := it c24 hf
      refine lv_aload_n G.1 G.2.1 dX5_ofAllocated_36 rfl (lv_at hl 0 rfl) ?_
      refine lv_iconst (v := (2 : Int32)) G.1 G.2.1 dX5_ofAllocated_37 (by decide) ?_
      obtain ⟨v4, s5, ev4, hf⟩ := ob2 hf
      refine kc_i (wr := []) (w := wM cy h s1) (w' := wM cy h s5) (n := 1) (As := [.int (2 : Int32)]) (C := RX5) G hK hA hW (mX5_raises l D cy h _ n s1 (2 : Int32) ev4) (gV q_8_6 q_8_7 q_8_8 q_1_5 q_8_9) ⟨rfl, rfl⟩ (by decide +kernel) ⟨Nat.le_of_ble_eq_true rfl, Nat.le_of_ble_eq_true rfl⟩ (va_recv hK.1 hW.1 (ci := 7) (q0 := 0) rfl rfl) rfl hl.1 rfl (Nat.le_of_ble_eq_true rfl) dX5_ofAllocated_38 ⟨Nat.le_of_ble_eq_true rfl, Nat.le_of_ble_eq_true rfl⟩ (fun H locs hW => ?_)
      cases hf
      exact k_iret G hr hlk hK hW dX5_ofAllocated_41
    · replace hf := ie c24 hf
      refine lv_aload_n G.1 G.2.1 dX5_ofAllocated_27 rfl (lv_at hl 0 rfl) ?_
      refine lv_iload_n G.1 G.2.1 dX5_ofAllocated_28 rfl (lv_at hl 1 rfl) ?_
      refine lv_iload_n G.1 G.2.1 dX5_ofAllocated_29 rfl (lv_at hl 2 rfl) ?_
      obtain ⟨v6, ev6, hf⟩ := ob hf
      refine kc_i (wr := []) (w := wM cy h s1) (w' := wM cy h s1) (n := 2) (As := [.int x1, .int x2]) (C := RX5) G hK hA hW (mX5_of l D cy h _ n s1 x1 x2 ev6) (gV q_8_22 q_8_23 q_9_0 q_1_5 q_9_1) ⟨rfl, rfl⟩ (by decide +kernel) ⟨Nat.le_of_ble_eq_true rfl, Nat.le_of_ble_eq_true rfl⟩ (va_recv hK.1 hW.1 (ci := 7) (q0 := 0) rfl rfl) rfl hl.1 rfl (Nat.le_of_ble_eq_true rfl) dX5_ofAllocated_30 ⟨Nat.le_of_ble_eq_true rfl, Nat.le_of_ble_eq_true rfl⟩ (fun H locs hW => ?_)
      refine lv_goto (tgt := 41) G.1 G.2.1 dX5_ofAllocated_33 (by decide) ?_
      cases hf
      exact k_iret G hr hlk hK hW dX5_ofAllocated_41
  · replace hf := it c10 hf
    refine lv_aload_n G.1 G.2.1 dX5_ofAllocated_13 rfl (lv_at hl 0 rfl) ?_
    refine lv_iconst (v := (1 : Int32)) G.1 G.2.1 dX5_ofAllocated_14 (by decide) ?_
    obtain ⟨v7, s8, ev7, hf⟩ := ob2 hf
    refine kc_i (wr := []) (w := wM cy h s1) (w' := wM cy h s8) (n := 1) (As := [.int (1 : Int32)]) (C := RX5) G hK hA hW (mX5_raises l D cy h _ n s1 (1 : Int32) ev7) (gV q_8_6 q_8_7 q_8_8 q_1_5 q_8_9) ⟨rfl, rfl⟩ (by decide +kernel) ⟨Nat.le_of_ble_eq_true rfl, Nat.le_of_ble_eq_true rfl⟩ (va_recv hK.1 hW.1 (ci := 7) (q0 := 0) rfl rfl) rfl hl.1 rfl (Nat.le_of_ble_eq_true rfl) dX5_ofAllocated_15 ⟨Nat.le_of_ble_eq_true rfl, Nat.le_of_ble_eq_true rfl⟩ (fun H locs hW => ?_)
    cases hf
    exact k_iret G hr hlk hK hW dX5_ofAllocated_18

set_option maxHeartbeats 4000000 in
set_option maxRecDepth 100000 in
theorem mX5_startTime (l : Launch) (D : va_G) (cy : ClassId) (h : Nat → Nat) (sz n : Nat) (σ : St) (x1 : Int32) {r : Int32} {σ' : St} (hf : fX5_startTime n σ x1 = some (r, σ')) : Mi l yX5_startTime (ws_ yX5_startTime cX5_startTime 2 (some .int)) { frames := 3, cells := 0, slots := 0, locals := 65 } D cy (wM cy h σ) (wM cy h σ') sz [.ref (h 10), .int x1] r := by
  refine Met.ofW (cc := cX5_startTime) (maxL := 2) (ret := (some .int)) (by decide) rfl ?_
  intro p e s m args below meth c s₁ B hml hv
  obtain ⟨rfl, hsz, hP, hK, hD0⟩ := hv
  subst hsz
  have hts := atoms_spec (ws := ws_ yX5_startTime cX5_startTime 2 (some .int)) B.pre
  have G : CallFix p m c cX5_startTime 2 s _ wA RX5 := ⟨B.exec, B.bytes, hml, findClass_of_methodNamed B.named, fun w h => hts w (List.mem_cons_of_mem _ h)⟩
  have hr := B.returns
  have hlk := B.notSynchronized
  have hW : KW D (va_A (wM cy h σ) s.heap.size) s.heap (wM cy h σ) s.heap [] := ⟨hP, hD0.self, va_S.rf⟩
  have hA : ∀ q, s.heap.size ≤ q → va_A (wM cy h σ) s.heap.size q := fun q h => Or.inr h
  have hl := lv_entry ([.ref (h 10), .int x1]) (n := 2) (Nat.le_of_ble_eq_true rfl)
  rw [lg_entry_eq]
  generalize (lg_sl ([.ref (h 10), .int x1]) ++ List.replicate (2 - (lg_sl ([.ref (h 10), .int x1])).length) Slot.unset).toArray = ls at hl ⊢
  have hl : lv_has ls 2 [(0, .ref (h 10)), (1, .int x1)] := hl
  unfold fX5_startTime at hf
  refine lv_aload_n G.1 G.2.1 dX5_startTime_0 rfl (lv_at hl 0 rfl) ?_
  refine lv_iload_n G.1 G.2.1 dX5_startTime_1 rfl (lv_at hl 1 rfl) ?_
  refine lv_bipush (v := (6 : Int32)) G.1 G.2.1 dX5_startTime_2 (by decide) ?_
  obtain ⟨v1, s2, ev1, hf⟩ := ob2 hf
  refine kc_i (wr := []) (w := wM cy h σ) (w' := wM cy h s2) (n := 2) (As := [.int x1, .int (6 : Int32)]) (C := RX5) G hK hA hW (mX5_ofAllocated l D cy h _ n σ x1 (6 : Int32) ev1) (gV q_20_21 q_20_22 q_20_23 q_1_5 q_21_0) ⟨rfl, rfl⟩ (by decide +kernel) ⟨Nat.le_of_ble_eq_true rfl, Nat.le_of_ble_eq_true rfl⟩ (va_recv hK.1 hW.1 (ci := 7) (q0 := 0) rfl rfl) rfl hl.1 rfl (Nat.le_of_ble_eq_true rfl) dX5_startTime_4 ⟨Nat.le_of_ble_eq_true rfl, Nat.le_of_ble_eq_true rfl⟩ (fun H locs hW => ?_)
  cases hf
  exact k_iret G hr hlk hK hW dX5_startTime_7

set_option maxHeartbeats 4000000 in
set_option maxRecDepth 100000 in
theorem mX5_firstProcessor (l : Launch) (D : va_G) (cy : ClassId) (h : Nat → Nat) (sz n : Nat) (σ : St) (x1 : Int32) {r : Int32} {σ' : St} (hf : fX5_firstProcessor n σ x1 = some (r, σ')) : Mi l yX5_firstProcessor (ws_ yX5_firstProcessor cX5_firstProcessor 2 (some .int)) { frames := 3, cells := 0, slots := 0, locals := 65 } D cy (wM cy h σ) (wM cy h σ') sz [.ref (h 10), .int x1] r := by
  refine Met.ofW (cc := cX5_firstProcessor) (maxL := 2) (ret := (some .int)) (by decide) rfl ?_
  intro p e s m args below meth c s₁ B hml hv
  obtain ⟨rfl, hsz, hP, hK, hD0⟩ := hv
  subst hsz
  have hts := atoms_spec (ws := ws_ yX5_firstProcessor cX5_firstProcessor 2 (some .int)) B.pre
  have G : CallFix p m c cX5_firstProcessor 2 s _ wA RX5 := ⟨B.exec, B.bytes, hml, findClass_of_methodNamed B.named, fun w h => hts w (List.mem_cons_of_mem _ h)⟩
  have hr := B.returns
  have hlk := B.notSynchronized
  have hW : KW D (va_A (wM cy h σ) s.heap.size) s.heap (wM cy h σ) s.heap [] := ⟨hP, hD0.self, va_S.rf⟩
  have hA : ∀ q, s.heap.size ≤ q → va_A (wM cy h σ) s.heap.size q := fun q h => Or.inr h
  have hl := lv_entry ([.ref (h 10), .int x1]) (n := 2) (Nat.le_of_ble_eq_true rfl)
  rw [lg_entry_eq]
  generalize (lg_sl ([.ref (h 10), .int x1]) ++ List.replicate (2 - (lg_sl ([.ref (h 10), .int x1])).length) Slot.unset).toArray = ls at hl ⊢
  have hl : lv_has ls 2 [(0, .ref (h 10)), (1, .int x1)] := hl
  unfold fX5_firstProcessor at hf
  refine lv_aload_n G.1 G.2.1 dX5_firstProcessor_0 rfl (lv_at hl 0 rfl) ?_
  refine lv_iload_n G.1 G.2.1 dX5_firstProcessor_1 rfl (lv_at hl 1 rfl) ?_
  refine lv_iconst (v := (5 : Int32)) G.1 G.2.1 dX5_firstProcessor_2 (by decide) ?_
  obtain ⟨v1, s2, ev1, hf⟩ := ob2 hf
  refine kc_i (wr := []) (w := wM cy h σ) (w' := wM cy h s2) (n := 2) (As := [.int x1, .int (5 : Int32)]) (C := RX5) G hK hA hW (mX5_ofAllocated l D cy h _ n σ x1 (5 : Int32) ev1) (gV q_20_21 q_20_22 q_20_23 q_1_5 q_21_0) ⟨rfl, rfl⟩ (by decide +kernel) ⟨Nat.le_of_ble_eq_true rfl, Nat.le_of_ble_eq_true rfl⟩ (va_recv hK.1 hW.1 (ci := 7) (q0 := 0) rfl rfl) rfl hl.1 rfl (Nat.le_of_ble_eq_true rfl) dX5_firstProcessor_3 ⟨Nat.le_of_ble_eq_true rfl, Nat.le_of_ble_eq_true rfl⟩ (fun H locs hW => ?_)
  cases hf
  exact k_iret G hr hlk hK hW dX5_firstProcessor_6

set_option maxHeartbeats 4000000 in
set_option maxRecDepth 100000 in
theorem mX5_promise (l : Launch) (D : va_G) (cy : ClassId) (h : Nat → Nat) (sz n : Nat) (σ : St) (x1 : Int32) {r : Int32} {σ' : St} (hf : fX5_promise n σ x1 = some (r, σ')) : Mi l yX5_promise (ws_ yX5_promise cX5_promise 2 (some .int)) { frames := 2, cells := 0, slots := 0, locals := 43 } D cy (wM cy h σ) (wM cy h σ') sz [.ref (h 10), .int x1] r := by
  refine Met.ofW (cc := cX5_promise) (maxL := 2) (ret := (some .int)) (by decide) rfl ?_
  intro p e s m args below meth c s₁ B hml hv
  obtain ⟨rfl, hsz, hP, hK, hD0⟩ := hv
  subst hsz
  have hts := atoms_spec (ws := ws_ yX5_promise cX5_promise 2 (some .int)) B.pre
  have G : CallFix p m c cX5_promise 2 s _ wA RX5 := ⟨B.exec, B.bytes, hml, findClass_of_methodNamed B.named, fun w h => hts w (List.mem_cons_of_mem _ h)⟩
  have hr := B.returns
  have hlk := B.notSynchronized
  have hW : KW D (va_A (wM cy h σ) s.heap.size) s.heap (wM cy h σ) s.heap [] := ⟨hP, hD0.self, va_S.rf⟩
  have hA : ∀ q, s.heap.size ≤ q → va_A (wM cy h σ) s.heap.size q := fun q h => Or.inr h
  have hl := lv_entry ([.ref (h 10), .int x1]) (n := 2) (Nat.le_of_ble_eq_true rfl)
  rw [lg_entry_eq]
  generalize (lg_sl ([.ref (h 10), .int x1]) ++ List.replicate (2 - (lg_sl ([.ref (h 10), .int x1])).length) Slot.unset).toArray = ls at hl ⊢
  have hl : lv_has ls 2 [(0, .ref (h 10)), (1, .int x1)] := hl
  unfold fX5_promise at hf
  refine lv_aload_n G.1 G.2.1 dX5_promise_0 rfl (lv_at hl 0 rfl) ?_
  refine lv_iconst (v := (0 : Int32)) G.1 G.2.1 dX5_promise_1 (by decide) ?_
  obtain ⟨s1, es1, hf⟩ := ob hf
  refine k_put (w := wM cy h) G inlX5 tyX5 tyX5_ok nmX5 hK hW 0 6 rfl rfl 4 (by decide) q_8_2 rfl (by decide +kernel) (Nat.le_of_ble_eq_true rfl) rfl es1 dX5_promise_2 (fun H locs hW => ?_)
  refine lv_aload_n G.1 G.2.1 dX5_promise_5 rfl (lv_at hl 0 rfl) ?_
  refine lv_iload_n G.1 G.2.1 dX5_promise_6 rfl (lv_at hl 1 rfl) ?_
  obtain ⟨v2, ev2, hf⟩ := ob hf
  refine kc_i (wr := []) (w := wM cy h s1) (w' := wM cy h s1) (n := 1) (As := [.int x1]) (C := RX5) G hK hA hW (mX5_isJob l D cy h _ n s1 x1 ev2) (gV q_14_20 q_14_21 q_14_22 q_1_5 q_14_23) ⟨rfl, rfl⟩ (by decide +kernel) ⟨Nat.le_of_ble_eq_true rfl, Nat.le_of_ble_eq_true rfl⟩ (va_recv hK.1 hW.1 (ci := 7) (q0 := 0) rfl rfl) rfl hl.1 rfl (Nat.le_of_ble_eq_true rfl) dX5_promise_7 ⟨Nat.le_of_ble_eq_true rfl, Nat.le_of_ble_eq_true rfl⟩ (fun H locs hW => ?_)
  refine lv_if_eq (tgt := 23) G.1 G.2.1 dX5_promise_10 (by decide) (fun c10 => ?_) (fun c10 => ?_)
  · replace hf := it c10 hf
    refine lv_aload_n G.1 G.2.1 dX5_promise_23 rfl (lv_at hl 0 rfl) ?_
    refine lv_iconst (v := (1 : Int32)) G.1 G.2.1 dX5_promise_24 (by decide) ?_
    obtain ⟨v3, s4, ev3, hf⟩ := ob2 hf
    refine kc_i (wr := []) (w := wM cy h s1) (w' := wM cy h s4) (n := 1) (As := [.int (1 : Int32)]) (C := RX5) G hK hA hW (mX5_raises l D cy h _ n s1 (1 : Int32) ev3) (gV q_8_6 q_8_7 q_8_8 q_1_5 q_8_9) ⟨rfl, rfl⟩ (by decide +kernel) ⟨Nat.le_of_ble_eq_true rfl, Nat.le_of_ble_eq_true rfl⟩ (va_recv hK.1 hW.1 (ci := 7) (q0 := 0) rfl rfl) rfl hl.1 rfl (Nat.le_of_ble_eq_true rfl) dX5_promise_25 ⟨Nat.le_of_ble_eq_true rfl, Nat.le_of_ble_eq_true rfl⟩ (fun H locs hW => ?_)
    cases hf
    exact k_iret G hr hlk hK hW dX5_promise_28
  · replace hf := ie c10 hf
    refine lv_aload_n G.1 G.2.1 dX5_promise_13 rfl (lv_at hl 0 rfl) ?_
    refine lv_iload_n G.1 G.2.1 dX5_promise_14 rfl (lv_at hl 1 rfl) ?_
    refine lv_bipush (v := (7 : Int32)) G.1 G.2.1 dX5_promise_15 (by decide) ?_
    obtain ⟨v5, ev5, hf⟩ := ob hf
    refine kc_i (wr := []) (w := wM cy h s1) (w' := wM cy h s1) (n := 2) (As := [.int x1, .int (7 : Int32)]) (C := RX5) G hK hA hW (mX5_of l D cy h _ n s1 x1 (7 : Int32) ev5) (gV q_8_22 q_8_23 q_9_0 q_1_5 q_9_1) ⟨rfl, rfl⟩ (by decide +kernel) ⟨Nat.le_of_ble_eq_true rfl, Nat.le_of_ble_eq_true rfl⟩ (va_recv hK.1 hW.1 (ci := 7) (q0 := 0) rfl rfl) rfl hl.1 rfl (Nat.le_of_ble_eq_true rfl) dX5_promise_17 ⟨Nat.le_of_ble_eq_true rfl, Nat.le_of_ble_eq_true rfl⟩ (fun H locs hW => ?_)
    refine lv_goto (tgt := 28) G.1 G.2.1 dX5_promise_20 (by decide) ?_
    cases hf
    exact k_iret G hr hlk hK hW dX5_promise_28

set_option maxHeartbeats 4000000 in
set_option maxRecDepth 100000 in
theorem mX5_finishTime (l : Launch) (D : va_G) (cy : ClassId) (h : Nat → Nat) (sz n : Nat) (σ : St) (x1 : Int32) {r : Int32} {σ' : St} (hf : fX5_finishTime n σ x1 = some (r, σ')) : Mi l yX5_finishTime (ws_ yX5_finishTime cX5_finishTime 2 (some .int)) { frames := 2, cells := 0, slots := 0, locals := 43 } D cy (wM cy h σ) (wM cy h σ') sz [.ref (h 10), .int x1] r := by
  refine Met.ofW (cc := cX5_finishTime) (maxL := 2) (ret := (some .int)) (by decide) rfl ?_
  intro p e s m args below meth c s₁ B hml hv
  obtain ⟨rfl, hsz, hP, hK, hD0⟩ := hv
  subst hsz
  have hts := atoms_spec (ws := ws_ yX5_finishTime cX5_finishTime 2 (some .int)) B.pre
  have G : CallFix p m c cX5_finishTime 2 s _ wA RX5 := ⟨B.exec, B.bytes, hml, findClass_of_methodNamed B.named, fun w h => hts w (List.mem_cons_of_mem _ h)⟩
  have hr := B.returns
  have hlk := B.notSynchronized
  have hW : KW D (va_A (wM cy h σ) s.heap.size) s.heap (wM cy h σ) s.heap [] := ⟨hP, hD0.self, va_S.rf⟩
  have hA : ∀ q, s.heap.size ≤ q → va_A (wM cy h σ) s.heap.size q := fun q h => Or.inr h
  have hl := lv_entry ([.ref (h 10), .int x1]) (n := 2) (Nat.le_of_ble_eq_true rfl)
  rw [lg_entry_eq]
  generalize (lg_sl ([.ref (h 10), .int x1]) ++ List.replicate (2 - (lg_sl ([.ref (h 10), .int x1])).length) Slot.unset).toArray = ls at hl ⊢
  have hl : lv_has ls 2 [(0, .ref (h 10)), (1, .int x1)] := hl
  unfold fX5_finishTime at hf
  refine lv_aload_n G.1 G.2.1 dX5_finishTime_0 rfl (lv_at hl 0 rfl) ?_
  refine lv_iconst (v := (0 : Int32)) G.1 G.2.1 dX5_finishTime_1 (by decide) ?_
  obtain ⟨s1, es1, hf⟩ := ob hf
  refine k_put (w := wM cy h) G inlX5 tyX5 tyX5_ok nmX5 hK hW 0 6 rfl rfl 4 (by decide) q_8_2 rfl (by decide +kernel) (Nat.le_of_ble_eq_true rfl) rfl es1 dX5_finishTime_2 (fun H locs hW => ?_)
  refine lv_aload_n G.1 G.2.1 dX5_finishTime_5 rfl (lv_at hl 0 rfl) ?_
  refine lv_iload_n G.1 G.2.1 dX5_finishTime_6 rfl (lv_at hl 1 rfl) ?_
  obtain ⟨v2, ev2, hf⟩ := ob hf
  refine kc_i (wr := []) (w := wM cy h s1) (w' := wM cy h s1) (n := 1) (As := [.int x1]) (C := RX5) G hK hA hW (mX5_isJob l D cy h _ n s1 x1 ev2) (gV q_14_20 q_14_21 q_14_22 q_1_5 q_14_23) ⟨rfl, rfl⟩ (by decide +kernel) ⟨Nat.le_of_ble_eq_true rfl, Nat.le_of_ble_eq_true rfl⟩ (va_recv hK.1 hW.1 (ci := 7) (q0 := 0) rfl rfl) rfl hl.1 rfl (Nat.le_of_ble_eq_true rfl) dX5_finishTime_7 ⟨Nat.le_of_ble_eq_true rfl, Nat.le_of_ble_eq_true rfl⟩ (fun H locs hW => ?_)
  refine lv_if_ne (tgt := 19) G.1 G.2.1 dX5_finishTime_10 (by decide) (fun c10 => ?_) (fun c10 => ?_)
  · replace hf := ie c10 hf
    refine lv_aload_n G.1 G.2.1 dX5_finishTime_19 rfl (lv_at hl 0 rfl) ?_
    refine lv_iload_n G.1 G.2.1 dX5_finishTime_20 rfl (lv_at hl 1 rfl) ?_
    refine lv_iconst (v := (4 : Int32)) G.1 G.2.1 dX5_finishTime_21 (by decide) ?_
    obtain ⟨v3, ev3, hf⟩ := ob hf
    refine kc_i (wr := []) (w := wM cy h s1) (w' := wM cy h s1) (n := 2) (As := [.int x1, .int (4 : Int32)]) (C := RX5) G hK hA hW (mX5_of l D cy h _ n s1 x1 (4 : Int32) ev3) (gV q_8_22 q_8_23 q_9_0 q_1_5 q_9_1) ⟨rfl, rfl⟩ (by decide +kernel) ⟨Nat.le_of_ble_eq_true rfl, Nat.le_of_ble_eq_true rfl⟩ (va_recv hK.1 hW.1 (ci := 7) (q0 := 0) rfl rfl) rfl hl.1 rfl (Nat.le_of_ble_eq_true rfl) dX5_finishTime_22 ⟨Nat.le_of_ble_eq_true rfl, Nat.le_of_ble_eq_true rfl⟩ (fun H locs hW => ?_)
    refine lv_iconst (v := (2 : Int32)) G.1 G.2.1 dX5_finishTime_25 (by decide) ?_
    refine lv_icmp_ne (tgt := 39) G.1 G.2.1 dX5_finishTime_26 (by decide) (fun c26 => ?_) (fun c26 => ?_)
    · replace hf := ie c26 hf
      refine lv_aload_n G.1 G.2.1 dX5_finishTime_39 rfl (lv_at hl 0 rfl) ?_
      refine lv_iconst (v := (2 : Int32)) G.1 G.2.1 dX5_finishTime_40 (by decide) ?_
      obtain ⟨v4, s5, ev4, hf⟩ := ob2 hf
      refine kc_i (wr := []) (w := wM cy h s1) (w' := wM cy h s5) (n := 1) (As := [.int (2 : Int32)]) (C := RX5) G hK hA hW (mX5_raises l D cy h _ n s1 (2 : Int32) ev4) (gV q_8_6 q_8_7 q_8_8 q_1_5 q_8_9) ⟨rfl, rfl⟩ (by decide +kernel) ⟨Nat.le_of_ble_eq_true rfl, Nat.le_of_ble_eq_true rfl⟩ (va_recv hK.1 hW.1 (ci := 7) (q0 := 0) rfl rfl) rfl hl.1 rfl (Nat.le_of_ble_eq_true rfl) dX5_finishTime_41 ⟨Nat.le_of_ble_eq_true rfl, Nat.le_of_ble_eq_true rfl⟩ (fun H locs hW => ?_)
      cases hf
      exact k_iret G hr hlk hK hW dX5_finishTime_44
    · replace hf := it c26 hf
      refine lv_aload_n G.1 G.2.1 dX5_finishTime_29 rfl (lv_at hl 0 rfl) ?_
      refine lv_iload_n G.1 G.2.1 dX5_finishTime_30 rfl (lv_at hl 1 rfl) ?_
      refine lv_bipush (v := (10 : Int32)) G.1 G.2.1 dX5_finishTime_31 (by decide) ?_
      obtain ⟨v6, ev6, hf⟩ := ob hf
      refine kc_i (wr := []) (w := wM cy h s1) (w' := wM cy h s1) (n := 2) (As := [.int x1, .int (10 : Int32)]) (C := RX5) G hK hA hW (mX5_of l D cy h _ n s1 x1 (10 : Int32) ev6) (gV q_8_22 q_8_23 q_9_0 q_1_5 q_9_1) ⟨rfl, rfl⟩ (by decide +kernel) ⟨Nat.le_of_ble_eq_true rfl, Nat.le_of_ble_eq_true rfl⟩ (va_recv hK.1 hW.1 (ci := 7) (q0 := 0) rfl rfl) rfl hl.1 rfl (Nat.le_of_ble_eq_true rfl) dX5_finishTime_33 ⟨Nat.le_of_ble_eq_true rfl, Nat.le_of_ble_eq_true rfl⟩ (fun H locs hW => ?_)
      refine lv_goto (tgt := 44) G.1 G.2.1 dX5_finishTime_36 (by decide) ?_
      cases hf
      exact k_iret G hr hlk hK hW dX5_finishTime_44
  · replace hf := it c10 hf
    refine lv_aload_n G.1 G.2.1 dX5_finishTime_13 rfl (lv_at hl 0 rfl) ?_
    refine lv_iconst (v := (1 : Int32)) G.1 G.2.1 dX5_finishTime_14 (by decide) ?_
    obtain ⟨v7, s8, ev7, hf⟩ := ob2 hf
    refine kc_i (wr := []) (w := wM cy h s1) (w' := wM cy h s8) (n := 1) (As := [.int (1 : Int32)]) (C := RX5) G hK hA hW (mX5_raises l D cy h _ n s1 (1 : Int32) ev7) (gV q_8_6 q_8_7 q_8_8 q_1_5 q_8_9) ⟨rfl, rfl⟩ (by decide +kernel) ⟨Nat.le_of_ble_eq_true rfl, Nat.le_of_ble_eq_true rfl⟩ (va_recv hK.1 hW.1 (ci := 7) (q0 := 0) rfl rfl) rfl hl.1 rfl (Nat.le_of_ble_eq_true rfl) dX5_finishTime_15 ⟨Nat.le_of_ble_eq_true rfl, Nat.le_of_ble_eq_true rfl⟩ (fun H locs hW => ?_)
    cases hf
    exact k_iret G hr hlk hK hW dX5_finishTime_18

set_option maxHeartbeats 4000000 in
set_option maxRecDepth 100000 in
theorem mX5_preemptions (l : Launch) (D : va_G) (cy : ClassId) (h : Nat → Nat) (sz n : Nat) (σ : St) (x1 : Int32) {r : Int32} {σ' : St} (hf : fX5_preemptions n σ x1 = some (r, σ')) : Mi l yX5_preemptions (ws_ yX5_preemptions cX5_preemptions 2 (some .int)) { frames := 2, cells := 0, slots := 0, locals := 43 } D cy (wM cy h σ) (wM cy h σ') sz [.ref (h 10), .int x1] r := by
  refine Met.ofW (cc := cX5_preemptions) (maxL := 2) (ret := (some .int)) (by decide) rfl ?_
  intro p e s m args below meth c s₁ B hml hv
  obtain ⟨rfl, hsz, hP, hK, hD0⟩ := hv
  subst hsz
  have hts := atoms_spec (ws := ws_ yX5_preemptions cX5_preemptions 2 (some .int)) B.pre
  have G : CallFix p m c cX5_preemptions 2 s _ wA RX5 := ⟨B.exec, B.bytes, hml, findClass_of_methodNamed B.named, fun w h => hts w (List.mem_cons_of_mem _ h)⟩
  have hr := B.returns
  have hlk := B.notSynchronized
  have hW : KW D (va_A (wM cy h σ) s.heap.size) s.heap (wM cy h σ) s.heap [] := ⟨hP, hD0.self, va_S.rf⟩
  have hA : ∀ q, s.heap.size ≤ q → va_A (wM cy h σ) s.heap.size q := fun q h => Or.inr h
  have hl := lv_entry ([.ref (h 10), .int x1]) (n := 2) (Nat.le_of_ble_eq_true rfl)
  rw [lg_entry_eq]
  generalize (lg_sl ([.ref (h 10), .int x1]) ++ List.replicate (2 - (lg_sl ([.ref (h 10), .int x1])).length) Slot.unset).toArray = ls at hl ⊢
  have hl : lv_has ls 2 [(0, .ref (h 10)), (1, .int x1)] := hl
  unfold fX5_preemptions at hf
  refine lv_aload_n G.1 G.2.1 dX5_preemptions_0 rfl (lv_at hl 0 rfl) ?_
  refine lv_iconst (v := (0 : Int32)) G.1 G.2.1 dX5_preemptions_1 (by decide) ?_
  obtain ⟨s1, es1, hf⟩ := ob hf
  refine k_put (w := wM cy h) G inlX5 tyX5 tyX5_ok nmX5 hK hW 0 6 rfl rfl 4 (by decide) q_8_2 rfl (by decide +kernel) (Nat.le_of_ble_eq_true rfl) rfl es1 dX5_preemptions_2 (fun H locs hW => ?_)
  refine lv_aload_n G.1 G.2.1 dX5_preemptions_5 rfl (lv_at hl 0 rfl) ?_
  refine lv_iload_n G.1 G.2.1 dX5_preemptions_6 rfl (lv_at hl 1 rfl) ?_
  obtain ⟨v2, ev2, hf⟩ := ob hf
  refine kc_i (wr := []) (w := wM cy h s1) (w' := wM cy h s1) (n := 1) (As := [.int x1]) (C := RX5) G hK hA hW (mX5_isJob l D cy h _ n s1 x1 ev2) (gV q_14_20 q_14_21 q_14_22 q_1_5 q_14_23) ⟨rfl, rfl⟩ (by decide +kernel) ⟨Nat.le_of_ble_eq_true rfl, Nat.le_of_ble_eq_true rfl⟩ (va_recv hK.1 hW.1 (ci := 7) (q0 := 0) rfl rfl) rfl hl.1 rfl (Nat.le_of_ble_eq_true rfl) dX5_preemptions_7 ⟨Nat.le_of_ble_eq_true rfl, Nat.le_of_ble_eq_true rfl⟩ (fun H locs hW => ?_)
  refine lv_if_eq (tgt := 23) G.1 G.2.1 dX5_preemptions_10 (by decide) (fun c10 => ?_) (fun c10 => ?_)
  · replace hf := it c10 hf
    refine lv_aload_n G.1 G.2.1 dX5_preemptions_23 rfl (lv_at hl 0 rfl) ?_
    refine lv_iconst (v := (1 : Int32)) G.1 G.2.1 dX5_preemptions_24 (by decide) ?_
    obtain ⟨v3, s4, ev3, hf⟩ := ob2 hf
    refine kc_i (wr := []) (w := wM cy h s1) (w' := wM cy h s4) (n := 1) (As := [.int (1 : Int32)]) (C := RX5) G hK hA hW (mX5_raises l D cy h _ n s1 (1 : Int32) ev3) (gV q_8_6 q_8_7 q_8_8 q_1_5 q_8_9) ⟨rfl, rfl⟩ (by decide +kernel) ⟨Nat.le_of_ble_eq_true rfl, Nat.le_of_ble_eq_true rfl⟩ (va_recv hK.1 hW.1 (ci := 7) (q0 := 0) rfl rfl) rfl hl.1 rfl (Nat.le_of_ble_eq_true rfl) dX5_preemptions_25 ⟨Nat.le_of_ble_eq_true rfl, Nat.le_of_ble_eq_true rfl⟩ (fun H locs hW => ?_)
    cases hf
    exact k_iret G hr hlk hK hW dX5_preemptions_28
  · replace hf := ie c10 hf
    refine lv_aload_n G.1 G.2.1 dX5_preemptions_13 rfl (lv_at hl 0 rfl) ?_
    refine lv_iload_n G.1 G.2.1 dX5_preemptions_14 rfl (lv_at hl 1 rfl) ?_
    refine lv_bipush (v := (11 : Int32)) G.1 G.2.1 dX5_preemptions_15 (by decide) ?_
    obtain ⟨v5, ev5, hf⟩ := ob hf
    refine kc_i (wr := []) (w := wM cy h s1) (w' := wM cy h s1) (n := 2) (As := [.int x1, .int (11 : Int32)]) (C := RX5) G hK hA hW (mX5_of l D cy h _ n s1 x1 (11 : Int32) ev5) (gV q_8_22 q_8_23 q_9_0 q_1_5 q_9_1) ⟨rfl, rfl⟩ (by decide +kernel) ⟨Nat.le_of_ble_eq_true rfl, Nat.le_of_ble_eq_true rfl⟩ (va_recv hK.1 hW.1 (ci := 7) (q0 := 0) rfl rfl) rfl hl.1 rfl (Nat.le_of_ble_eq_true rfl) dX5_preemptions_17 ⟨Nat.le_of_ble_eq_true rfl, Nat.le_of_ble_eq_true rfl⟩ (fun H locs hW => ?_)
    refine lv_goto (tgt := 28) G.1 G.2.1 dX5_preemptions_20 (by decide) ?_
    cases hf
    exact k_iret G hr hlk hK hW dX5_preemptions_28

set_option maxHeartbeats 4000000 in
set_option maxRecDepth 100000 in
theorem mX5_waitTime (l : Launch) (D : va_G) (cy : ClassId) (h : Nat → Nat) (sz n : Nat) (σ : St) (x1 : Int32) {r : Int32} {σ' : St} (hf : fX5_waitTime n σ x1 = some (r, σ')) : Mi l yX5_waitTime (ws_ yX5_waitTime cX5_waitTime 2 (some .int)) { frames := 2, cells := 0, slots := 0, locals := 43 } D cy (wM cy h σ) (wM cy h σ') sz [.ref (h 10), .int x1] r := by
  refine Met.ofW (cc := cX5_waitTime) (maxL := 2) (ret := (some .int)) (by decide) rfl ?_
  intro p e s m args below meth c s₁ B hml hv
  obtain ⟨rfl, hsz, hP, hK, hD0⟩ := hv
  subst hsz
  have hts := atoms_spec (ws := ws_ yX5_waitTime cX5_waitTime 2 (some .int)) B.pre
  have G : CallFix p m c cX5_waitTime 2 s _ wA RX5 := ⟨B.exec, B.bytes, hml, findClass_of_methodNamed B.named, fun w h => hts w (List.mem_cons_of_mem _ h)⟩
  have hr := B.returns
  have hlk := B.notSynchronized
  have hW : KW D (va_A (wM cy h σ) s.heap.size) s.heap (wM cy h σ) s.heap [] := ⟨hP, hD0.self, va_S.rf⟩
  have hA : ∀ q, s.heap.size ≤ q → va_A (wM cy h σ) s.heap.size q := fun q h => Or.inr h
  have hl := lv_entry ([.ref (h 10), .int x1]) (n := 2) (Nat.le_of_ble_eq_true rfl)
  rw [lg_entry_eq]
  generalize (lg_sl ([.ref (h 10), .int x1]) ++ List.replicate (2 - (lg_sl ([.ref (h 10), .int x1])).length) Slot.unset).toArray = ls at hl ⊢
  have hl : lv_has ls 2 [(0, .ref (h 10)), (1, .int x1)] := hl
  unfold fX5_waitTime at hf
  refine lv_aload_n G.1 G.2.1 dX5_waitTime_0 rfl (lv_at hl 0 rfl) ?_
  refine lv_iconst (v := (0 : Int32)) G.1 G.2.1 dX5_waitTime_1 (by decide) ?_
  obtain ⟨s1, es1, hf⟩ := ob hf
  refine k_put (w := wM cy h) G inlX5 tyX5 tyX5_ok nmX5 hK hW 0 6 rfl rfl 4 (by decide) q_8_2 rfl (by decide +kernel) (Nat.le_of_ble_eq_true rfl) rfl es1 dX5_waitTime_2 (fun H locs hW => ?_)
  refine lv_aload_n G.1 G.2.1 dX5_waitTime_5 rfl (lv_at hl 0 rfl) ?_
  refine lv_iload_n G.1 G.2.1 dX5_waitTime_6 rfl (lv_at hl 1 rfl) ?_
  obtain ⟨v2, ev2, hf⟩ := ob hf
  refine kc_i (wr := []) (w := wM cy h s1) (w' := wM cy h s1) (n := 1) (As := [.int x1]) (C := RX5) G hK hA hW (mX5_isJob l D cy h _ n s1 x1 ev2) (gV q_14_20 q_14_21 q_14_22 q_1_5 q_14_23) ⟨rfl, rfl⟩ (by decide +kernel) ⟨Nat.le_of_ble_eq_true rfl, Nat.le_of_ble_eq_true rfl⟩ (va_recv hK.1 hW.1 (ci := 7) (q0 := 0) rfl rfl) rfl hl.1 rfl (Nat.le_of_ble_eq_true rfl) dX5_waitTime_7 ⟨Nat.le_of_ble_eq_true rfl, Nat.le_of_ble_eq_true rfl⟩ (fun H locs hW => ?_)
  refine lv_if_ne (tgt := 19) G.1 G.2.1 dX5_waitTime_10 (by decide) (fun c10 => ?_) (fun c10 => ?_)
  · replace hf := ie c10 hf
    refine lv_aload_n G.1 G.2.1 dX5_waitTime_19 rfl (lv_at hl 0 rfl) ?_
    refine lv_iload_n G.1 G.2.1 dX5_waitTime_20 rfl (lv_at hl 1 rfl) ?_
    refine lv_bipush (v := (12 : Int32)) G.1 G.2.1 dX5_waitTime_21 (by decide) ?_
    obtain ⟨v3, ev3, hf⟩ := ob hf
    refine kc_i (wr := []) (w := wM cy h s1) (w' := wM cy h s1) (n := 2) (As := [.int x1, .int (12 : Int32)]) (C := RX5) G hK hA hW (mX5_of l D cy h _ n s1 x1 (12 : Int32) ev3) (gV q_8_22 q_8_23 q_9_0 q_1_5 q_9_1) ⟨rfl, rfl⟩ (by decide +kernel) ⟨Nat.le_of_ble_eq_true rfl, Nat.le_of_ble_eq_true rfl⟩ (va_recv hK.1 hW.1 (ci := 7) (q0 := 0) rfl rfl) rfl hl.1 rfl (Nat.le_of_ble_eq_true rfl) dX5_waitTime_23 ⟨Nat.le_of_ble_eq_true rfl, Nat.le_of_ble_eq_true rfl⟩ (fun H locs hW => ?_)
    refine lv_if_ge (tgt := 37) G.1 G.2.1 dX5_waitTime_26 (by decide) (fun c26 => ?_) (fun c26 => ?_)
    · replace hf := it c26 hf
      refine lv_aload_n G.1 G.2.1 dX5_waitTime_37 rfl (lv_at hl 0 rfl) ?_
      refine lv_iload_n G.1 G.2.1 dX5_waitTime_38 rfl (lv_at hl 1 rfl) ?_
      refine lv_bipush (v := (12 : Int32)) G.1 G.2.1 dX5_waitTime_39 (by decide) ?_
      obtain ⟨v4, ev4, hf⟩ := ob hf
      refine kc_i (wr := []) (w := wM cy h s1) (w' := wM cy h s1) (n := 2) (As := [.int x1, .int (12 : Int32)]) (C := RX5) G hK hA hW (mX5_of l D cy h _ n s1 x1 (12 : Int32) ev4) (gV q_8_22 q_8_23 q_9_0 q_1_5 q_9_1) ⟨rfl, rfl⟩ (by decide +kernel) ⟨Nat.le_of_ble_eq_true rfl, Nat.le_of_ble_eq_true rfl⟩ (va_recv hK.1 hW.1 (ci := 7) (q0 := 0) rfl rfl) rfl hl.1 rfl (Nat.le_of_ble_eq_true rfl) dX5_waitTime_41 ⟨Nat.le_of_ble_eq_true rfl, Nat.le_of_ble_eq_true rfl⟩ (fun H locs hW => ?_)
      refine lv_aload_n G.1 G.2.1 dX5_waitTime_44 rfl (lv_at hl 0 rfl) ?_
      refine lv_iload_n G.1 G.2.1 dX5_waitTime_45 rfl (lv_at hl 1 rfl) ?_
      refine lv_bipush (v := (8 : Int32)) G.1 G.2.1 dX5_waitTime_46 (by decide) ?_
      obtain ⟨v5, ev5, hf⟩ := ob hf
      refine kc_i (wr := []) (w := wM cy h s1) (w' := wM cy h s1) (n := 2) (As := [.int x1, .int (8 : Int32)]) (C := RX5) G hK hA hW (mX5_of l D cy h _ n s1 x1 (8 : Int32) ev5) (gV q_8_22 q_8_23 q_9_0 q_1_5 q_9_1) ⟨rfl, rfl⟩ (by decide +kernel) ⟨Nat.le_of_ble_eq_true rfl, Nat.le_of_ble_eq_true rfl⟩ (va_recv hK.1 hW.1 (ci := 7) (q0 := 0) rfl rfl) rfl hl.1 rfl (Nat.le_of_ble_eq_true rfl) dX5_waitTime_48 ⟨Nat.le_of_ble_eq_true rfl, Nat.le_of_ble_eq_true rfl⟩ (fun H locs hW => ?_)
      refine lv_isub G.1 G.2.1 dX5_waitTime_51 ?_
      cases hf
      exact k_iret G hr hlk hK hW dX5_waitTime_52
    · replace hf := ie c26 hf
      refine lv_aload_n G.1 G.2.1 dX5_waitTime_29 rfl (lv_at hl 0 rfl) ?_
      refine lv_iconst (v := (2 : Int32)) G.1 G.2.1 dX5_waitTime_30 (by decide) ?_
      obtain ⟨v6, s7, ev6, hf⟩ := ob2 hf
      refine kc_i (wr := []) (w := wM cy h s1) (w' := wM cy h s7) (n := 1) (As := [.int (2 : Int32)]) (C := RX5) G hK hA hW (mX5_raises l D cy h _ n s1 (2 : Int32) ev6) (gV q_8_6 q_8_7 q_8_8 q_1_5 q_8_9) ⟨rfl, rfl⟩ (by decide +kernel) ⟨Nat.le_of_ble_eq_true rfl, Nat.le_of_ble_eq_true rfl⟩ (va_recv hK.1 hW.1 (ci := 7) (q0 := 0) rfl rfl) rfl hl.1 rfl (Nat.le_of_ble_eq_true rfl) dX5_waitTime_31 ⟨Nat.le_of_ble_eq_true rfl, Nat.le_of_ble_eq_true rfl⟩ (fun H locs hW => ?_)
      refine lv_goto (tgt := 52) G.1 G.2.1 dX5_waitTime_34 (by decide) ?_
      cases hf
      exact k_iret G hr hlk hK hW dX5_waitTime_52
  · replace hf := it c10 hf
    refine lv_aload_n G.1 G.2.1 dX5_waitTime_13 rfl (lv_at hl 0 rfl) ?_
    refine lv_iconst (v := (1 : Int32)) G.1 G.2.1 dX5_waitTime_14 (by decide) ?_
    obtain ⟨v8, s9, ev8, hf⟩ := ob2 hf
    refine kc_i (wr := []) (w := wM cy h s1) (w' := wM cy h s9) (n := 1) (As := [.int (1 : Int32)]) (C := RX5) G hK hA hW (mX5_raises l D cy h _ n s1 (1 : Int32) ev8) (gV q_8_6 q_8_7 q_8_8 q_1_5 q_8_9) ⟨rfl, rfl⟩ (by decide +kernel) ⟨Nat.le_of_ble_eq_true rfl, Nat.le_of_ble_eq_true rfl⟩ (va_recv hK.1 hW.1 (ci := 7) (q0 := 0) rfl rfl) rfl hl.1 rfl (Nat.le_of_ble_eq_true rfl) dX5_waitTime_15 ⟨Nat.le_of_ble_eq_true rfl, Nat.le_of_ble_eq_true rfl⟩ (fun H locs hW => ?_)
    cases hf
    exact k_iret G hr hlk hK hW dX5_waitTime_18

set_option maxHeartbeats 4000000 in
set_option maxRecDepth 100000 in
theorem mX5_averageWait (l : Launch) (D : va_G) (cy : ClassId) (h : Nat → Nat) (sz n : Nat) (σ : St) {r : UInt64} {σ' : St} (hf : fX5_averageWait n σ = some (r, σ')) : Md l yX5_averageWait (ws_ yX5_averageWait cX5_averageWait 4 (some .double)) { frames := 1, cells := 0, slots := 0, locals := 22 } D cy (wM cy h σ) (wM cy h σ') sz [.ref (h 10)] r := by
  refine Met.ofW (cc := cX5_averageWait) (maxL := 4) (ret := (some .double)) (by decide) rfl ?_
  intro p e s m args below meth c s₁ B hml hv
  obtain ⟨rfl, hsz, hP, hK, hD0⟩ := hv
  subst hsz
  have hts := atoms_spec (ws := ws_ yX5_averageWait cX5_averageWait 4 (some .double)) B.pre
  have G : CallFix p m c cX5_averageWait 4 s _ wA RX5 := ⟨B.exec, B.bytes, hml, findClass_of_methodNamed B.named, fun w h => hts w (List.mem_cons_of_mem _ h)⟩
  have hr := B.returns
  have hlk := B.notSynchronized
  have hW : KW D (va_A (wM cy h σ) s.heap.size) s.heap (wM cy h σ) s.heap [] := ⟨hP, hD0.self, va_S.rf⟩
  have hA : ∀ q, s.heap.size ≤ q → va_A (wM cy h σ) s.heap.size q := fun q h => Or.inr h
  have hl := lv_entry ([.ref (h 10)]) (n := 4) (Nat.le_of_ble_eq_true rfl)
  rw [lg_entry_eq]
  generalize (lg_sl ([.ref (h 10)]) ++ List.replicate (4 - (lg_sl ([.ref (h 10)])).length) Slot.unset).toArray = ls at hl ⊢
  have hl : lv_has ls 4 [(0, .ref (h 10))] := hl
  unfold fX5_averageWait at hf
  refine lv_aload_n G.1 G.2.1 dX5_averageWait_0 rfl (lv_at hl 0 rfl) ?_
  refine lv_iconst (v := (0 : Int32)) G.1 G.2.1 dX5_averageWait_1 (by decide) ?_
  obtain ⟨s1, es1, hf⟩ := ob hf
  refine k_put (w := wM cy h) G inlX5 tyX5 tyX5_ok nmX5 hK hW 0 6 rfl rfl 4 (by decide) q_8_2 rfl (by decide +kernel) (Nat.le_of_ble_eq_true rfl) rfl es1 dX5_averageWait_2 (fun H locs hW => ?_)
  refine lv_iconst (v := (0 : Int32)) G.1 G.2.1 dX5_averageWait_5 (by decide) ?_
  refine lv_istore_n (lv' := [(1, .int (0 : Int32)), (0, .ref (h 10))]) G.1 G.2.1 dX5_averageWait_6 rfl hl (by decide) rfl (fun ls hl => ?_)
  refine lv_iconst (v := (0 : Int32)) G.1 G.2.1 dX5_averageWait_7 (by decide) ?_
  refine lv_istore_n (lv' := [(2, .int (0 : Int32)), (1, .int (0 : Int32)), (0, .ref (h 10))]) G.1 G.2.1 dX5_averageWait_8 rfl hl (by decide) rfl (fun ls hl => ?_)
  refine lv_iconst (v := (0 : Int32)) G.1 G.2.1 dX5_averageWait_9 (by decide) ?_
  refine lv_istore_n (lv' := [(3, .int (0 : Int32)), (2, .int (0 : Int32)), (1, .int (0 : Int32)), (0, .ref (h 10))]) G.1 G.2.1 dX5_averageWait_10 rfl hl (by decide) rfl (fun ls hl => ?_)
  have L11 : ∀ (fu : Nat) (y2 : Int32) (y3 : Int32) (y4 : Int32) (H : Heap) (locs : List Loc) (ls : Array Slot), lz3 (fX5_averageWait_b11 n s1) fu y2 y3 y4 = some (r, σ') → KW D (va_A (wM cy h σ) s.heap.size) s.heap (wM cy h s1) H locs → lv_has ls 4 [(3, .int y2), (2, .int y3), (1, .int y4), (0, .ref (h 10))] → W p l e (headSpec (ws_ yX5_averageWait cX5_averageWait 4 (some .double)) { frames := 1, cells := 0, slots := 0, locals := 22 }).room s m (([.ref (h 10)] : List Value).toArray) below meth c H locs 0 0 (MQ below (va_Qd (fun (r' : UInt64) (_ : Unit) => r' = r) (fun _ => KB D (va_A (wM cy h σ) s.heap.size) (wM cy h σ')) (va_A (wM cy h σ) s.heap.size)) (([.ref (h 10)] : List Value).toArray) s 0 0 (va_A (wM cy h σ) s.heap.size)) (F0 m 11 ls []) := by
    intro fu11
    induction fu11 with
    | zero => intro y2 y3 y4 H locs ls hf; cases hf
    | succ fu11 ih11 =>
      intro y2 y3 y4 H locs ls hf hW hl
      rw [lz3_s] at hf
      unfold fX5_averageWait_b11 at hf
      refine lv_iload_n G.1 G.2.1 dX5_averageWait_11 rfl (lv_at hl 0 rfl) ?_
      refine lv_aload_n G.1 G.2.1 dX5_averageWait_12 rfl (lv_at hl 3 rfl) ?_
      refine k_get G inlX5 hK hW 0 rfl rfl 0 (by decide) q_4_6 rfl dX5_averageWait_13 ?_
      refine lv_iconst (v := (1 : Int32)) G.1 G.2.1 dX5_averageWait_16 (by decide) ?_
      obtain ⟨v6, ev6, hf⟩ := ob hf
      refine k_ald G hK hW 1 rfl ev6 dX5_averageWait_17 ?_
      refine lv_icmp_ge (tgt := 61) G.1 G.2.1 dX5_averageWait_18 (by decide) (fun c18 => ?_) (fun c18 => ?_)
      · replace hf := it c18 hf
        refine lv_iload_n G.1 G.2.1 dX5_averageWait_61 rfl (lv_at hl 1 rfl) ?_
        refine lv_if_ne (tgt := 74) G.1 G.2.1 dX5_averageWait_62 (by decide) (fun c62 => ?_) (fun c62 => ?_)
        · replace hf := ie c62 hf
          refine lv_iload_n G.1 G.2.1 dX5_averageWait_74 rfl (lv_at hl 2 rfl) ?_
          refine lv_i2d G.1 G.2.1 dX5_averageWait_75 ?_
          refine lv_iload_n G.1 G.2.1 dX5_averageWait_76 rfl (lv_at hl 1 rfl) ?_
          refine lv_i2d G.1 G.2.1 dX5_averageWait_77 ?_
          obtain ⟨v7, ev7, hf⟩ := ob hf
          obtain ⟨zv7, ev7⟩ := od_s ev7
          refine lv_ddiv G.1 G.2.1 dX5_averageWait_78 zv7 ?_
          rw [← ev7]
          cases hf
          exact k_dret G hr hlk hK hW dX5_averageWait_79
        · replace hf := it c62 hf
          refine lv_aload_n G.1 G.2.1 dX5_averageWait_65 rfl (lv_at hl 3 rfl) ?_
          refine lv_iconst (v := (1 : Int32)) G.1 G.2.1 dX5_averageWait_66 (by decide) ?_
          obtain ⟨v8, s9, ev8, hf⟩ := ob2 hf
          refine kc_i (wr := []) (w := wM cy h s1) (w' := wM cy h s9) (n := 1) (As := [.int (1 : Int32)]) (C := RX5) G hK hA hW (mX5_raises l D cy h _ n s1 (1 : Int32) ev8) (gV q_8_6 q_8_7 q_8_8 q_1_5 q_8_9) ⟨rfl, rfl⟩ (by decide +kernel) ⟨Nat.le_of_ble_eq_true rfl, Nat.le_of_ble_eq_true rfl⟩ (va_recv hK.1 hW.1 (ci := 7) (q0 := 0) rfl rfl) rfl hl.1 rfl (Nat.le_of_ble_eq_true rfl) dX5_averageWait_67 ⟨Nat.le_of_ble_eq_true rfl, Nat.le_of_ble_eq_true rfl⟩ (fun H locs hW => ?_)
          refine lv_i2d G.1 G.2.1 dX5_averageWait_70 ?_
          refine lv_goto (tgt := 79) G.1 G.2.1 dX5_averageWait_71 (by decide) ?_
          cases hf
          exact k_dret G hr hlk hK hW dX5_averageWait_79
      · replace hf := ie c18 hf
        refine lv_aload_n G.1 G.2.1 dX5_averageWait_21 rfl (lv_at hl 3 rfl) ?_
        refine lv_iload_n G.1 G.2.1 dX5_averageWait_22 rfl (lv_at hl 0 rfl) ?_
        refine lv_bipush (v := (12 : Int32)) G.1 G.2.1 dX5_averageWait_23 (by decide) ?_
        obtain ⟨v10, ev10, hf⟩ := ob hf
        refine kc_i (wr := []) (w := wM cy h s1) (w' := wM cy h s1) (n := 2) (As := [.int y2, .int (12 : Int32)]) (C := RX5) G hK hA hW (mX5_of l D cy h _ n s1 y2 (12 : Int32) ev10) (gV q_8_22 q_8_23 q_9_0 q_1_5 q_9_1) ⟨rfl, rfl⟩ (by decide +kernel) ⟨Nat.le_of_ble_eq_true rfl, Nat.le_of_ble_eq_true rfl⟩ (va_recv hK.1 hW.1 (ci := 7) (q0 := 0) rfl rfl) rfl hl.1 rfl (Nat.le_of_ble_eq_true rfl) dX5_averageWait_25 ⟨Nat.le_of_ble_eq_true rfl, Nat.le_of_ble_eq_true rfl⟩ (fun H locs hW => ?_)
        refine lv_if_ge (tgt := 34) G.1 G.2.1 dX5_averageWait_28 (by decide) (fun c28 => ?_) (fun c28 => ?_)
        · replace hf := it c28 hf
          refine lv_iload_n G.1 G.2.1 dX5_averageWait_34 rfl (lv_at hl 2 rfl) ?_
          refine lv_aload_n G.1 G.2.1 dX5_averageWait_35 rfl (lv_at hl 3 rfl) ?_
          refine lv_iload_n G.1 G.2.1 dX5_averageWait_36 rfl (lv_at hl 0 rfl) ?_
          refine lv_bipush (v := (12 : Int32)) G.1 G.2.1 dX5_averageWait_37 (by decide) ?_
          obtain ⟨v11, ev11, hf⟩ := ob hf
          refine kc_i (wr := []) (w := wM cy h s1) (w' := wM cy h s1) (n := 2) (As := [.int y2, .int (12 : Int32)]) (C := RX5) G hK hA hW (mX5_of l D cy h _ n s1 y2 (12 : Int32) ev11) (gV q_8_22 q_8_23 q_9_0 q_1_5 q_9_1) ⟨rfl, rfl⟩ (by decide +kernel) ⟨Nat.le_of_ble_eq_true rfl, Nat.le_of_ble_eq_true rfl⟩ (va_recv hK.1 hW.1 (ci := 7) (q0 := 0) rfl rfl) rfl hl.1 rfl (Nat.le_of_ble_eq_true rfl) dX5_averageWait_39 ⟨Nat.le_of_ble_eq_true rfl, Nat.le_of_ble_eq_true rfl⟩ (fun H locs hW => ?_)
          refine lv_aload_n G.1 G.2.1 dX5_averageWait_42 rfl (lv_at hl 3 rfl) ?_
          refine lv_iload_n G.1 G.2.1 dX5_averageWait_43 rfl (lv_at hl 0 rfl) ?_
          refine lv_bipush (v := (8 : Int32)) G.1 G.2.1 dX5_averageWait_44 (by decide) ?_
          obtain ⟨v12, ev12, hf⟩ := ob hf
          refine kc_i (wr := []) (w := wM cy h s1) (w' := wM cy h s1) (n := 2) (As := [.int y2, .int (8 : Int32)]) (C := RX5) G hK hA hW (mX5_of l D cy h _ n s1 y2 (8 : Int32) ev12) (gV q_8_22 q_8_23 q_9_0 q_1_5 q_9_1) ⟨rfl, rfl⟩ (by decide +kernel) ⟨Nat.le_of_ble_eq_true rfl, Nat.le_of_ble_eq_true rfl⟩ (va_recv hK.1 hW.1 (ci := 7) (q0 := 0) rfl rfl) rfl hl.1 rfl (Nat.le_of_ble_eq_true rfl) dX5_averageWait_46 ⟨Nat.le_of_ble_eq_true rfl, Nat.le_of_ble_eq_true rfl⟩ (fun H locs hW => ?_)
          refine lv_isub G.1 G.2.1 dX5_averageWait_49 ?_
          refine lv_iadd G.1 G.2.1 dX5_averageWait_50 ?_
          refine lv_istore_n (lv' := [(1, .int (y4 + (v11 - v12))), (3, .int y2), (2, .int y3), (0, .ref (h 10))]) G.1 G.2.1 dX5_averageWait_51 rfl hl (by decide) rfl (fun ls hl => ?_)
          refine lv_iinc (v := (y3 + (1 : Int32))) (lv' := [(2, .int (y3 + (1 : Int32))), (1, .int (y4 + (v11 - v12))), (3, .int y2), (0, .ref (h 10))]) G.1 G.2.1 dX5_averageWait_52 hl (k := 2) rfl (congrArg (y3 + ·) (by decide)) (by decide) rfl (fun ls hl => ?_)
          refine lv_iinc (v := (y2 + (1 : Int32))) (lv' := [(3, .int (y2 + (1 : Int32))), (2, .int (y3 + (1 : Int32))), (1, .int (y4 + (v11 - v12))), (0, .ref (h 10))]) G.1 G.2.1 dX5_averageWait_55 hl (k := 2) rfl (congrArg (y2 + ·) (by decide)) (by decide) rfl (fun ls hl => ?_)
          refine lv_goto (tgt := 11) G.1 G.2.1 dX5_averageWait_58 (by decide) ?_
          exact ih11 _ _ _ _ _ _ hf hW (lv_sub hl [0, 1, 2, 3] rfl)
        · replace hf := ie c28 hf
          refine lv_goto (tgt := 55) G.1 G.2.1 dX5_averageWait_31 (by decide) ?_
          refine lv_iinc (v := (y2 + (1 : Int32))) (lv' := [(3, .int (y2 + (1 : Int32))), (2, .int y3), (1, .int y4), (0, .ref (h 10))]) G.1 G.2.1 dX5_averageWait_55 hl (k := 0) rfl (congrArg (y2 + ·) (by decide)) (by decide) rfl (fun ls hl => ?_)
          refine lv_goto (tgt := 11) G.1 G.2.1 dX5_averageWait_58 (by decide) ?_
          exact ih11 _ _ _ _ _ _ hf hW (lv_sub hl [0, 1, 2, 3] rfl)
  exact L11 _ _ _ _ _ _ _ hf hW (lv_sub hl [0, 1, 2, 3] rfl)

set_option maxHeartbeats 4000000 in
set_option maxRecDepth 100000 in
theorem mX5_slowdown (l : Launch) (D : va_G) (cy : ClassId) (h : Nat → Nat) (sz n : Nat) (σ : St) (x1 : Int32) {r : UInt32} {σ' : St} (hf : fX5_slowdown n σ x1 = some (r, σ')) : Mf l yX5_slowdown (ws_ yX5_slowdown cX5_slowdown 2 (some .float)) { frames := 2, cells := 0, slots := 0, locals := 43 } D cy (wM cy h σ) (wM cy h σ') sz [.ref (h 10), .int x1] r := by
  refine Met.ofW (cc := cX5_slowdown) (maxL := 2) (ret := (some .float)) (by decide) rfl ?_
  intro p e s m args below meth c s₁ B hml hv
  obtain ⟨rfl, hsz, hP, hK, hD0⟩ := hv
  subst hsz
  have hts := atoms_spec (ws := ws_ yX5_slowdown cX5_slowdown 2 (some .float)) B.pre
  have G : CallFix p m c cX5_slowdown 2 s _ wA RX5 := ⟨B.exec, B.bytes, hml, findClass_of_methodNamed B.named, fun w h => hts w (List.mem_cons_of_mem _ h)⟩
  have hr := B.returns
  have hlk := B.notSynchronized
  have hW : KW D (va_A (wM cy h σ) s.heap.size) s.heap (wM cy h σ) s.heap [] := ⟨hP, hD0.self, va_S.rf⟩
  have hA : ∀ q, s.heap.size ≤ q → va_A (wM cy h σ) s.heap.size q := fun q h => Or.inr h
  have hl := lv_entry ([.ref (h 10), .int x1]) (n := 2) (Nat.le_of_ble_eq_true rfl)
  rw [lg_entry_eq]
  generalize (lg_sl ([.ref (h 10), .int x1]) ++ List.replicate (2 - (lg_sl ([.ref (h 10), .int x1])).length) Slot.unset).toArray = ls at hl ⊢
  have hl : lv_has ls 2 [(0, .ref (h 10)), (1, .int x1)] := hl
  unfold fX5_slowdown at hf
  refine lv_aload_n G.1 G.2.1 dX5_slowdown_0 rfl (lv_at hl 0 rfl) ?_
  refine lv_iconst (v := (0 : Int32)) G.1 G.2.1 dX5_slowdown_1 (by decide) ?_
  obtain ⟨s1, es1, hf⟩ := ob hf
  refine k_put (w := wM cy h) G inlX5 tyX5 tyX5_ok nmX5 hK hW 0 6 rfl rfl 4 (by decide) q_8_2 rfl (by decide +kernel) (Nat.le_of_ble_eq_true rfl) rfl es1 dX5_slowdown_2 (fun H locs hW => ?_)
  refine lv_aload_n G.1 G.2.1 dX5_slowdown_5 rfl (lv_at hl 0 rfl) ?_
  refine lv_iload_n G.1 G.2.1 dX5_slowdown_6 rfl (lv_at hl 1 rfl) ?_
  obtain ⟨v2, ev2, hf⟩ := ob hf
  refine kc_i (wr := []) (w := wM cy h s1) (w' := wM cy h s1) (n := 1) (As := [.int x1]) (C := RX5) G hK hA hW (mX5_isJob l D cy h _ n s1 x1 ev2) (gV q_14_20 q_14_21 q_14_22 q_1_5 q_14_23) ⟨rfl, rfl⟩ (by decide +kernel) ⟨Nat.le_of_ble_eq_true rfl, Nat.le_of_ble_eq_true rfl⟩ (va_recv hK.1 hW.1 (ci := 7) (q0 := 0) rfl rfl) rfl hl.1 rfl (Nat.le_of_ble_eq_true rfl) dX5_slowdown_7 ⟨Nat.le_of_ble_eq_true rfl, Nat.le_of_ble_eq_true rfl⟩ (fun H locs hW => ?_)
  refine lv_if_ne (tgt := 20) G.1 G.2.1 dX5_slowdown_10 (by decide) (fun c10 => ?_) (fun c10 => ?_)
  · replace hf := ie c10 hf
    refine lv_aload_n G.1 G.2.1 dX5_slowdown_20 rfl (lv_at hl 0 rfl) ?_
    refine lv_iload_n G.1 G.2.1 dX5_slowdown_21 rfl (lv_at hl 1 rfl) ?_
    refine lv_iconst (v := (4 : Int32)) G.1 G.2.1 dX5_slowdown_22 (by decide) ?_
    obtain ⟨v3, ev3, hf⟩ := ob hf
    refine kc_i (wr := []) (w := wM cy h s1) (w' := wM cy h s1) (n := 2) (As := [.int x1, .int (4 : Int32)]) (C := RX5) G hK hA hW (mX5_of l D cy h _ n s1 x1 (4 : Int32) ev3) (gV q_8_22 q_8_23 q_9_0 q_1_5 q_9_1) ⟨rfl, rfl⟩ (by decide +kernel) ⟨Nat.le_of_ble_eq_true rfl, Nat.le_of_ble_eq_true rfl⟩ (va_recv hK.1 hW.1 (ci := 7) (q0 := 0) rfl rfl) rfl hl.1 rfl (Nat.le_of_ble_eq_true rfl) dX5_slowdown_23 ⟨Nat.le_of_ble_eq_true rfl, Nat.le_of_ble_eq_true rfl⟩ (fun H locs hW => ?_)
    refine lv_iconst (v := (2 : Int32)) G.1 G.2.1 dX5_slowdown_26 (by decide) ?_
    refine lv_icmp_eq (tgt := 39) G.1 G.2.1 dX5_slowdown_27 (by decide) (fun c27 => ?_) (fun c27 => ?_)
    · replace hf := it c27 hf
      refine lv_aload_n G.1 G.2.1 dX5_slowdown_39 rfl (lv_at hl 0 rfl) ?_
      refine lv_iload_n G.1 G.2.1 dX5_slowdown_40 rfl (lv_at hl 1 rfl) ?_
      refine lv_bipush (v := (10 : Int32)) G.1 G.2.1 dX5_slowdown_41 (by decide) ?_
      obtain ⟨v4, ev4, hf⟩ := ob hf
      refine kc_i (wr := []) (w := wM cy h s1) (w' := wM cy h s1) (n := 2) (As := [.int x1, .int (10 : Int32)]) (C := RX5) G hK hA hW (mX5_of l D cy h _ n s1 x1 (10 : Int32) ev4) (gV q_8_22 q_8_23 q_9_0 q_1_5 q_9_1) ⟨rfl, rfl⟩ (by decide +kernel) ⟨Nat.le_of_ble_eq_true rfl, Nat.le_of_ble_eq_true rfl⟩ (va_recv hK.1 hW.1 (ci := 7) (q0 := 0) rfl rfl) rfl hl.1 rfl (Nat.le_of_ble_eq_true rfl) dX5_slowdown_43 ⟨Nat.le_of_ble_eq_true rfl, Nat.le_of_ble_eq_true rfl⟩ (fun H locs hW => ?_)
      refine lv_aload_n G.1 G.2.1 dX5_slowdown_46 rfl (lv_at hl 0 rfl) ?_
      refine lv_iload_n G.1 G.2.1 dX5_slowdown_47 rfl (lv_at hl 1 rfl) ?_
      refine lv_bipush (v := (8 : Int32)) G.1 G.2.1 dX5_slowdown_48 (by decide) ?_
      obtain ⟨v5, ev5, hf⟩ := ob hf
      refine kc_i (wr := []) (w := wM cy h s1) (w' := wM cy h s1) (n := 2) (As := [.int x1, .int (8 : Int32)]) (C := RX5) G hK hA hW (mX5_of l D cy h _ n s1 x1 (8 : Int32) ev5) (gV q_8_22 q_8_23 q_9_0 q_1_5 q_9_1) ⟨rfl, rfl⟩ (by decide +kernel) ⟨Nat.le_of_ble_eq_true rfl, Nat.le_of_ble_eq_true rfl⟩ (va_recv hK.1 hW.1 (ci := 7) (q0 := 0) rfl rfl) rfl hl.1 rfl (Nat.le_of_ble_eq_true rfl) dX5_slowdown_50 ⟨Nat.le_of_ble_eq_true rfl, Nat.le_of_ble_eq_true rfl⟩ (fun H locs hW => ?_)
      refine lv_isub G.1 G.2.1 dX5_slowdown_53 ?_
      refine lv_i2f G.1 G.2.1 dX5_slowdown_54 ?_
      refine lv_aload_n G.1 G.2.1 dX5_slowdown_55 rfl (lv_at hl 0 rfl) ?_
      refine lv_iload_n G.1 G.2.1 dX5_slowdown_56 rfl (lv_at hl 1 rfl) ?_
      refine lv_bipush (v := (9 : Int32)) G.1 G.2.1 dX5_slowdown_57 (by decide) ?_
      obtain ⟨v6, ev6, hf⟩ := ob hf
      refine kc_i (wr := []) (w := wM cy h s1) (w' := wM cy h s1) (n := 2) (As := [.int x1, .int (9 : Int32)]) (C := RX5) G hK hA hW (mX5_of l D cy h _ n s1 x1 (9 : Int32) ev6) (gV q_8_22 q_8_23 q_9_0 q_1_5 q_9_1) ⟨rfl, rfl⟩ (by decide +kernel) ⟨Nat.le_of_ble_eq_true rfl, Nat.le_of_ble_eq_true rfl⟩ (va_recv hK.1 hW.1 (ci := 7) (q0 := 0) rfl rfl) rfl hl.1 rfl (Nat.le_of_ble_eq_true rfl) dX5_slowdown_59 ⟨Nat.le_of_ble_eq_true rfl, Nat.le_of_ble_eq_true rfl⟩ (fun H locs hW => ?_)
      refine lv_i2f G.1 G.2.1 dX5_slowdown_62 ?_
      obtain ⟨v7, ev7, hf⟩ := ob hf
      obtain ⟨zv7, ev7⟩ := og_s ev7
      refine lv_fdiv G.1 G.2.1 dX5_slowdown_63 zv7 ?_
      rw [← ev7]
      cases hf
      exact k_fret G hr hlk hK hW dX5_slowdown_64
    · replace hf := ie c27 hf
      refine lv_aload_n G.1 G.2.1 dX5_slowdown_30 rfl (lv_at hl 0 rfl) ?_
      refine lv_iconst (v := (2 : Int32)) G.1 G.2.1 dX5_slowdown_31 (by decide) ?_
      obtain ⟨v8, s9, ev8, hf⟩ := ob2 hf
      refine kc_i (wr := []) (w := wM cy h s1) (w' := wM cy h s9) (n := 1) (As := [.int (2 : Int32)]) (C := RX5) G hK hA hW (mX5_raises l D cy h _ n s1 (2 : Int32) ev8) (gV q_8_6 q_8_7 q_8_8 q_1_5 q_8_9) ⟨rfl, rfl⟩ (by decide +kernel) ⟨Nat.le_of_ble_eq_true rfl, Nat.le_of_ble_eq_true rfl⟩ (va_recv hK.1 hW.1 (ci := 7) (q0 := 0) rfl rfl) rfl hl.1 rfl (Nat.le_of_ble_eq_true rfl) dX5_slowdown_32 ⟨Nat.le_of_ble_eq_true rfl, Nat.le_of_ble_eq_true rfl⟩ (fun H locs hW => ?_)
      refine lv_i2f G.1 G.2.1 dX5_slowdown_35 ?_
      refine lv_goto (tgt := 64) G.1 G.2.1 dX5_slowdown_36 (by decide) ?_
      cases hf
      exact k_fret G hr hlk hK hW dX5_slowdown_64
  · replace hf := it c10 hf
    refine lv_aload_n G.1 G.2.1 dX5_slowdown_13 rfl (lv_at hl 0 rfl) ?_
    refine lv_iconst (v := (1 : Int32)) G.1 G.2.1 dX5_slowdown_14 (by decide) ?_
    obtain ⟨v10, s11, ev10, hf⟩ := ob2 hf
    refine kc_i (wr := []) (w := wM cy h s1) (w' := wM cy h s11) (n := 1) (As := [.int (1 : Int32)]) (C := RX5) G hK hA hW (mX5_raises l D cy h _ n s1 (1 : Int32) ev10) (gV q_8_6 q_8_7 q_8_8 q_1_5 q_8_9) ⟨rfl, rfl⟩ (by decide +kernel) ⟨Nat.le_of_ble_eq_true rfl, Nat.le_of_ble_eq_true rfl⟩ (va_recv hK.1 hW.1 (ci := 7) (q0 := 0) rfl rfl) rfl hl.1 rfl (Nat.le_of_ble_eq_true rfl) dX5_slowdown_15 ⟨Nat.le_of_ble_eq_true rfl, Nat.le_of_ble_eq_true rfl⟩ (fun H locs hW => ?_)
    refine lv_i2f G.1 G.2.1 dX5_slowdown_18 ?_
    cases hf
    exact k_fret G hr hlk hK hW dX5_slowdown_19

set_option maxHeartbeats 4000000 in
set_option maxRecDepth 100000 in
theorem mX5_usage (l : Launch) (D : va_G) (cy : ClassId) (h : Nat → Nat) (sz n : Nat) (σ : St) (x1 : Int32) {r : Int32} {σ' : St} (hf : fX5_usage n σ x1 = some (r, σ')) : Mi l yX5_usage (ws_ yX5_usage cX5_usage 2 (some .int)) { frames := 3, cells := 0, slots := 0, locals := 67 } D cy (wM cy h σ) (wM cy h σ') sz [.ref (h 10), .int x1] r := by
  refine Met.ofW (cc := cX5_usage) (maxL := 2) (ret := (some .int)) (by decide) rfl ?_
  intro p e s m args below meth c s₁ B hml hv
  obtain ⟨rfl, hsz, hP, hK, hD0⟩ := hv
  subst hsz
  have hts := atoms_spec (ws := ws_ yX5_usage cX5_usage 2 (some .int)) B.pre
  have G : CallFix p m c cX5_usage 2 s _ wA RX5 := ⟨B.exec, B.bytes, hml, findClass_of_methodNamed B.named, fun w h => hts w (List.mem_cons_of_mem _ h)⟩
  have hr := B.returns
  have hlk := B.notSynchronized
  have hW : KW D (va_A (wM cy h σ) s.heap.size) s.heap (wM cy h σ) s.heap [] := ⟨hP, hD0.self, va_S.rf⟩
  have hA : ∀ q, s.heap.size ≤ q → va_A (wM cy h σ) s.heap.size q := fun q h => Or.inr h
  have hl := lv_entry ([.ref (h 10), .int x1]) (n := 2) (Nat.le_of_ble_eq_true rfl)
  rw [lg_entry_eq]
  generalize (lg_sl ([.ref (h 10), .int x1]) ++ List.replicate (2 - (lg_sl ([.ref (h 10), .int x1])).length) Slot.unset).toArray = ls at hl ⊢
  have hl : lv_has ls 2 [(0, .ref (h 10)), (1, .int x1)] := hl
  unfold fX5_usage at hf
  refine lv_aload_n G.1 G.2.1 dX5_usage_0 rfl (lv_at hl 0 rfl) ?_
  refine lv_iconst (v := (0 : Int32)) G.1 G.2.1 dX5_usage_1 (by decide) ?_
  obtain ⟨s1, es1, hf⟩ := ob hf
  refine k_put (w := wM cy h) G inlX5 tyX5 tyX5_ok nmX5 hK hW 0 6 rfl rfl 4 (by decide) q_8_2 rfl (by decide +kernel) (Nat.le_of_ble_eq_true rfl) rfl es1 dX5_usage_2 (fun H locs hW => ?_)
  refine lv_iload_n G.1 G.2.1 dX5_usage_5 rfl (lv_at hl 1 rfl) ?_
  refine lv_iconst (v := (0 : Int32)) G.1 G.2.1 dX5_usage_6 (by decide) ?_
  refine lv_iconst (v := (3 : Int32)) G.1 G.2.1 dX5_usage_7 (by decide) ?_
  obtain ⟨v2, ev2, hf⟩ := ob hf
  refine kc_s (n := 3) (As := [.int x1, .int (0 : Int32), .int (3 : Int32)]) G hW (mX5_in l n x1 (0 : Int32) (3 : Int32) ev2) (gS q_8_3 q_8_4 q_1_5 q_8_5) ⟨rfl, rfl⟩ (by decide +kernel) ⟨Nat.le_of_ble_eq_true rfl, Nat.le_of_ble_eq_true rfl⟩ rfl hl.1 rfl (Nat.le_of_ble_eq_true rfl) dX5_usage_8 ⟨Nat.le_of_ble_eq_true rfl, Nat.le_of_ble_eq_true rfl⟩ (fun H locs hW => ?_)
  refine lv_if_eq (tgt := 22) G.1 G.2.1 dX5_usage_11 (by decide) (fun c11 => ?_) (fun c11 => ?_)
  · replace hf := it c11 hf
    refine lv_aload_n G.1 G.2.1 dX5_usage_22 rfl (lv_at hl 0 rfl) ?_
    refine lv_iconst (v := (1 : Int32)) G.1 G.2.1 dX5_usage_23 (by decide) ?_
    obtain ⟨v3, s4, ev3, hf⟩ := ob2 hf
    refine kc_i (wr := []) (w := wM cy h s1) (w' := wM cy h s4) (n := 1) (As := [.int (1 : Int32)]) (C := RX5) G hK hA hW (mX5_raises l D cy h _ n s1 (1 : Int32) ev3) (gV q_8_6 q_8_7 q_8_8 q_1_5 q_8_9) ⟨rfl, rfl⟩ (by decide +kernel) ⟨Nat.le_of_ble_eq_true rfl, Nat.le_of_ble_eq_true rfl⟩ (va_recv hK.1 hW.1 (ci := 7) (q0 := 0) rfl rfl) rfl hl.1 rfl (Nat.le_of_ble_eq_true rfl) dX5_usage_24 ⟨Nat.le_of_ble_eq_true rfl, Nat.le_of_ble_eq_true rfl⟩ (fun H locs hW => ?_)
    cases hf
    exact k_iret G hr hlk hK hW dX5_usage_27
  · replace hf := ie c11 hf
    refine lv_aload_n G.1 G.2.1 dX5_usage_14 rfl (lv_at hl 0 rfl) ?_
    refine lv_iload_n G.1 G.2.1 dX5_usage_15 rfl (lv_at hl 1 rfl) ?_
    obtain ⟨v5, ev5, hf⟩ := ob hf
    refine kc_i (wr := []) (w := wM cy h s1) (w' := wM cy h s1) (n := 1) (As := [.int x1]) (C := RX5) G hK hA hW (mX5_used l D cy h _ n s1 x1 ev5) (gV q_13_5 q_13_6 q_13_7 q_1_5 q_13_8) ⟨rfl, rfl⟩ (by decide +kernel) ⟨Nat.le_of_ble_eq_true rfl, Nat.le_of_ble_eq_true rfl⟩ (va_recv hK.1 hW.1 (ci := 7) (q0 := 0) rfl rfl) rfl hl.1 rfl (Nat.le_of_ble_eq_true rfl) dX5_usage_16 ⟨Nat.le_of_ble_eq_true rfl, Nat.le_of_ble_eq_true rfl⟩ (fun H locs hW => ?_)
    refine lv_goto (tgt := 27) G.1 G.2.1 dX5_usage_19 (by decide) ?_
    cases hf
    exact k_iret G hr hlk hK hW dX5_usage_27

set_option maxHeartbeats 4000000 in
set_option maxRecDepth 100000 in
theorem mX5_utilization (l : Launch) (D : va_G) (cy : ClassId) (h : Nat → Nat) (sz n : Nat) (σ : St) {r : UInt64} {σ' : St} (hf : fX5_utilization n σ = some (r, σ')) : Md l yX5_utilization (ws_ yX5_utilization cX5_utilization 3 (some .double)) { frames := 3, cells := 0, slots := 0, locals := 67 } D cy (wM cy h σ) (wM cy h σ') sz [.ref (h 10)] r := by
  refine Met.ofW (cc := cX5_utilization) (maxL := 3) (ret := (some .double)) (by decide) rfl ?_
  intro p e s m args below meth c s₁ B hml hv
  obtain ⟨rfl, hsz, hP, hK, hD0⟩ := hv
  subst hsz
  have hts := atoms_spec (ws := ws_ yX5_utilization cX5_utilization 3 (some .double)) B.pre
  have G : CallFix p m c cX5_utilization 3 s _ wA RX5 := ⟨B.exec, B.bytes, hml, findClass_of_methodNamed B.named, fun w h => hts w (List.mem_cons_of_mem _ h)⟩
  have hr := B.returns
  have hlk := B.notSynchronized
  have hW : KW D (va_A (wM cy h σ) s.heap.size) s.heap (wM cy h σ) s.heap [] := ⟨hP, hD0.self, va_S.rf⟩
  have hA : ∀ q, s.heap.size ≤ q → va_A (wM cy h σ) s.heap.size q := fun q h => Or.inr h
  have hl := lv_entry ([.ref (h 10)]) (n := 3) (Nat.le_of_ble_eq_true rfl)
  rw [lg_entry_eq]
  generalize (lg_sl ([.ref (h 10)]) ++ List.replicate (3 - (lg_sl ([.ref (h 10)])).length) Slot.unset).toArray = ls at hl ⊢
  have hl : lv_has ls 3 [(0, .ref (h 10))] := hl
  unfold fX5_utilization at hf
  refine lv_aload_n G.1 G.2.1 dX5_utilization_0 rfl (lv_at hl 0 rfl) ?_
  refine lv_iconst (v := (0 : Int32)) G.1 G.2.1 dX5_utilization_1 (by decide) ?_
  obtain ⟨s1, es1, hf⟩ := ob hf
  refine k_put (w := wM cy h) G inlX5 tyX5 tyX5_ok nmX5 hK hW 0 6 rfl rfl 4 (by decide) q_8_2 rfl (by decide +kernel) (Nat.le_of_ble_eq_true rfl) rfl es1 dX5_utilization_2 (fun H locs hW => ?_)
  refine lv_aload_n G.1 G.2.1 dX5_utilization_5 rfl (lv_at hl 0 rfl) ?_
  refine k_get G inlX5 hK hW 0 rfl rfl 0 (by decide) q_4_6 rfl dX5_utilization_6 ?_
  refine lv_iconst (v := (0 : Int32)) G.1 G.2.1 dX5_utilization_9 (by decide) ?_
  obtain ⟨v2, ev2, hf⟩ := ob hf
  refine k_ald G hK hW 1 rfl ev2 dX5_utilization_10 ?_
  refine lv_if_ne (tgt := 21) G.1 G.2.1 dX5_utilization_11 (by decide) (fun c11 => ?_) (fun c11 => ?_)
  · replace hf := ie c11 hf
    refine lv_iconst (v := (0 : Int32)) G.1 G.2.1 dX5_utilization_21 (by decide) ?_
    refine lv_istore_n (lv' := [(1, .int (0 : Int32)), (0, .ref (h 10))]) G.1 G.2.1 dX5_utilization_22 rfl hl (by decide) rfl (fun ls hl => ?_)
    refine lv_iconst (v := (0 : Int32)) G.1 G.2.1 dX5_utilization_23 (by decide) ?_
    refine lv_istore_n (lv' := [(2, .int (0 : Int32)), (1, .int (0 : Int32)), (0, .ref (h 10))]) G.1 G.2.1 dX5_utilization_24 rfl hl (by decide) rfl (fun ls hl => ?_)
    have L25 : ∀ (fu : Nat) (y3 : Int32) (y4 : Int32) (H : Heap) (locs : List Loc) (ls : Array Slot), lz2 (fX5_utilization_b25 n s1) fu y3 y4 = some (r, σ') → KW D (va_A (wM cy h σ) s.heap.size) s.heap (wM cy h s1) H locs → lv_has ls 3 [(2, .int y3), (1, .int y4), (0, .ref (h 10))] → W p l e (headSpec (ws_ yX5_utilization cX5_utilization 3 (some .double)) { frames := 3, cells := 0, slots := 0, locals := 67 }).room s m (([.ref (h 10)] : List Value).toArray) below meth c H locs 0 0 (MQ below (va_Qd (fun (r' : UInt64) (_ : Unit) => r' = r) (fun _ => KB D (va_A (wM cy h σ) s.heap.size) (wM cy h σ')) (va_A (wM cy h σ) s.heap.size)) (([.ref (h 10)] : List Value).toArray) s 0 0 (va_A (wM cy h σ) s.heap.size)) (F0 m 25 ls []) := by
      intro fu25
      induction fu25 with
      | zero => intro y3 y4 H locs ls hf; cases hf
      | succ fu25 ih25 =>
        intro y3 y4 H locs ls hf hW hl
        rw [lz2_s] at hf
        unfold fX5_utilization_b25 at hf
        refine lv_iload_n G.1 G.2.1 dX5_utilization_25 rfl (lv_at hl 0 rfl) ?_
        refine lv_iconst (v := (4 : Int32)) G.1 G.2.1 dX5_utilization_26 (by decide) ?_
        refine lv_icmp_ge (tgt := 44) G.1 G.2.1 dX5_utilization_27 (by decide) (fun c27 => ?_) (fun c27 => ?_)
        · replace hf := it c27 hf
          refine lv_iload_n G.1 G.2.1 dX5_utilization_44 rfl (lv_at hl 1 rfl) ?_
          refine lv_i2d G.1 G.2.1 dX5_utilization_45 ?_
          refine lv_bipush (v := (32 : Int32)) G.1 G.2.1 dX5_utilization_46 (by decide) ?_
          refine lv_aload_n G.1 G.2.1 dX5_utilization_48 rfl (lv_at hl 2 rfl) ?_
          refine k_get G inlX5 hK hW 0 rfl rfl 0 (by decide) q_4_6 rfl dX5_utilization_49 ?_
          refine lv_iconst (v := (0 : Int32)) G.1 G.2.1 dX5_utilization_52 (by decide) ?_
          obtain ⟨v6, ev6, hf⟩ := ob hf
          refine k_ald G hK hW 1 rfl ev6 dX5_utilization_53 ?_
          refine lv_imul G.1 G.2.1 dX5_utilization_54 ?_
          refine lv_i2d G.1 G.2.1 dX5_utilization_55 ?_
          obtain ⟨v7, ev7, hf⟩ := ob hf
          obtain ⟨zv7, ev7⟩ := od_s ev7
          refine lv_ddiv G.1 G.2.1 dX5_utilization_56 zv7 ?_
          rw [← ev7]
          cases hf
          exact k_dret G hr hlk hK hW dX5_utilization_57
        · replace hf := ie c27 hf
          refine lv_iload_n G.1 G.2.1 dX5_utilization_30 rfl (lv_at hl 1 rfl) ?_
          refine lv_aload_n G.1 G.2.1 dX5_utilization_31 rfl (lv_at hl 2 rfl) ?_
          refine lv_iload_n G.1 G.2.1 dX5_utilization_32 rfl (lv_at hl 0 rfl) ?_
          obtain ⟨v8, ev8, hf⟩ := ob hf
          refine kc_i (wr := []) (w := wM cy h s1) (w' := wM cy h s1) (n := 1) (As := [.int y3]) (C := RX5) G hK hA hW (mX5_used l D cy h _ n s1 y3 ev8) (gV q_13_5 q_13_6 q_13_7 q_1_5 q_13_8) ⟨rfl, rfl⟩ (by decide +kernel) ⟨Nat.le_of_ble_eq_true rfl, Nat.le_of_ble_eq_true rfl⟩ (va_recv hK.1 hW.1 (ci := 7) (q0 := 0) rfl rfl) rfl hl.1 rfl (Nat.le_of_ble_eq_true rfl) dX5_utilization_33 ⟨Nat.le_of_ble_eq_true rfl, Nat.le_of_ble_eq_true rfl⟩ (fun H locs hW => ?_)
          refine lv_iadd G.1 G.2.1 dX5_utilization_36 ?_
          refine lv_istore_n (lv' := [(1, .int (y4 + v8)), (2, .int y3), (0, .ref (h 10))]) G.1 G.2.1 dX5_utilization_37 rfl hl (by decide) rfl (fun ls hl => ?_)
          refine lv_iinc (v := (y3 + (1 : Int32))) (lv' := [(2, .int (y3 + (1 : Int32))), (1, .int (y4 + v8)), (0, .ref (h 10))]) G.1 G.2.1 dX5_utilization_38 hl (k := 1) rfl (congrArg (y3 + ·) (by decide)) (by decide) rfl (fun ls hl => ?_)
          refine lv_goto (tgt := 25) G.1 G.2.1 dX5_utilization_41 (by decide) ?_
          exact ih25 _ _ _ _ _ hf hW (lv_sub hl [0, 1, 2] rfl)
    exact L25 _ _ _ _ _ _ hf hW (lv_sub hl [0, 1, 2] rfl)
  · replace hf := it c11 hf
    refine lv_aload_n G.1 G.2.1 dX5_utilization_14 rfl (lv_at hl 0 rfl) ?_
    refine lv_iconst (v := (1 : Int32)) G.1 G.2.1 dX5_utilization_15 (by decide) ?_
    obtain ⟨v9, s10, ev9, hf⟩ := ob2 hf
    refine kc_i (wr := []) (w := wM cy h s1) (w' := wM cy h s10) (n := 1) (As := [.int (1 : Int32)]) (C := RX5) G hK hA hW (mX5_raises l D cy h _ n s1 (1 : Int32) ev9) (gV q_8_6 q_8_7 q_8_8 q_1_5 q_8_9) ⟨rfl, rfl⟩ (by decide +kernel) ⟨Nat.le_of_ble_eq_true rfl, Nat.le_of_ble_eq_true rfl⟩ (va_recv hK.1 hW.1 (ci := 7) (q0 := 0) rfl rfl) rfl hl.1 rfl (Nat.le_of_ble_eq_true rfl) dX5_utilization_16 ⟨Nat.le_of_ble_eq_true rfl, Nat.le_of_ble_eq_true rfl⟩ (fun H locs hW => ?_)
    refine lv_i2d G.1 G.2.1 dX5_utilization_19 ?_
    cases hf
    exact k_dret G hr hlk hK hW dX5_utilization_20

set_option maxHeartbeats 4000000 in
set_option maxRecDepth 100000 in
theorem mX5_makespan (l : Launch) (D : va_G) (cy : ClassId) (h : Nat → Nat) (sz n : Nat) (σ : St) {r : Int32} {σ' : St} (hf : fX5_makespan n σ = some (r, σ')) : Mi l yX5_makespan (ws_ yX5_makespan cX5_makespan 3 (some .int)) { frames := 2, cells := 0, slots := 0, locals := 43 } D cy (wM cy h σ) (wM cy h σ') sz [.ref (h 10)] r := by
  refine Met.ofW (cc := cX5_makespan) (maxL := 3) (ret := (some .int)) (by decide) rfl ?_
  intro p e s m args below meth c s₁ B hml hv
  obtain ⟨rfl, hsz, hP, hK, hD0⟩ := hv
  subst hsz
  have hts := atoms_spec (ws := ws_ yX5_makespan cX5_makespan 3 (some .int)) B.pre
  have G : CallFix p m c cX5_makespan 3 s _ wA RX5 := ⟨B.exec, B.bytes, hml, findClass_of_methodNamed B.named, fun w h => hts w (List.mem_cons_of_mem _ h)⟩
  have hr := B.returns
  have hlk := B.notSynchronized
  have hW : KW D (va_A (wM cy h σ) s.heap.size) s.heap (wM cy h σ) s.heap [] := ⟨hP, hD0.self, va_S.rf⟩
  have hA : ∀ q, s.heap.size ≤ q → va_A (wM cy h σ) s.heap.size q := fun q h => Or.inr h
  have hl := lv_entry ([.ref (h 10)]) (n := 3) (Nat.le_of_ble_eq_true rfl)
  rw [lg_entry_eq]
  generalize (lg_sl ([.ref (h 10)]) ++ List.replicate (3 - (lg_sl ([.ref (h 10)])).length) Slot.unset).toArray = ls at hl ⊢
  have hl : lv_has ls 3 [(0, .ref (h 10))] := hl
  unfold fX5_makespan at hf
  refine lv_aload_n G.1 G.2.1 dX5_makespan_0 rfl (lv_at hl 0 rfl) ?_
  refine lv_iconst (v := (0 : Int32)) G.1 G.2.1 dX5_makespan_1 (by decide) ?_
  obtain ⟨s1, es1, hf⟩ := ob hf
  refine k_put (w := wM cy h) G inlX5 tyX5 tyX5_ok nmX5 hK hW 0 6 rfl rfl 4 (by decide) q_8_2 rfl (by decide +kernel) (Nat.le_of_ble_eq_true rfl) rfl es1 dX5_makespan_2 (fun H locs hW => ?_)
  refine lv_aload_n G.1 G.2.1 dX5_makespan_5 rfl (lv_at hl 0 rfl) ?_
  refine k_get G inlX5 hK hW 0 rfl rfl 0 (by decide) q_4_6 rfl dX5_makespan_6 ?_
  refine lv_iconst (v := (0 : Int32)) G.1 G.2.1 dX5_makespan_9 (by decide) ?_
  obtain ⟨v2, ev2, hf⟩ := ob hf
  refine k_ald G hK hW 1 rfl ev2 dX5_makespan_10 ?_
  refine lv_istore_n (lv' := [(1, .int v2), (0, .ref (h 10))]) G.1 G.2.1 dX5_makespan_11 rfl hl (by decide) rfl (fun ls hl => ?_)
  refine lv_iconst (v := (0 : Int32)) G.1 G.2.1 dX5_makespan_12 (by decide) ?_
  refine lv_istore_n (lv' := [(2, .int (0 : Int32)), (1, .int v2), (0, .ref (h 10))]) G.1 G.2.1 dX5_makespan_13 rfl hl (by decide) rfl (fun ls hl => ?_)
  have L14 : ∀ (fu : Nat) (y3 : Int32) (y4 : Int32) (H : Heap) (locs : List Loc) (ls : Array Slot), lz2 (fX5_makespan_b14 n s1) fu y3 y4 = some (r, σ') → KW D (va_A (wM cy h σ) s.heap.size) s.heap (wM cy h s1) H locs → lv_has ls 3 [(2, .int y3), (1, .int y4), (0, .ref (h 10))] → W p l e (headSpec (ws_ yX5_makespan cX5_makespan 3 (some .int)) { frames := 2, cells := 0, slots := 0, locals := 43 }).room s m (([.ref (h 10)] : List Value).toArray) below meth c H locs 0 0 (MQ below (va_Qi (fun (r' : Int32) (_ : Unit) => r' = r) (fun _ => KB D (va_A (wM cy h σ) s.heap.size) (wM cy h σ')) (va_A (wM cy h σ) s.heap.size)) (([.ref (h 10)] : List Value).toArray) s 0 0 (va_A (wM cy h σ) s.heap.size)) (F0 m 14 ls []) := by
    intro fu14
    induction fu14 with
    | zero => intro y3 y4 H locs ls hf; cases hf
    | succ fu14 ih14 =>
      intro y3 y4 H locs ls hf hW hl
      rw [lz2_s] at hf
      unfold fX5_makespan_b14 at hf
      refine lv_iload_n G.1 G.2.1 dX5_makespan_14 rfl (lv_at hl 0 rfl) ?_
      refine lv_aload_n G.1 G.2.1 dX5_makespan_15 rfl (lv_at hl 2 rfl) ?_
      refine k_get G inlX5 hK hW 0 rfl rfl 0 (by decide) q_4_6 rfl dX5_makespan_16 ?_
      refine lv_iconst (v := (1 : Int32)) G.1 G.2.1 dX5_makespan_19 (by decide) ?_
      obtain ⟨v6, ev6, hf⟩ := ob hf
      refine k_ald G hK hW 1 rfl ev6 dX5_makespan_20 ?_
      refine lv_icmp_ge (tgt := 57) G.1 G.2.1 dX5_makespan_21 (by decide) (fun c21 => ?_) (fun c21 => ?_)
      · replace hf := it c21 hf
        refine lv_iload_n G.1 G.2.1 dX5_makespan_57 rfl (lv_at hl 1 rfl) ?_
        cases hf
        exact k_iret G hr hlk hK hW dX5_makespan_58
      · replace hf := ie c21 hf
        refine lv_aload_n G.1 G.2.1 dX5_makespan_24 rfl (lv_at hl 2 rfl) ?_
        refine lv_iload_n G.1 G.2.1 dX5_makespan_25 rfl (lv_at hl 0 rfl) ?_
        obtain ⟨v7, ev7, hf⟩ := ob hf
        refine kc_i (wr := []) (w := wM cy h s1) (w' := wM cy h s1) (n := 1) (As := [.int y3]) (C := RX5) G hK hA hW (mX5_isAllocated l D cy h _ n s1 y3 ev7) (gV q_9_11 q_9_12 q_9_13 q_1_5 q_9_14) ⟨rfl, rfl⟩ (by decide +kernel) ⟨Nat.le_of_ble_eq_true rfl, Nat.le_of_ble_eq_true rfl⟩ (va_recv hK.1 hW.1 (ci := 7) (q0 := 0) rfl rfl) rfl hl.1 rfl (Nat.le_of_ble_eq_true rfl) dX5_makespan_26 ⟨Nat.le_of_ble_eq_true rfl, Nat.le_of_ble_eq_true rfl⟩ (fun H locs hW => ?_)
        refine lv_if_eq (tgt := 51) G.1 G.2.1 dX5_makespan_29 (by decide) (fun c29 => ?_) (fun c29 => ?_)
        · replace hf := it c29 hf
          refine lv_iinc (v := (y3 + (1 : Int32))) (lv' := [(2, .int (y3 + (1 : Int32))), (1, .int y4), (0, .ref (h 10))]) G.1 G.2.1 dX5_makespan_51 hl (k := 0) rfl (congrArg (y3 + ·) (by decide)) (by decide) rfl (fun ls hl => ?_)
          refine lv_goto (tgt := 14) G.1 G.2.1 dX5_makespan_54 (by decide) ?_
          exact ih14 _ _ _ _ _ hf hW (lv_sub hl [0, 1, 2] rfl)
        · replace hf := ie c29 hf
          refine lv_iload_n G.1 G.2.1 dX5_makespan_32 rfl (lv_at hl 1 rfl) ?_
          refine lv_aload_n G.1 G.2.1 dX5_makespan_33 rfl (lv_at hl 2 rfl) ?_
          refine lv_iload_n G.1 G.2.1 dX5_makespan_34 rfl (lv_at hl 0 rfl) ?_
          refine lv_bipush (v := (6 : Int32)) G.1 G.2.1 dX5_makespan_35 (by decide) ?_
          obtain ⟨v8, ev8, hf⟩ := ob hf
          refine kc_i (wr := []) (w := wM cy h s1) (w' := wM cy h s1) (n := 2) (As := [.int y3, .int (6 : Int32)]) (C := RX5) G hK hA hW (mX5_of l D cy h _ n s1 y3 (6 : Int32) ev8) (gV q_8_22 q_8_23 q_9_0 q_1_5 q_9_1) ⟨rfl, rfl⟩ (by decide +kernel) ⟨Nat.le_of_ble_eq_true rfl, Nat.le_of_ble_eq_true rfl⟩ (va_recv hK.1 hW.1 (ci := 7) (q0 := 0) rfl rfl) rfl hl.1 rfl (Nat.le_of_ble_eq_true rfl) dX5_makespan_37 ⟨Nat.le_of_ble_eq_true rfl, Nat.le_of_ble_eq_true rfl⟩ (fun H locs hW => ?_)
          refine lv_aload_n G.1 G.2.1 dX5_makespan_40 rfl (lv_at hl 2 rfl) ?_
          refine lv_iload_n G.1 G.2.1 dX5_makespan_41 rfl (lv_at hl 0 rfl) ?_
          refine lv_iconst (v := (2 : Int32)) G.1 G.2.1 dX5_makespan_42 (by decide) ?_
          obtain ⟨v9, ev9, hf⟩ := ob hf
          refine kc_i (wr := []) (w := wM cy h s1) (w' := wM cy h s1) (n := 2) (As := [.int y3, .int (2 : Int32)]) (C := RX5) G hK hA hW (mX5_of l D cy h _ n s1 y3 (2 : Int32) ev9) (gV q_8_22 q_8_23 q_9_0 q_1_5 q_9_1) ⟨rfl, rfl⟩ (by decide +kernel) ⟨Nat.le_of_ble_eq_true rfl, Nat.le_of_ble_eq_true rfl⟩ (va_recv hK.1 hW.1 (ci := 7) (q0 := 0) rfl rfl) rfl hl.1 rfl (Nat.le_of_ble_eq_true rfl) dX5_makespan_43 ⟨Nat.le_of_ble_eq_true rfl, Nat.le_of_ble_eq_true rfl⟩ (fun H locs hW => ?_)
          refine lv_iadd G.1 G.2.1 dX5_makespan_46 ?_
          refine va_mmax G.1 G.2.1 (G.2.2.1.trans hl.1.symm) G.2.2.2.1 (G.2.2.2.2 _ q_26_15) (G.2.2.2.2 _ q_26_3) (G.2.2.2.2 _ q_26_4) (G.2.2.2.2 _ q_26_5) (Nat.le_of_ble_eq_true rfl) (Nat.le_of_ble_eq_true rfl) (Nat.le_of_ble_eq_true rfl) (Nat.le_of_ble_eq_true rfl) dX5_makespan_47 ?_
          refine lv_istore_n (lv' := [(1, .int (imax y4 (v8 + v9))), (2, .int y3), (0, .ref (h 10))]) G.1 G.2.1 dX5_makespan_50 rfl hl (by decide) rfl (fun ls hl => ?_)
          refine lv_iinc (v := (y3 + (1 : Int32))) (lv' := [(2, .int (y3 + (1 : Int32))), (1, .int (imax y4 (v8 + v9))), (0, .ref (h 10))]) G.1 G.2.1 dX5_makespan_51 hl (k := 1) rfl (congrArg (y3 + ·) (by decide)) (by decide) rfl (fun ls hl => ?_)
          refine lv_goto (tgt := 14) G.1 G.2.1 dX5_makespan_54 (by decide) ?_
          exact ih14 _ _ _ _ _ hf hW (lv_sub hl [0, 1, 2] rfl)
  exact L14 _ _ _ _ _ _ hf hW (lv_sub hl [0, 1, 2] rfl)

set_option maxHeartbeats 4000000 in
set_option maxRecDepth 100000 in
theorem mX5_owner (l : Launch) (D : va_G) (cy : ClassId) (h : Nat → Nat) (sz n : Nat) (σ : St) (x1 : Int32) (x2 : Int32) {r : Int32} (hf : fX5_owner n σ x1 x2 = some r) : Mi l yX5_owner (ws_ yX5_owner cX5_owner 4 (some .int)) { frames := 2, cells := 0, slots := 0, locals := 43 } D cy (wM cy h σ) (wM cy h σ) sz [.ref (h 10), .int x1, .int x2] r := by
  refine Met.ofW (cc := cX5_owner) (maxL := 4) (ret := (some .int)) (by decide) rfl ?_
  intro p e s m args below meth c s₁ B hml hv
  obtain ⟨rfl, hsz, hP, hK, hD0⟩ := hv
  subst hsz
  have hts := atoms_spec (ws := ws_ yX5_owner cX5_owner 4 (some .int)) B.pre
  have G : CallFix p m c cX5_owner 4 s _ wA RX5 := ⟨B.exec, B.bytes, hml, findClass_of_methodNamed B.named, fun w h => hts w (List.mem_cons_of_mem _ h)⟩
  have hr := B.returns
  have hlk := B.notSynchronized
  have hW : KW D (va_A (wM cy h σ) s.heap.size) s.heap (wM cy h σ) s.heap [] := ⟨hP, hD0.self, va_S.rf⟩
  have hA : ∀ q, s.heap.size ≤ q → va_A (wM cy h σ) s.heap.size q := fun q h => Or.inr h
  have hl := lv_entry ([.ref (h 10), .int x1, .int x2]) (n := 4) (Nat.le_of_ble_eq_true rfl)
  rw [lg_entry_eq]
  generalize (lg_sl ([.ref (h 10), .int x1, .int x2]) ++ List.replicate (4 - (lg_sl ([.ref (h 10), .int x1, .int x2])).length) Slot.unset).toArray = ls at hl ⊢
  have hl : lv_has ls 4 [(0, .ref (h 10)), (1, .int x1), (2, .int x2)] := hl
  unfold fX5_owner at hf
  refine lv_iconst (v := (0 : Int32)) G.1 G.2.1 dX5_owner_0 (by decide) ?_
  refine lv_istore_n (lv' := [(3, .int (0 : Int32)), (0, .ref (h 10)), (1, .int x1), (2, .int x2)]) G.1 G.2.1 dX5_owner_1 rfl hl (by decide) rfl (fun ls hl => ?_)
  have K2_81 : ∀ (y1 : Int32) (H : Heap) (locs : List Loc) (ls : Array Slot), fX5_owner_k2_81 n σ x1 x2 y1 = some r → KW D (va_A (wM cy h σ) s.heap.size) s.heap (wM cy h σ) H locs → lv_has ls 4 [(3, .int y1), (0, .ref (h 10)), (1, .int x1), (2, .int x2)] → W p l e (headSpec (ws_ yX5_owner cX5_owner 4 (some .int)) { frames := 2, cells := 0, slots := 0, locals := 43 }).room s m (([.ref (h 10), .int x1, .int x2] : List Value).toArray) below meth c H locs 0 0 (MQ below (va_Qi (fun (r' : Int32) (_ : Unit) => r' = r) (fun _ => KB D (va_A (wM cy h σ) s.heap.size) (wM cy h σ)) (va_A (wM cy h σ) s.heap.size)) (([.ref (h 10), .int x1, .int x2] : List Value).toArray) s 0 0 (va_A (wM cy h σ) s.heap.size)) (F0 m 81 ls []) := by
    intro y1 H locs ls hf hW hl
    unfold fX5_owner_k2_81 at hf
    refine lv_iconst (v := (0 : Int32)) G.1 G.2.1 dX5_owner_81 (by decide) ?_
    refine lv_istore_n (lv' := [(3, .int (0 : Int32)), (0, .ref (h 10)), (1, .int x1), (2, .int x2)]) G.1 G.2.1 dX5_owner_82 rfl hl (by decide) rfl (fun ls hl => ?_)
    have L83 : ∀ (fu : Nat) (y2 : Int32) (H : Heap) (locs : List Loc) (ls : Array Slot), lz1 (fX5_owner_b83 n σ x1 x2) fu y2 = some r → KW D (va_A (wM cy h σ) s.heap.size) s.heap (wM cy h σ) H locs → lv_has ls 4 [(3, .int y2), (0, .ref (h 10)), (1, .int x1), (2, .int x2)] → W p l e (headSpec (ws_ yX5_owner cX5_owner 4 (some .int)) { frames := 2, cells := 0, slots := 0, locals := 43 }).room s m (([.ref (h 10), .int x1, .int x2] : List Value).toArray) below meth c H locs 0 0 (MQ below (va_Qi (fun (r' : Int32) (_ : Unit) => r' = r) (fun _ => KB D (va_A (wM cy h σ) s.heap.size) (wM cy h σ)) (va_A (wM cy h σ) s.heap.size)) (([.ref (h 10), .int x1, .int x2] : List Value).toArray) s 0 0 (va_A (wM cy h σ) s.heap.size)) (F0 m 83 ls []) := by
      intro fu83
      induction fu83 with
      | zero => intro y2 H locs ls hf; cases hf
      | succ fu83 ih83 =>
        intro y2 H locs ls hf hW hl
        rw [lz1_s] at hf
        unfold fX5_owner_b83 at hf
        refine lv_iload_n G.1 G.2.1 dX5_owner_83 rfl (lv_at hl 0 rfl) ?_
        refine lv_aload_n G.1 G.2.1 dX5_owner_84 rfl (lv_at hl 1 rfl) ?_
        refine k_get G inlX5 hK hW 0 rfl rfl 0 (by decide) q_4_6 rfl dX5_owner_85 ?_
        refine lv_iconst (v := (2 : Int32)) G.1 G.2.1 dX5_owner_88 (by decide) ?_
        obtain ⟨v4, ev4, hf⟩ := ob hf
        refine k_ald G hK hW 1 rfl ev4 dX5_owner_89 ?_
        refine lv_icmp_ge (tgt := 155) G.1 G.2.1 dX5_owner_90 (by decide) (fun c90 => ?_) (fun c90 => ?_)
        · replace hf := it c90 hf
          refine lv_iconst (v := (-1 : Int32)) G.1 G.2.1 dX5_owner_155 (by decide) ?_
          cases hf
          exact k_iret G hr hlk hK hW dX5_owner_156
        · replace hf := ie c90 hf
          refine lv_iload_n G.1 G.2.1 dX5_owner_93 rfl (lv_at hl 3 rfl) ?_
          refine lv_aload_n G.1 G.2.1 dX5_owner_94 rfl (lv_at hl 1 rfl) ?_
          refine lv_iload_n G.1 G.2.1 dX5_owner_95 rfl (lv_at hl 0 rfl) ?_
          refine lv_iconst (v := (2 : Int32)) G.1 G.2.1 dX5_owner_96 (by decide) ?_
          obtain ⟨v5, ev5, hf⟩ := ob hf
          refine kc_i (wr := []) (w := wM cy h σ) (w' := wM cy h σ) (n := 2) (As := [.int y2, .int (2 : Int32)]) (C := RX5) G hK hA hW (mX5_reserved l D cy h _ n σ y2 (2 : Int32) ev5) (gV q_9_7 q_9_8 q_9_9 q_1_5 q_9_10) ⟨rfl, rfl⟩ (by decide +kernel) ⟨Nat.le_of_ble_eq_true rfl, Nat.le_of_ble_eq_true rfl⟩ (va_recv hK.1 hW.1 (ci := 7) (q0 := 0) rfl rfl) rfl hl.1 rfl (Nat.le_of_ble_eq_true rfl) dX5_owner_97 ⟨Nat.le_of_ble_eq_true rfl, Nat.le_of_ble_eq_true rfl⟩ (fun H locs hW => ?_)
          refine lv_icmp_lt (tgt := 149) G.1 G.2.1 dX5_owner_100 (by decide) (fun c100 => ?_) (fun c100 => ?_)
          · replace hf := it c100 hf
            refine lv_iinc (v := (y2 + (1 : Int32))) (lv' := [(3, .int (y2 + (1 : Int32))), (0, .ref (h 10)), (1, .int x1), (2, .int x2)]) G.1 G.2.1 dX5_owner_149 hl (k := 0) rfl (congrArg (y2 + ·) (by decide)) (by decide) rfl (fun ls hl => ?_)
            refine lv_goto (tgt := 83) G.1 G.2.1 dX5_owner_152 (by decide) ?_
            exact ih83 _ _ _ _ hf hW (lv_sub hl [0, 1, 2, 3] rfl)
          · replace hf := ie c100 hf
            refine lv_iload_n G.1 G.2.1 dX5_owner_103 rfl (lv_at hl 3 rfl) ?_
            refine lv_aload_n G.1 G.2.1 dX5_owner_104 rfl (lv_at hl 1 rfl) ?_
            refine lv_iload_n G.1 G.2.1 dX5_owner_105 rfl (lv_at hl 0 rfl) ?_
            refine lv_iconst (v := (2 : Int32)) G.1 G.2.1 dX5_owner_106 (by decide) ?_
            obtain ⟨v6, ev6, hf⟩ := ob hf
            refine kc_i (wr := []) (w := wM cy h σ) (w' := wM cy h σ) (n := 2) (As := [.int y2, .int (2 : Int32)]) (C := RX5) G hK hA hW (mX5_reserved l D cy h _ n σ y2 (2 : Int32) ev6) (gV q_9_7 q_9_8 q_9_9 q_1_5 q_9_10) ⟨rfl, rfl⟩ (by decide +kernel) ⟨Nat.le_of_ble_eq_true rfl, Nat.le_of_ble_eq_true rfl⟩ (va_recv hK.1 hW.1 (ci := 7) (q0 := 0) rfl rfl) rfl hl.1 rfl (Nat.le_of_ble_eq_true rfl) dX5_owner_107 ⟨Nat.le_of_ble_eq_true rfl, Nat.le_of_ble_eq_true rfl⟩ (fun H locs hW => ?_)
            refine lv_isub G.1 G.2.1 dX5_owner_110 ?_
            refine lv_aload_n G.1 G.2.1 dX5_owner_111 rfl (lv_at hl 1 rfl) ?_
            refine lv_iload_n G.1 G.2.1 dX5_owner_112 rfl (lv_at hl 0 rfl) ?_
            refine lv_iconst (v := (3 : Int32)) G.1 G.2.1 dX5_owner_113 (by decide) ?_
            obtain ⟨v7, ev7, hf⟩ := ob hf
            refine kc_i (wr := []) (w := wM cy h σ) (w' := wM cy h σ) (n := 2) (As := [.int y2, .int (3 : Int32)]) (C := RX5) G hK hA hW (mX5_reserved l D cy h _ n σ y2 (3 : Int32) ev7) (gV q_9_7 q_9_8 q_9_9 q_1_5 q_9_10) ⟨rfl, rfl⟩ (by decide +kernel) ⟨Nat.le_of_ble_eq_true rfl, Nat.le_of_ble_eq_true rfl⟩ (va_recv hK.1 hW.1 (ci := 7) (q0 := 0) rfl rfl) rfl hl.1 rfl (Nat.le_of_ble_eq_true rfl) dX5_owner_114 ⟨Nat.le_of_ble_eq_true rfl, Nat.le_of_ble_eq_true rfl⟩ (fun H locs hW => ?_)
            refine lv_icmp_ge (tgt := 149) G.1 G.2.1 dX5_owner_117 (by decide) (fun c117 => ?_) (fun c117 => ?_)
            · replace hf := it c117 hf
              refine lv_iinc (v := (y2 + (1 : Int32))) (lv' := [(3, .int (y2 + (1 : Int32))), (0, .ref (h 10)), (1, .int x1), (2, .int x2)]) G.1 G.2.1 dX5_owner_149 hl (k := 0) rfl (congrArg (y2 + ·) (by decide)) (by decide) rfl (fun ls hl => ?_)
              refine lv_goto (tgt := 83) G.1 G.2.1 dX5_owner_152 (by decide) ?_
              exact ih83 _ _ _ _ hf hW (lv_sub hl [0, 1, 2, 3] rfl)
            · replace hf := ie c117 hf
              refine lv_iload_n G.1 G.2.1 dX5_owner_120 rfl (lv_at hl 2 rfl) ?_
              refine lv_aload_n G.1 G.2.1 dX5_owner_121 rfl (lv_at hl 1 rfl) ?_
              refine lv_iload_n G.1 G.2.1 dX5_owner_122 rfl (lv_at hl 0 rfl) ?_
              refine lv_iconst (v := (0 : Int32)) G.1 G.2.1 dX5_owner_123 (by decide) ?_
              obtain ⟨v8, ev8, hf⟩ := ob hf
              refine kc_i (wr := []) (w := wM cy h σ) (w' := wM cy h σ) (n := 2) (As := [.int y2, .int (0 : Int32)]) (C := RX5) G hK hA hW (mX5_reserved l D cy h _ n σ y2 (0 : Int32) ev8) (gV q_9_7 q_9_8 q_9_9 q_1_5 q_9_10) ⟨rfl, rfl⟩ (by decide +kernel) ⟨Nat.le_of_ble_eq_true rfl, Nat.le_of_ble_eq_true rfl⟩ (va_recv hK.1 hW.1 (ci := 7) (q0 := 0) rfl rfl) rfl hl.1 rfl (Nat.le_of_ble_eq_true rfl) dX5_owner_124 ⟨Nat.le_of_ble_eq_true rfl, Nat.le_of_ble_eq_true rfl⟩ (fun H locs hW => ?_)
              refine lv_ishr G.1 G.2.1 dX5_owner_127 ?_
              refine lv_aload_n G.1 G.2.1 dX5_owner_128 rfl (lv_at hl 1 rfl) ?_
              refine lv_iload_n G.1 G.2.1 dX5_owner_129 rfl (lv_at hl 0 rfl) ?_
              refine lv_iconst (v := (1 : Int32)) G.1 G.2.1 dX5_owner_130 (by decide) ?_
              obtain ⟨v9, ev9, hf⟩ := ob hf
              refine kc_i (wr := []) (w := wM cy h σ) (w' := wM cy h σ) (n := 2) (As := [.int y2, .int (1 : Int32)]) (C := RX5) G hK hA hW (mX5_reserved l D cy h _ n σ y2 (1 : Int32) ev9) (gV q_9_7 q_9_8 q_9_9 q_1_5 q_9_10) ⟨rfl, rfl⟩ (by decide +kernel) ⟨Nat.le_of_ble_eq_true rfl, Nat.le_of_ble_eq_true rfl⟩ (va_recv hK.1 hW.1 (ci := 7) (q0 := 0) rfl rfl) rfl hl.1 rfl (Nat.le_of_ble_eq_true rfl) dX5_owner_131 ⟨Nat.le_of_ble_eq_true rfl, Nat.le_of_ble_eq_true rfl⟩ (fun H locs hW => ?_)
              refine lv_aload_n G.1 G.2.1 dX5_owner_134 rfl (lv_at hl 1 rfl) ?_
              refine lv_iload_n G.1 G.2.1 dX5_owner_135 rfl (lv_at hl 0 rfl) ?_
              refine lv_iconst (v := (0 : Int32)) G.1 G.2.1 dX5_owner_136 (by decide) ?_
              obtain ⟨v10, ev10, hf⟩ := ob hf
              refine kc_i (wr := []) (w := wM cy h σ) (w' := wM cy h σ) (n := 2) (As := [.int y2, .int (0 : Int32)]) (C := RX5) G hK hA hW (mX5_reserved l D cy h _ n σ y2 (0 : Int32) ev10) (gV q_9_7 q_9_8 q_9_9 q_1_5 q_9_10) ⟨rfl, rfl⟩ (by decide +kernel) ⟨Nat.le_of_ble_eq_true rfl, Nat.le_of_ble_eq_true rfl⟩ (va_recv hK.1 hW.1 (ci := 7) (q0 := 0) rfl rfl) rfl hl.1 rfl (Nat.le_of_ble_eq_true rfl) dX5_owner_137 ⟨Nat.le_of_ble_eq_true rfl, Nat.le_of_ble_eq_true rfl⟩ (fun H locs hW => ?_)
              refine lv_ishr G.1 G.2.1 dX5_owner_140 ?_
              refine lv_icmp_ne (tgt := 149) G.1 G.2.1 dX5_owner_141 (by decide) (fun c141 => ?_) (fun c141 => ?_)
              · replace hf := ie c141 hf
                refine lv_iinc (v := (y2 + (1 : Int32))) (lv' := [(3, .int (y2 + (1 : Int32))), (0, .ref (h 10)), (1, .int x1), (2, .int x2)]) G.1 G.2.1 dX5_owner_149 hl (k := 0) rfl (congrArg (y2 + ·) (by decide)) (by decide) rfl (fun ls hl => ?_)
                refine lv_goto (tgt := 83) G.1 G.2.1 dX5_owner_152 (by decide) ?_
                exact ih83 _ _ _ _ hf hW (lv_sub hl [0, 1, 2, 3] rfl)
              · replace hf := it c141 hf
                refine lv_bipush (v := (100 : Int32)) G.1 G.2.1 dX5_owner_144 (by decide) ?_
                refine lv_iload_n G.1 G.2.1 dX5_owner_146 rfl (lv_at hl 0 rfl) ?_
                refine lv_iadd G.1 G.2.1 dX5_owner_147 ?_
                cases hf
                exact k_iret G hr hlk hK hW dX5_owner_148
    exact L83 _ _ _ _ _ hf hW (lv_sub hl [0, 1, 2, 3] rfl)
  have L2 : ∀ (fu : Nat) (y11 : Int32) (H : Heap) (locs : List Loc) (ls : Array Slot), lz1 (fX5_owner_b2 n σ x1 x2) fu y11 = some r → KW D (va_A (wM cy h σ) s.heap.size) s.heap (wM cy h σ) H locs → lv_has ls 4 [(3, .int y11), (0, .ref (h 10)), (1, .int x1), (2, .int x2)] → W p l e (headSpec (ws_ yX5_owner cX5_owner 4 (some .int)) { frames := 2, cells := 0, slots := 0, locals := 43 }).room s m (([.ref (h 10), .int x1, .int x2] : List Value).toArray) below meth c H locs 0 0 (MQ below (va_Qi (fun (r' : Int32) (_ : Unit) => r' = r) (fun _ => KB D (va_A (wM cy h σ) s.heap.size) (wM cy h σ)) (va_A (wM cy h σ) s.heap.size)) (([.ref (h 10), .int x1, .int x2] : List Value).toArray) s 0 0 (va_A (wM cy h σ) s.heap.size)) (F0 m 2 ls []) := by
    intro fu2
    induction fu2 with
    | zero => intro y11 H locs ls hf; cases hf
    | succ fu2 ih2 =>
      intro y11 H locs ls hf hW hl
      rw [lz1_s] at hf
      unfold fX5_owner_b2 at hf
      refine lv_iload_n G.1 G.2.1 dX5_owner_2 rfl (lv_at hl 0 rfl) ?_
      refine lv_aload_n G.1 G.2.1 dX5_owner_3 rfl (lv_at hl 1 rfl) ?_
      refine k_get G inlX5 hK hW 0 rfl rfl 0 (by decide) q_4_6 rfl dX5_owner_4 ?_
      refine lv_iconst (v := (1 : Int32)) G.1 G.2.1 dX5_owner_7 (by decide) ?_
      obtain ⟨v13, ev13, hf⟩ := ob hf
      refine k_ald G hK hW 1 rfl ev13 dX5_owner_8 ?_
      refine lv_icmp_ge (tgt := 81) G.1 G.2.1 dX5_owner_9 (by decide) (fun c9 => ?_) (fun c9 => ?_)
      · replace hf := it c9 hf
        exact K2_81 _ _ _ _ hf hW (lv_sub hl [0, 1, 2, 3] rfl)
      · replace hf := ie c9 hf
        refine lv_aload_n G.1 G.2.1 dX5_owner_12 rfl (lv_at hl 1 rfl) ?_
        refine lv_iload_n G.1 G.2.1 dX5_owner_13 rfl (lv_at hl 0 rfl) ?_
        obtain ⟨v14, ev14, hf⟩ := ob hf
        refine kc_i (wr := []) (w := wM cy h σ) (w' := wM cy h σ) (n := 1) (As := [.int y11]) (C := RX5) G hK hA hW (mX5_isAllocated l D cy h _ n σ y11 ev14) (gV q_9_11 q_9_12 q_9_13 q_1_5 q_9_14) ⟨rfl, rfl⟩ (by decide +kernel) ⟨Nat.le_of_ble_eq_true rfl, Nat.le_of_ble_eq_true rfl⟩ (va_recv hK.1 hW.1 (ci := 7) (q0 := 0) rfl rfl) rfl hl.1 rfl (Nat.le_of_ble_eq_true rfl) dX5_owner_14 ⟨Nat.le_of_ble_eq_true rfl, Nat.le_of_ble_eq_true rfl⟩ (fun H locs hW => ?_)
        refine lv_if_eq (tgt := 75) G.1 G.2.1 dX5_owner_17 (by decide) (fun c17 => ?_) (fun c17 => ?_)
        · replace hf := it c17 hf
          refine lv_iinc (v := (y11 + (1 : Int32))) (lv' := [(3, .int (y11 + (1 : Int32))), (0, .ref (h 10)), (1, .int x1), (2, .int x2)]) G.1 G.2.1 dX5_owner_75 hl (k := 0) rfl (congrArg (y11 + ·) (by decide)) (by decide) rfl (fun ls hl => ?_)
          refine lv_goto (tgt := 2) G.1 G.2.1 dX5_owner_78 (by decide) ?_
          exact ih2 _ _ _ _ hf hW (lv_sub hl [0, 1, 2, 3] rfl)
        · replace hf := ie c17 hf
          refine lv_iload_n G.1 G.2.1 dX5_owner_20 rfl (lv_at hl 3 rfl) ?_
          refine lv_aload_n G.1 G.2.1 dX5_owner_21 rfl (lv_at hl 1 rfl) ?_
          refine lv_iload_n G.1 G.2.1 dX5_owner_22 rfl (lv_at hl 0 rfl) ?_
          refine lv_bipush (v := (6 : Int32)) G.1 G.2.1 dX5_owner_23 (by decide) ?_
          obtain ⟨v15, ev15, hf⟩ := ob hf
          refine kc_i (wr := []) (w := wM cy h σ) (w' := wM cy h σ) (n := 2) (As := [.int y11, .int (6 : Int32)]) (C := RX5) G hK hA hW (mX5_of l D cy h _ n σ y11 (6 : Int32) ev15) (gV q_8_22 q_8_23 q_9_0 q_1_5 q_9_1) ⟨rfl, rfl⟩ (by decide +kernel) ⟨Nat.le_of_ble_eq_true rfl, Nat.le_of_ble_eq_true rfl⟩ (va_recv hK.1 hW.1 (ci := 7) (q0 := 0) rfl rfl) rfl hl.1 rfl (Nat.le_of_ble_eq_true rfl) dX5_owner_25 ⟨Nat.le_of_ble_eq_true rfl, Nat.le_of_ble_eq_true rfl⟩ (fun H locs hW => ?_)
          refine lv_icmp_lt (tgt := 75) G.1 G.2.1 dX5_owner_28 (by decide) (fun c28 => ?_) (fun c28 => ?_)
          · replace hf := it c28 hf
            refine lv_iinc (v := (y11 + (1 : Int32))) (lv' := [(3, .int (y11 + (1 : Int32))), (0, .ref (h 10)), (1, .int x1), (2, .int x2)]) G.1 G.2.1 dX5_owner_75 hl (k := 0) rfl (congrArg (y11 + ·) (by decide)) (by decide) rfl (fun ls hl => ?_)
            refine lv_goto (tgt := 2) G.1 G.2.1 dX5_owner_78 (by decide) ?_
            exact ih2 _ _ _ _ hf hW (lv_sub hl [0, 1, 2, 3] rfl)
          · replace hf := ie c28 hf
            refine lv_iload_n G.1 G.2.1 dX5_owner_31 rfl (lv_at hl 3 rfl) ?_
            refine lv_aload_n G.1 G.2.1 dX5_owner_32 rfl (lv_at hl 1 rfl) ?_
            refine lv_iload_n G.1 G.2.1 dX5_owner_33 rfl (lv_at hl 0 rfl) ?_
            refine lv_bipush (v := (6 : Int32)) G.1 G.2.1 dX5_owner_34 (by decide) ?_
            obtain ⟨v16, ev16, hf⟩ := ob hf
            refine kc_i (wr := []) (w := wM cy h σ) (w' := wM cy h σ) (n := 2) (As := [.int y11, .int (6 : Int32)]) (C := RX5) G hK hA hW (mX5_of l D cy h _ n σ y11 (6 : Int32) ev16) (gV q_8_22 q_8_23 q_9_0 q_1_5 q_9_1) ⟨rfl, rfl⟩ (by decide +kernel) ⟨Nat.le_of_ble_eq_true rfl, Nat.le_of_ble_eq_true rfl⟩ (va_recv hK.1 hW.1 (ci := 7) (q0 := 0) rfl rfl) rfl hl.1 rfl (Nat.le_of_ble_eq_true rfl) dX5_owner_36 ⟨Nat.le_of_ble_eq_true rfl, Nat.le_of_ble_eq_true rfl⟩ (fun H locs hW => ?_)
            refine lv_isub G.1 G.2.1 dX5_owner_39 ?_
            refine lv_aload_n G.1 G.2.1 dX5_owner_40 rfl (lv_at hl 1 rfl) ?_
            refine lv_iload_n G.1 G.2.1 dX5_owner_41 rfl (lv_at hl 0 rfl) ?_
            refine lv_iconst (v := (2 : Int32)) G.1 G.2.1 dX5_owner_42 (by decide) ?_
            obtain ⟨v17, ev17, hf⟩ := ob hf
            refine kc_i (wr := []) (w := wM cy h σ) (w' := wM cy h σ) (n := 2) (As := [.int y11, .int (2 : Int32)]) (C := RX5) G hK hA hW (mX5_of l D cy h _ n σ y11 (2 : Int32) ev17) (gV q_8_22 q_8_23 q_9_0 q_1_5 q_9_1) ⟨rfl, rfl⟩ (by decide +kernel) ⟨Nat.le_of_ble_eq_true rfl, Nat.le_of_ble_eq_true rfl⟩ (va_recv hK.1 hW.1 (ci := 7) (q0 := 0) rfl rfl) rfl hl.1 rfl (Nat.le_of_ble_eq_true rfl) dX5_owner_43 ⟨Nat.le_of_ble_eq_true rfl, Nat.le_of_ble_eq_true rfl⟩ (fun H locs hW => ?_)
            refine lv_icmp_ge (tgt := 75) G.1 G.2.1 dX5_owner_46 (by decide) (fun c46 => ?_) (fun c46 => ?_)
            · replace hf := it c46 hf
              refine lv_iinc (v := (y11 + (1 : Int32))) (lv' := [(3, .int (y11 + (1 : Int32))), (0, .ref (h 10)), (1, .int x1), (2, .int x2)]) G.1 G.2.1 dX5_owner_75 hl (k := 0) rfl (congrArg (y11 + ·) (by decide)) (by decide) rfl (fun ls hl => ?_)
              refine lv_goto (tgt := 2) G.1 G.2.1 dX5_owner_78 (by decide) ?_
              exact ih2 _ _ _ _ hf hW (lv_sub hl [0, 1, 2, 3] rfl)
            · replace hf := ie c46 hf
              refine lv_iload_n G.1 G.2.1 dX5_owner_49 rfl (lv_at hl 2 rfl) ?_
              refine lv_aload_n G.1 G.2.1 dX5_owner_50 rfl (lv_at hl 1 rfl) ?_
              refine lv_iload_n G.1 G.2.1 dX5_owner_51 rfl (lv_at hl 0 rfl) ?_
              refine lv_iconst (v := (1 : Int32)) G.1 G.2.1 dX5_owner_52 (by decide) ?_
              obtain ⟨v18, ev18, hf⟩ := ob hf
              refine kc_i (wr := []) (w := wM cy h σ) (w' := wM cy h σ) (n := 2) (As := [.int y11, .int (1 : Int32)]) (C := RX5) G hK hA hW (mX5_of l D cy h _ n σ y11 (1 : Int32) ev18) (gV q_8_22 q_8_23 q_9_0 q_1_5 q_9_1) ⟨rfl, rfl⟩ (by decide +kernel) ⟨Nat.le_of_ble_eq_true rfl, Nat.le_of_ble_eq_true rfl⟩ (va_recv hK.1 hW.1 (ci := 7) (q0 := 0) rfl rfl) rfl hl.1 rfl (Nat.le_of_ble_eq_true rfl) dX5_owner_53 ⟨Nat.le_of_ble_eq_true rfl, Nat.le_of_ble_eq_true rfl⟩ (fun H locs hW => ?_)
              refine lv_ishr G.1 G.2.1 dX5_owner_56 ?_
              refine lv_aload_n G.1 G.2.1 dX5_owner_57 rfl (lv_at hl 1 rfl) ?_
              refine lv_iload_n G.1 G.2.1 dX5_owner_58 rfl (lv_at hl 0 rfl) ?_
              refine lv_iconst (v := (5 : Int32)) G.1 G.2.1 dX5_owner_59 (by decide) ?_
              obtain ⟨v19, ev19, hf⟩ := ob hf
              refine kc_i (wr := []) (w := wM cy h σ) (w' := wM cy h σ) (n := 2) (As := [.int y11, .int (5 : Int32)]) (C := RX5) G hK hA hW (mX5_of l D cy h _ n σ y11 (5 : Int32) ev19) (gV q_8_22 q_8_23 q_9_0 q_1_5 q_9_1) ⟨rfl, rfl⟩ (by decide +kernel) ⟨Nat.le_of_ble_eq_true rfl, Nat.le_of_ble_eq_true rfl⟩ (va_recv hK.1 hW.1 (ci := 7) (q0 := 0) rfl rfl) rfl hl.1 rfl (Nat.le_of_ble_eq_true rfl) dX5_owner_60 ⟨Nat.le_of_ble_eq_true rfl, Nat.le_of_ble_eq_true rfl⟩ (fun H locs hW => ?_)
              refine lv_aload_n G.1 G.2.1 dX5_owner_63 rfl (lv_at hl 1 rfl) ?_
              refine lv_iload_n G.1 G.2.1 dX5_owner_64 rfl (lv_at hl 0 rfl) ?_
              refine lv_iconst (v := (1 : Int32)) G.1 G.2.1 dX5_owner_65 (by decide) ?_
              obtain ⟨v20, ev20, hf⟩ := ob hf
              refine kc_i (wr := []) (w := wM cy h σ) (w' := wM cy h σ) (n := 2) (As := [.int y11, .int (1 : Int32)]) (C := RX5) G hK hA hW (mX5_of l D cy h _ n σ y11 (1 : Int32) ev20) (gV q_8_22 q_8_23 q_9_0 q_1_5 q_9_1) ⟨rfl, rfl⟩ (by decide +kernel) ⟨Nat.le_of_ble_eq_true rfl, Nat.le_of_ble_eq_true rfl⟩ (va_recv hK.1 hW.1 (ci := 7) (q0 := 0) rfl rfl) rfl hl.1 rfl (Nat.le_of_ble_eq_true rfl) dX5_owner_66 ⟨Nat.le_of_ble_eq_true rfl, Nat.le_of_ble_eq_true rfl⟩ (fun H locs hW => ?_)
              refine lv_ishr G.1 G.2.1 dX5_owner_69 ?_
              refine lv_icmp_ne (tgt := 75) G.1 G.2.1 dX5_owner_70 (by decide) (fun c70 => ?_) (fun c70 => ?_)
              · replace hf := ie c70 hf
                refine lv_iinc (v := (y11 + (1 : Int32))) (lv' := [(3, .int (y11 + (1 : Int32))), (0, .ref (h 10)), (1, .int x1), (2, .int x2)]) G.1 G.2.1 dX5_owner_75 hl (k := 0) rfl (congrArg (y11 + ·) (by decide)) (by decide) rfl (fun ls hl => ?_)
                refine lv_goto (tgt := 2) G.1 G.2.1 dX5_owner_78 (by decide) ?_
                exact ih2 _ _ _ _ hf hW (lv_sub hl [0, 1, 2, 3] rfl)
              · replace hf := it c70 hf
                refine lv_iload_n G.1 G.2.1 dX5_owner_73 rfl (lv_at hl 0 rfl) ?_
                cases hf
                exact k_iret G hr hlk hK hW dX5_owner_74
  exact L2 _ _ _ _ _ hf hW (lv_sub hl [0, 1, 2, 3] rfl)

set_option maxHeartbeats 4000000 in
set_option maxRecDepth 100000 in
theorem mX5_ownerAt (l : Launch) (D : va_G) (cy : ClassId) (h : Nat → Nat) (sz n : Nat) (σ : St) (x1 : Int32) (x2 : Int32) {r : Int32} {σ' : St} (hf : fX5_ownerAt n σ x1 x2 = some (r, σ')) : Mi l yX5_ownerAt (ws_ yX5_ownerAt cX5_ownerAt 3 (some .int)) { frames := 3, cells := 0, slots := 0, locals := 66 } D cy (wM cy h σ) (wM cy h σ') sz [.ref (h 10), .int x1, .int x2] r := by
  refine Met.ofW (cc := cX5_ownerAt) (maxL := 3) (ret := (some .int)) (by decide) rfl ?_
  intro p e s m args below meth c s₁ B hml hv
  obtain ⟨rfl, hsz, hP, hK, hD0⟩ := hv
  subst hsz
  have hts := atoms_spec (ws := ws_ yX5_ownerAt cX5_ownerAt 3 (some .int)) B.pre
  have G : CallFix p m c cX5_ownerAt 3 s _ wA RX5 := ⟨B.exec, B.bytes, hml, findClass_of_methodNamed B.named, fun w h => hts w (List.mem_cons_of_mem _ h)⟩
  have hr := B.returns
  have hlk := B.notSynchronized
  have hW : KW D (va_A (wM cy h σ) s.heap.size) s.heap (wM cy h σ) s.heap [] := ⟨hP, hD0.self, va_S.rf⟩
  have hA : ∀ q, s.heap.size ≤ q → va_A (wM cy h σ) s.heap.size q := fun q h => Or.inr h
  have hl := lv_entry ([.ref (h 10), .int x1, .int x2]) (n := 3) (Nat.le_of_ble_eq_true rfl)
  rw [lg_entry_eq]
  generalize (lg_sl ([.ref (h 10), .int x1, .int x2]) ++ List.replicate (3 - (lg_sl ([.ref (h 10), .int x1, .int x2])).length) Slot.unset).toArray = ls at hl ⊢
  have hl : lv_has ls 3 [(0, .ref (h 10)), (1, .int x1), (2, .int x2)] := hl
  unfold fX5_ownerAt at hf
  refine lv_aload_n G.1 G.2.1 dX5_ownerAt_0 rfl (lv_at hl 0 rfl) ?_
  refine lv_iconst (v := (0 : Int32)) G.1 G.2.1 dX5_ownerAt_1 (by decide) ?_
  obtain ⟨s1, es1, hf⟩ := ob hf
  refine k_put (w := wM cy h) G inlX5 tyX5 tyX5_ok nmX5 hK hW 0 6 rfl rfl 4 (by decide) q_8_2 rfl (by decide +kernel) (Nat.le_of_ble_eq_true rfl) rfl es1 dX5_ownerAt_2 (fun H locs hW => ?_)
  refine lv_iload_n G.1 G.2.1 dX5_ownerAt_5 rfl (lv_at hl 1 rfl) ?_
  refine lv_iconst (v := (0 : Int32)) G.1 G.2.1 dX5_ownerAt_6 (by decide) ?_
  refine lv_bipush (v := (31 : Int32)) G.1 G.2.1 dX5_ownerAt_7 (by decide) ?_
  obtain ⟨v2, ev2, hf⟩ := ob hf
  refine kc_s (n := 3) (As := [.int x1, .int (0 : Int32), .int (31 : Int32)]) G hW (mX5_in l n x1 (0 : Int32) (31 : Int32) ev2) (gS q_8_3 q_8_4 q_1_5 q_8_5) ⟨rfl, rfl⟩ (by decide +kernel) ⟨Nat.le_of_ble_eq_true rfl, Nat.le_of_ble_eq_true rfl⟩ rfl hl.1 rfl (Nat.le_of_ble_eq_true rfl) dX5_ownerAt_9 ⟨Nat.le_of_ble_eq_true rfl, Nat.le_of_ble_eq_true rfl⟩ (fun H locs hW => ?_)
  refine lv_if_eq (tgt := 28) G.1 G.2.1 dX5_ownerAt_12 (by decide) (fun c12 => ?_) (fun c12 => ?_)
  · replace hf := it c12 hf
    refine lv_aload_n G.1 G.2.1 dX5_ownerAt_28 rfl (lv_at hl 0 rfl) ?_
    refine lv_iconst (v := (1 : Int32)) G.1 G.2.1 dX5_ownerAt_29 (by decide) ?_
    obtain ⟨v3, s4, ev3, hf⟩ := ob2 hf
    refine kc_i (wr := []) (w := wM cy h s1) (w' := wM cy h s4) (n := 1) (As := [.int (1 : Int32)]) (C := RX5) G hK hA hW (mX5_raises l D cy h _ n s1 (1 : Int32) ev3) (gV q_8_6 q_8_7 q_8_8 q_1_5 q_8_9) ⟨rfl, rfl⟩ (by decide +kernel) ⟨Nat.le_of_ble_eq_true rfl, Nat.le_of_ble_eq_true rfl⟩ (va_recv hK.1 hW.1 (ci := 7) (q0 := 0) rfl rfl) rfl hl.1 rfl (Nat.le_of_ble_eq_true rfl) dX5_ownerAt_30 ⟨Nat.le_of_ble_eq_true rfl, Nat.le_of_ble_eq_true rfl⟩ (fun H locs hW => ?_)
    cases hf
    exact k_iret G hr hlk hK hW dX5_ownerAt_33
  · replace hf := ie c12 hf
    refine lv_iload_n G.1 G.2.1 dX5_ownerAt_15 rfl (lv_at hl 2 rfl) ?_
    refine lv_if_lt (tgt := 28) G.1 G.2.1 dX5_ownerAt_16 (by decide) (fun c16 => ?_) (fun c16 => ?_)
    · replace hf := it c16 hf
      refine lv_aload_n G.1 G.2.1 dX5_ownerAt_28 rfl (lv_at hl 0 rfl) ?_
      refine lv_iconst (v := (1 : Int32)) G.1 G.2.1 dX5_ownerAt_29 (by decide) ?_
      obtain ⟨v5, s6, ev5, hf⟩ := ob2 hf
      refine kc_i (wr := []) (w := wM cy h s1) (w' := wM cy h s6) (n := 1) (As := [.int (1 : Int32)]) (C := RX5) G hK hA hW (mX5_raises l D cy h _ n s1 (1 : Int32) ev5) (gV q_8_6 q_8_7 q_8_8 q_1_5 q_8_9) ⟨rfl, rfl⟩ (by decide +kernel) ⟨Nat.le_of_ble_eq_true rfl, Nat.le_of_ble_eq_true rfl⟩ (va_recv hK.1 hW.1 (ci := 7) (q0 := 0) rfl rfl) rfl hl.1 rfl (Nat.le_of_ble_eq_true rfl) dX5_ownerAt_30 ⟨Nat.le_of_ble_eq_true rfl, Nat.le_of_ble_eq_true rfl⟩ (fun H locs hW => ?_)
      cases hf
      exact k_iret G hr hlk hK hW dX5_ownerAt_33
    · replace hf := ie c16 hf
      refine lv_aload_n G.1 G.2.1 dX5_ownerAt_19 rfl (lv_at hl 0 rfl) ?_
      refine lv_iload_n G.1 G.2.1 dX5_ownerAt_20 rfl (lv_at hl 1 rfl) ?_
      refine lv_iload_n G.1 G.2.1 dX5_ownerAt_21 rfl (lv_at hl 2 rfl) ?_
      obtain ⟨v7, ev7, hf⟩ := ob hf
      refine kc_i (wr := []) (w := wM cy h s1) (w' := wM cy h s1) (n := 2) (As := [.int x1, .int x2]) (C := RX5) G hK hA hW (mX5_owner l D cy h _ n s1 x1 x2 ev7) (gV q_27_7 q_27_8 q_27_9 q_1_5 q_27_10) ⟨rfl, rfl⟩ (by decide +kernel) ⟨Nat.le_of_ble_eq_true rfl, Nat.le_of_ble_eq_true rfl⟩ (va_recv hK.1 hW.1 (ci := 7) (q0 := 0) rfl rfl) rfl hl.1 rfl (Nat.le_of_ble_eq_true rfl) dX5_ownerAt_22 ⟨Nat.le_of_ble_eq_true rfl, Nat.le_of_ble_eq_true rfl⟩ (fun H locs hW => ?_)
      refine lv_goto (tgt := 33) G.1 G.2.1 dX5_ownerAt_25 (by decide) ?_
      cases hf
      exact k_iret G hr hlk hK hW dX5_ownerAt_33

set_option maxHeartbeats 4000000 in
set_option maxRecDepth 100000 in
theorem mX5_frees (l : Launch) (D : va_G) (cy : ClassId) (h : Nat → Nat) (sz n : Nat) (σ : St) (x1 : Int32) {r : Int32} (hf : fX5_frees n σ x1 = some r) : Mi l yX5_frees (ws_ yX5_frees cX5_frees 4 (some .int)) { frames := 3, cells := 0, slots := 0, locals := 66 } D cy (wM cy h σ) (wM cy h σ) sz [.ref (h 10), .int x1] r := by
  refine Met.ofW (cc := cX5_frees) (maxL := 4) (ret := (some .int)) (by decide) rfl ?_
  intro p e s m args below meth c s₁ B hml hv
  obtain ⟨rfl, hsz, hP, hK, hD0⟩ := hv
  subst hsz
  have hts := atoms_spec (ws := ws_ yX5_frees cX5_frees 4 (some .int)) B.pre
  have G : CallFix p m c cX5_frees 4 s _ wA RX5 := ⟨B.exec, B.bytes, hml, findClass_of_methodNamed B.named, fun w h => hts w (List.mem_cons_of_mem _ h)⟩
  have hr := B.returns
  have hlk := B.notSynchronized
  have hW : KW D (va_A (wM cy h σ) s.heap.size) s.heap (wM cy h σ) s.heap [] := ⟨hP, hD0.self, va_S.rf⟩
  have hA : ∀ q, s.heap.size ≤ q → va_A (wM cy h σ) s.heap.size q := fun q h => Or.inr h
  have hl := lv_entry ([.ref (h 10), .int x1]) (n := 4) (Nat.le_of_ble_eq_true rfl)
  rw [lg_entry_eq]
  generalize (lg_sl ([.ref (h 10), .int x1]) ++ List.replicate (4 - (lg_sl ([.ref (h 10), .int x1])).length) Slot.unset).toArray = ls at hl ⊢
  have hl : lv_has ls 4 [(0, .ref (h 10)), (1, .int x1)] := hl
  unfold fX5_frees at hf
  refine lv_iconst (v := (0 : Int32)) G.1 G.2.1 dX5_frees_0 (by decide) ?_
  refine lv_istore_n (lv' := [(2, .int (0 : Int32)), (0, .ref (h 10)), (1, .int x1)]) G.1 G.2.1 dX5_frees_1 rfl hl (by decide) rfl (fun ls hl => ?_)
  refine lv_iconst (v := (0 : Int32)) G.1 G.2.1 dX5_frees_2 (by decide) ?_
  refine lv_istore_n (lv' := [(3, .int (0 : Int32)), (2, .int (0 : Int32)), (0, .ref (h 10)), (1, .int x1)]) G.1 G.2.1 dX5_frees_3 rfl hl (by decide) rfl (fun ls hl => ?_)
  have L4 : ∀ (fu : Nat) (y1 : Int32) (y2 : Int32) (H : Heap) (locs : List Loc) (ls : Array Slot), lz2 (fX5_frees_b4 n σ x1) fu y1 y2 = some r → KW D (va_A (wM cy h σ) s.heap.size) s.heap (wM cy h σ) H locs → lv_has ls 4 [(3, .int y1), (2, .int y2), (0, .ref (h 10)), (1, .int x1)] → W p l e (headSpec (ws_ yX5_frees cX5_frees 4 (some .int)) { frames := 3, cells := 0, slots := 0, locals := 66 }).room s m (([.ref (h 10), .int x1] : List Value).toArray) below meth c H locs 0 0 (MQ below (va_Qi (fun (r' : Int32) (_ : Unit) => r' = r) (fun _ => KB D (va_A (wM cy h σ) s.heap.size) (wM cy h σ)) (va_A (wM cy h σ) s.heap.size)) (([.ref (h 10), .int x1] : List Value).toArray) s 0 0 (va_A (wM cy h σ) s.heap.size)) (F0 m 4 ls []) := by
    intro fu4
    induction fu4 with
    | zero => intro y1 y2 H locs ls hf; cases hf
    | succ fu4 ih4 =>
      intro y1 y2 H locs ls hf hW hl
      rw [lz2_s] at hf
      unfold fX5_frees_b4 at hf
      refine lv_iload_n G.1 G.2.1 dX5_frees_4 rfl (lv_at hl 0 rfl) ?_
      refine lv_bipush (v := (32 : Int32)) G.1 G.2.1 dX5_frees_5 (by decide) ?_
      refine lv_icmp_ge (tgt := 28) G.1 G.2.1 dX5_frees_7 (by decide) (fun c7 => ?_) (fun c7 => ?_)
      · replace hf := it c7 hf
        refine lv_iload_n G.1 G.2.1 dX5_frees_28 rfl (lv_at hl 1 rfl) ?_
        cases hf
        exact k_iret G hr hlk hK hW dX5_frees_29
      · replace hf := ie c7 hf
        refine lv_aload_n G.1 G.2.1 dX5_frees_10 rfl (lv_at hl 2 rfl) ?_
        refine lv_iload_n G.1 G.2.1 dX5_frees_11 rfl (lv_at hl 0 rfl) ?_
        refine lv_iload_n G.1 G.2.1 dX5_frees_12 rfl (lv_at hl 3 rfl) ?_
        obtain ⟨v4, ev4, hf⟩ := ob hf
        refine kc_i (wr := []) (w := wM cy h σ) (w' := wM cy h σ) (n := 2) (As := [.int y1, .int x1]) (C := RX5) G hK hA hW (mX5_owner l D cy h _ n σ y1 x1 ev4) (gV q_27_7 q_27_8 q_27_9 q_1_5 q_27_10) ⟨rfl, rfl⟩ (by decide +kernel) ⟨Nat.le_of_ble_eq_true rfl, Nat.le_of_ble_eq_true rfl⟩ (va_recv hK.1 hW.1 (ci := 7) (q0 := 0) rfl rfl) rfl hl.1 rfl (Nat.le_of_ble_eq_true rfl) dX5_frees_13 ⟨Nat.le_of_ble_eq_true rfl, Nat.le_of_ble_eq_true rfl⟩ (fun H locs hW => ?_)
        refine lv_if_ge (tgt := 22) G.1 G.2.1 dX5_frees_16 (by decide) (fun c16 => ?_) (fun c16 => ?_)
        · replace hf := it c16 hf
          refine lv_iinc (v := (y1 + (1 : Int32))) (lv' := [(3, .int (y1 + (1 : Int32))), (2, .int y2), (0, .ref (h 10)), (1, .int x1)]) G.1 G.2.1 dX5_frees_22 hl (k := 0) rfl (congrArg (y1 + ·) (by decide)) (by decide) rfl (fun ls hl => ?_)
          refine lv_goto (tgt := 4) G.1 G.2.1 dX5_frees_25 (by decide) ?_
          exact ih4 _ _ _ _ _ hf hW (lv_sub hl [0, 1, 2, 3] rfl)
        · replace hf := ie c16 hf
          refine lv_iinc (v := (y2 + (1 : Int32))) (lv' := [(2, .int (y2 + (1 : Int32))), (3, .int y1), (0, .ref (h 10)), (1, .int x1)]) G.1 G.2.1 dX5_frees_19 hl (k := 1) rfl (congrArg (y2 + ·) (by decide)) (by decide) rfl (fun ls hl => ?_)
          refine lv_iinc (v := (y1 + (1 : Int32))) (lv' := [(3, .int (y1 + (1 : Int32))), (2, .int (y2 + (1 : Int32))), (0, .ref (h 10)), (1, .int x1)]) G.1 G.2.1 dX5_frees_22 hl (k := 1) rfl (congrArg (y1 + ·) (by decide)) (by decide) rfl (fun ls hl => ?_)
          refine lv_goto (tgt := 4) G.1 G.2.1 dX5_frees_25 (by decide) ?_
          exact ih4 _ _ _ _ _ hf hW (lv_sub hl [0, 1, 2, 3] rfl)
  exact L4 _ _ _ _ _ _ hf hW (lv_sub hl [0, 1, 2, 3] rfl)

set_option maxHeartbeats 4000000 in
set_option maxRecDepth 100000 in
theorem mX5_freeProcessors (l : Launch) (D : va_G) (cy : ClassId) (h : Nat → Nat) (sz n : Nat) (σ : St) (x1 : Int32) {r : Int32} {σ' : St} (hf : fX5_freeProcessors n σ x1 = some (r, σ')) : Mi l yX5_freeProcessors (ws_ yX5_freeProcessors cX5_freeProcessors 2 (some .int)) { frames := 4, cells := 0, slots := 0, locals := 89 } D cy (wM cy h σ) (wM cy h σ') sz [.ref (h 10), .int x1] r := by
  refine Met.ofW (cc := cX5_freeProcessors) (maxL := 2) (ret := (some .int)) (by decide) rfl ?_
  intro p e s m args below meth c s₁ B hml hv
  obtain ⟨rfl, hsz, hP, hK, hD0⟩ := hv
  subst hsz
  have hts := atoms_spec (ws := ws_ yX5_freeProcessors cX5_freeProcessors 2 (some .int)) B.pre
  have G : CallFix p m c cX5_freeProcessors 2 s _ wA RX5 := ⟨B.exec, B.bytes, hml, findClass_of_methodNamed B.named, fun w h => hts w (List.mem_cons_of_mem _ h)⟩
  have hr := B.returns
  have hlk := B.notSynchronized
  have hW : KW D (va_A (wM cy h σ) s.heap.size) s.heap (wM cy h σ) s.heap [] := ⟨hP, hD0.self, va_S.rf⟩
  have hA : ∀ q, s.heap.size ≤ q → va_A (wM cy h σ) s.heap.size q := fun q h => Or.inr h
  have hl := lv_entry ([.ref (h 10), .int x1]) (n := 2) (Nat.le_of_ble_eq_true rfl)
  rw [lg_entry_eq]
  generalize (lg_sl ([.ref (h 10), .int x1]) ++ List.replicate (2 - (lg_sl ([.ref (h 10), .int x1])).length) Slot.unset).toArray = ls at hl ⊢
  have hl : lv_has ls 2 [(0, .ref (h 10)), (1, .int x1)] := hl
  unfold fX5_freeProcessors at hf
  refine lv_aload_n G.1 G.2.1 dX5_freeProcessors_0 rfl (lv_at hl 0 rfl) ?_
  refine lv_iconst (v := (0 : Int32)) G.1 G.2.1 dX5_freeProcessors_1 (by decide) ?_
  obtain ⟨s1, es1, hf⟩ := ob hf
  refine k_put (w := wM cy h) G inlX5 tyX5 tyX5_ok nmX5 hK hW 0 6 rfl rfl 4 (by decide) q_8_2 rfl (by decide +kernel) (Nat.le_of_ble_eq_true rfl) rfl es1 dX5_freeProcessors_2 (fun H locs hW => ?_)
  refine lv_iload_n G.1 G.2.1 dX5_freeProcessors_5 rfl (lv_at hl 1 rfl) ?_
  refine lv_if_ge (tgt := 17) G.1 G.2.1 dX5_freeProcessors_6 (by decide) (fun c6 => ?_) (fun c6 => ?_)
  · replace hf := it c6 hf
    refine lv_aload_n G.1 G.2.1 dX5_freeProcessors_17 rfl (lv_at hl 0 rfl) ?_
    refine lv_iload_n G.1 G.2.1 dX5_freeProcessors_18 rfl (lv_at hl 1 rfl) ?_
    obtain ⟨v2, ev2, hf⟩ := ob hf
    refine kc_i (wr := []) (w := wM cy h s1) (w' := wM cy h s1) (n := 1) (As := [.int x1]) (C := RX5) G hK hA hW (mX5_frees l D cy h _ n s1 x1 ev2) (gV q_28_6 q_28_7 q_28_8 q_1_5 q_28_9) ⟨rfl, rfl⟩ (by decide +kernel) ⟨Nat.le_of_ble_eq_true rfl, Nat.le_of_ble_eq_true rfl⟩ (va_recv hK.1 hW.1 (ci := 7) (q0 := 0) rfl rfl) rfl hl.1 rfl (Nat.le_of_ble_eq_true rfl) dX5_freeProcessors_19 ⟨Nat.le_of_ble_eq_true rfl, Nat.le_of_ble_eq_true rfl⟩ (fun H locs hW => ?_)
    cases hf
    exact k_iret G hr hlk hK hW dX5_freeProcessors_22
  · replace hf := ie c6 hf
    refine lv_aload_n G.1 G.2.1 dX5_freeProcessors_9 rfl (lv_at hl 0 rfl) ?_
    refine lv_iconst (v := (1 : Int32)) G.1 G.2.1 dX5_freeProcessors_10 (by decide) ?_
    obtain ⟨v3, s4, ev3, hf⟩ := ob2 hf
    refine kc_i (wr := []) (w := wM cy h s1) (w' := wM cy h s4) (n := 1) (As := [.int (1 : Int32)]) (C := RX5) G hK hA hW (mX5_raises l D cy h _ n s1 (1 : Int32) ev3) (gV q_8_6 q_8_7 q_8_8 q_1_5 q_8_9) ⟨rfl, rfl⟩ (by decide +kernel) ⟨Nat.le_of_ble_eq_true rfl, Nat.le_of_ble_eq_true rfl⟩ (va_recv hK.1 hW.1 (ci := 7) (q0 := 0) rfl rfl) rfl hl.1 rfl (Nat.le_of_ble_eq_true rfl) dX5_freeProcessors_11 ⟨Nat.le_of_ble_eq_true rfl, Nat.le_of_ble_eq_true rfl⟩ (fun H locs hW => ?_)
    refine lv_goto (tgt := 22) G.1 G.2.1 dX5_freeProcessors_14 (by decide) ?_
    cases hf
    exact k_iret G hr hlk hK hW dX5_freeProcessors_22

set_option maxHeartbeats 4000000 in
set_option maxRecDepth 100000 in
theorem mX5_isFreeNow (l : Launch) (D : va_G) (cy : ClassId) (h : Nat → Nat) (sz n : Nat) (σ : St) (x1 : Int32) (x2 : Int32) {r : Int32} (hf : fX5_isFreeNow n σ x1 x2 = some r) : Mi l yX5_isFreeNow (ws_ yX5_isFreeNow cX5_isFreeNow 4 (some .boolean)) { frames := 3, cells := 0, slots := 0, locals := 66 } D cy (wM cy h σ) (wM cy h σ) sz [.ref (h 10), .int x1, .int x2] r := by
  refine Met.ofW (cc := cX5_isFreeNow) (maxL := 4) (ret := (some .boolean)) (by decide) rfl ?_
  intro p e s m args below meth c s₁ B hml hv
  obtain ⟨rfl, hsz, hP, hK, hD0⟩ := hv
  subst hsz
  have hts := atoms_spec (ws := ws_ yX5_isFreeNow cX5_isFreeNow 4 (some .boolean)) B.pre
  have G : CallFix p m c cX5_isFreeNow 4 s _ wA RX5 := ⟨B.exec, B.bytes, hml, findClass_of_methodNamed B.named, fun w h => hts w (List.mem_cons_of_mem _ h)⟩
  have hr := B.returns
  have hlk := B.notSynchronized
  have hW : KW D (va_A (wM cy h σ) s.heap.size) s.heap (wM cy h σ) s.heap [] := ⟨hP, hD0.self, va_S.rf⟩
  have hA : ∀ q, s.heap.size ≤ q → va_A (wM cy h σ) s.heap.size q := fun q h => Or.inr h
  have hl := lv_entry ([.ref (h 10), .int x1, .int x2]) (n := 4) (Nat.le_of_ble_eq_true rfl)
  rw [lg_entry_eq]
  generalize (lg_sl ([.ref (h 10), .int x1, .int x2]) ++ List.replicate (4 - (lg_sl ([.ref (h 10), .int x1, .int x2])).length) Slot.unset).toArray = ls at hl ⊢
  have hl : lv_has ls 4 [(0, .ref (h 10)), (1, .int x1), (2, .int x2)] := hl
  unfold fX5_isFreeNow at hf
  refine lv_iload_n G.1 G.2.1 dX5_isFreeNow_0 rfl (lv_at hl 2 rfl) ?_
  refine lv_istore_n (lv' := [(3, .int x2), (0, .ref (h 10)), (1, .int x1), (2, .int x2)]) G.1 G.2.1 dX5_isFreeNow_1 rfl hl (by decide) rfl (fun ls hl => ?_)
  have L2 : ∀ (fu : Nat) (y1 : Int32) (H : Heap) (locs : List Loc) (ls : Array Slot), lz1 (fX5_isFreeNow_b2 n σ x1 x2) fu y1 = some r → KW D (va_A (wM cy h σ) s.heap.size) s.heap (wM cy h σ) H locs → lv_has ls 4 [(3, .int y1), (0, .ref (h 10)), (1, .int x1), (2, .int x2)] → W p l e (headSpec (ws_ yX5_isFreeNow cX5_isFreeNow 4 (some .boolean)) { frames := 3, cells := 0, slots := 0, locals := 66 }).room s m (([.ref (h 10), .int x1, .int x2] : List Value).toArray) below meth c H locs 0 0 (MQ below (va_Qi (fun (r' : Int32) (_ : Unit) => r' = r) (fun _ => KB D (va_A (wM cy h σ) s.heap.size) (wM cy h σ)) (va_A (wM cy h σ) s.heap.size)) (([.ref (h 10), .int x1, .int x2] : List Value).toArray) s 0 0 (va_A (wM cy h σ) s.heap.size)) (F0 m 2 ls []) := by
    intro fu2
    induction fu2 with
    | zero => intro y1 H locs ls hf; cases hf
    | succ fu2 ih2 =>
      intro y1 H locs ls hf hW hl
      rw [lz1_s] at hf
      unfold fX5_isFreeNow_b2 at hf
      refine lv_iload_n G.1 G.2.1 dX5_isFreeNow_2 rfl (lv_at hl 0 rfl) ?_
      refine lv_iload_n G.1 G.2.1 dX5_isFreeNow_3 rfl (lv_at hl 3 rfl) ?_
      refine lv_iconst (v := (1 : Int32)) G.1 G.2.1 dX5_isFreeNow_4 (by decide) ?_
      refine lv_iload_n G.1 G.2.1 dX5_isFreeNow_5 rfl (lv_at hl 2 rfl) ?_
      refine lv_ishl G.1 G.2.1 dX5_isFreeNow_6 ?_
      refine lv_iadd G.1 G.2.1 dX5_isFreeNow_7 ?_
      refine lv_icmp_ge (tgt := 33) G.1 G.2.1 dX5_isFreeNow_8 (by decide) (fun c8 => ?_) (fun c8 => ?_)
      · replace hf := it c8 hf
        refine lv_iconst (v := (1 : Int32)) G.1 G.2.1 dX5_isFreeNow_33 (by decide) ?_
        cases hf
        exact k_zret G hr hlk hK hW rfl dX5_isFreeNow_34
      · replace hf := ie c8 hf
        refine lv_aload_n G.1 G.2.1 dX5_isFreeNow_11 rfl (lv_at hl 1 rfl) ?_
        refine lv_iload_n G.1 G.2.1 dX5_isFreeNow_12 rfl (lv_at hl 0 rfl) ?_
        refine lv_aload_n G.1 G.2.1 dX5_isFreeNow_13 rfl (lv_at hl 1 rfl) ?_
        refine k_get G inlX5 hK hW 0 rfl rfl 0 (by decide) q_4_6 rfl dX5_isFreeNow_14 ?_
        refine lv_iconst (v := (0 : Int32)) G.1 G.2.1 dX5_isFreeNow_17 (by decide) ?_
        obtain ⟨v3, ev3, hf⟩ := ob hf
        refine k_ald G hK hW 1 rfl ev3 dX5_isFreeNow_18 ?_
        obtain ⟨v4, ev4, hf⟩ := ob hf
        refine kc_i (wr := []) (w := wM cy h σ) (w' := wM cy h σ) (n := 2) (As := [.int y1, .int v3]) (C := RX5) G hK hA hW (mX5_owner l D cy h _ n σ y1 v3 ev4) (gV q_27_7 q_27_8 q_27_9 q_1_5 q_27_10) ⟨rfl, rfl⟩ (by decide +kernel) ⟨Nat.le_of_ble_eq_true rfl, Nat.le_of_ble_eq_true rfl⟩ (va_recv hK.1 hW.1 (ci := 7) (q0 := 0) rfl rfl) rfl hl.1 rfl (Nat.le_of_ble_eq_true rfl) dX5_isFreeNow_19 ⟨Nat.le_of_ble_eq_true rfl, Nat.le_of_ble_eq_true rfl⟩ (fun H locs hW => ?_)
        refine lv_if_lt (tgt := 27) G.1 G.2.1 dX5_isFreeNow_22 (by decide) (fun c22 => ?_) (fun c22 => ?_)
        · replace hf := it c22 hf
          refine lv_iinc (v := (y1 + (1 : Int32))) (lv' := [(3, .int (y1 + (1 : Int32))), (0, .ref (h 10)), (1, .int x1), (2, .int x2)]) G.1 G.2.1 dX5_isFreeNow_27 hl (k := 0) rfl (congrArg (y1 + ·) (by decide)) (by decide) rfl (fun ls hl => ?_)
          refine lv_goto (tgt := 2) G.1 G.2.1 dX5_isFreeNow_30 (by decide) ?_
          exact ih2 _ _ _ _ hf hW (lv_sub hl [0, 1, 2, 3] rfl)
        · replace hf := ie c22 hf
          refine lv_iconst (v := (0 : Int32)) G.1 G.2.1 dX5_isFreeNow_25 (by decide) ?_
          cases hf
          exact k_zret G hr hlk hK hW rfl dX5_isFreeNow_26
  exact L2 _ _ _ _ _ hf hW (lv_sub hl [0, 1, 2, 3] rfl)

set_option maxHeartbeats 4000000 in
set_option maxRecDepth 100000 in
theorem mX5_freeBlocks (l : Launch) (D : va_G) (cy : ClassId) (h : Nat → Nat) (sz n : Nat) (σ : St) (x1 : Int32) {r : Int32} {σ' : St} (hf : fX5_freeBlocks n σ x1 = some (r, σ')) : Mi l yX5_freeBlocks (ws_ yX5_freeBlocks cX5_freeBlocks 5 (some .int)) { frames := 4, cells := 0, slots := 0, locals := 89 } D cy (wM cy h σ) (wM cy h σ') sz [.ref (h 10), .int x1] r := by
  refine Met.ofW (cc := cX5_freeBlocks) (maxL := 5) (ret := (some .int)) (by decide) rfl ?_
  intro p e s m args below meth c s₁ B hml hv
  obtain ⟨rfl, hsz, hP, hK, hD0⟩ := hv
  subst hsz
  have hts := atoms_spec (ws := ws_ yX5_freeBlocks cX5_freeBlocks 5 (some .int)) B.pre
  have G : CallFix p m c cX5_freeBlocks 5 s _ wA RX5 := ⟨B.exec, B.bytes, hml, findClass_of_methodNamed B.named, fun w h => hts w (List.mem_cons_of_mem _ h)⟩
  have hr := B.returns
  have hlk := B.notSynchronized
  have hW : KW D (va_A (wM cy h σ) s.heap.size) s.heap (wM cy h σ) s.heap [] := ⟨hP, hD0.self, va_S.rf⟩
  have hA : ∀ q, s.heap.size ≤ q → va_A (wM cy h σ) s.heap.size q := fun q h => Or.inr h
  have hl := lv_entry ([.ref (h 10), .int x1]) (n := 5) (Nat.le_of_ble_eq_true rfl)
  rw [lg_entry_eq]
  generalize (lg_sl ([.ref (h 10), .int x1]) ++ List.replicate (5 - (lg_sl ([.ref (h 10), .int x1])).length) Slot.unset).toArray = ls at hl ⊢
  have hl : lv_has ls 5 [(0, .ref (h 10)), (1, .int x1)] := hl
  unfold fX5_freeBlocks at hf
  refine lv_aload_n G.1 G.2.1 dX5_freeBlocks_0 rfl (lv_at hl 0 rfl) ?_
  refine lv_iconst (v := (0 : Int32)) G.1 G.2.1 dX5_freeBlocks_1 (by decide) ?_
  obtain ⟨s1, es1, hf⟩ := ob hf
  refine k_put (w := wM cy h) G inlX5 tyX5 tyX5_ok nmX5 hK hW 0 6 rfl rfl 4 (by decide) q_8_2 rfl (by decide +kernel) (Nat.le_of_ble_eq_true rfl) rfl es1 dX5_freeBlocks_2 (fun H locs hW => ?_)
  refine lv_iload_n G.1 G.2.1 dX5_freeBlocks_5 rfl (lv_at hl 1 rfl) ?_
  refine lv_iconst (v := (0 : Int32)) G.1 G.2.1 dX5_freeBlocks_6 (by decide) ?_
  refine lv_iconst (v := (5 : Int32)) G.1 G.2.1 dX5_freeBlocks_7 (by decide) ?_
  obtain ⟨v2, ev2, hf⟩ := ob hf
  refine kc_s (n := 3) (As := [.int x1, .int (0 : Int32), .int (5 : Int32)]) G hW (mX5_in l n x1 (0 : Int32) (5 : Int32) ev2) (gS q_8_3 q_8_4 q_1_5 q_8_5) ⟨rfl, rfl⟩ (by decide +kernel) ⟨Nat.le_of_ble_eq_true rfl, Nat.le_of_ble_eq_true rfl⟩ rfl hl.1 rfl (Nat.le_of_ble_eq_true rfl) dX5_freeBlocks_8 ⟨Nat.le_of_ble_eq_true rfl, Nat.le_of_ble_eq_true rfl⟩ (fun H locs hW => ?_)
  refine lv_if_ne (tgt := 20) G.1 G.2.1 dX5_freeBlocks_11 (by decide) (fun c11 => ?_) (fun c11 => ?_)
  · replace hf := ie c11 hf
    refine lv_iconst (v := (0 : Int32)) G.1 G.2.1 dX5_freeBlocks_20 (by decide) ?_
    refine lv_istore_n (lv' := [(2, .int (0 : Int32)), (0, .ref (h 10)), (1, .int x1)]) G.1 G.2.1 dX5_freeBlocks_21 rfl hl (by decide) rfl (fun ls hl => ?_)
    refine lv_iconst (v := (0 : Int32)) G.1 G.2.1 dX5_freeBlocks_22 (by decide) ?_
    refine lv_istore_n (lv' := [(3, .int (0 : Int32)), (2, .int (0 : Int32)), (0, .ref (h 10)), (1, .int x1)]) G.1 G.2.1 dX5_freeBlocks_23 rfl hl (by decide) rfl (fun ls hl => ?_)
    have L24 : ∀ (fu : Nat) (y3 : Int32) (y4 : Int32) (H : Heap) (locs : List Loc) (ls : Array Slot), lz2 (fX5_freeBlocks_b24 n x1 s1) fu y3 y4 = some (r, σ') → KW D (va_A (wM cy h σ) s.heap.size) s.heap (wM cy h s1) H locs → lv_has ls 5 [(3, .int y3), (2, .int y4), (0, .ref (h 10)), (1, .int x1)] → W p l e (headSpec (ws_ yX5_freeBlocks cX5_freeBlocks 5 (some .int)) { frames := 4, cells := 0, slots := 0, locals := 89 }).room s m (([.ref (h 10), .int x1] : List Value).toArray) below meth c H locs 0 0 (MQ below (va_Qi (fun (r' : Int32) (_ : Unit) => r' = r) (fun _ => KB D (va_A (wM cy h σ) s.heap.size) (wM cy h σ')) (va_A (wM cy h σ) s.heap.size)) (([.ref (h 10), .int x1] : List Value).toArray) s 0 0 (va_A (wM cy h σ) s.heap.size)) (F0 m 24 ls []) := by
      intro fu24
      induction fu24 with
      | zero => intro y3 y4 H locs ls hf; cases hf
      | succ fu24 ih24 =>
        intro y3 y4 H locs ls hf hW hl
        rw [lz2_s] at hf
        unfold fX5_freeBlocks_b24 at hf
        refine lv_iload_n G.1 G.2.1 dX5_freeBlocks_24 rfl (lv_at hl 0 rfl) ?_
        refine lv_bipush (v := (32 : Int32)) G.1 G.2.1 dX5_freeBlocks_25 (by decide) ?_
        refine lv_icmp_ge (tgt := 79) G.1 G.2.1 dX5_freeBlocks_27 (by decide) (fun c27 => ?_) (fun c27 => ?_)
        · replace hf := it c27 hf
          refine lv_iload_n G.1 G.2.1 dX5_freeBlocks_79 rfl (lv_at hl 1 rfl) ?_
          cases hf
          exact k_iret G hr hlk hK hW dX5_freeBlocks_80
        · replace hf := ie c27 hf
          refine lv_iload_n G.1 G.2.1 dX5_freeBlocks_30 rfl (lv_at hl 0 rfl) ?_
          refine lv_iload_n G.1 G.2.1 dX5_freeBlocks_31 rfl (lv_at hl 3 rfl) ?_
          refine lv_iconst (v := (1 : Int32)) G.1 G.2.1 dX5_freeBlocks_32 (by decide) ?_
          refine lv_iadd G.1 G.2.1 dX5_freeBlocks_33 ?_
          refine lv_ishr G.1 G.2.1 dX5_freeBlocks_34 ?_
          refine lv_iload_n G.1 G.2.1 dX5_freeBlocks_35 rfl (lv_at hl 3 rfl) ?_
          refine lv_iconst (v := (1 : Int32)) G.1 G.2.1 dX5_freeBlocks_36 (by decide) ?_
          refine lv_iadd G.1 G.2.1 dX5_freeBlocks_37 ?_
          refine lv_ishl G.1 G.2.1 dX5_freeBlocks_38 ?_
          refine lv_istore (lv' := [(4, .int ((y3 >>> ((x1 + (1 : Int32)) &&& 31)) <<< ((x1 + (1 : Int32)) &&& 31))), (3, .int y3), (2, .int y4), (0, .ref (h 10)), (1, .int x1)]) G.1 G.2.1 dX5_freeBlocks_39 hl (by decide) rfl (fun ls hl => ?_)
          refine lv_aload_n G.1 G.2.1 dX5_freeBlocks_41 rfl (lv_at hl 3 rfl) ?_
          refine lv_iload_n G.1 G.2.1 dX5_freeBlocks_42 rfl (lv_at hl 4 rfl) ?_
          refine lv_iload_n G.1 G.2.1 dX5_freeBlocks_43 rfl (lv_at hl 1 rfl) ?_
          obtain ⟨v6, ev6, hf⟩ := ob hf
          refine kc_i (wr := []) (w := wM cy h s1) (w' := wM cy h s1) (n := 2) (As := [.int x1, .int y3]) (C := RX5) G hK hA hW (mX5_isFreeNow l D cy h _ n s1 x1 y3 ev6) (gV q_29_4 q_29_5 q_29_6 q_1_5 q_29_7) ⟨rfl, rfl⟩ (by decide +kernel) ⟨Nat.le_of_ble_eq_true rfl, Nat.le_of_ble_eq_true rfl⟩ (va_recv hK.1 hW.1 (ci := 7) (q0 := 0) rfl rfl) rfl hl.1 rfl (Nat.le_of_ble_eq_true rfl) dX5_freeBlocks_44 ⟨Nat.le_of_ble_eq_true rfl, Nat.le_of_ble_eq_true rfl⟩ (fun H locs hW => ?_)
          refine lv_if_eq (tgt := 70) G.1 G.2.1 dX5_freeBlocks_47 (by decide) (fun c47 => ?_) (fun c47 => ?_)
          · replace hf := it c47 hf
            refine lv_iload_n G.1 G.2.1 dX5_freeBlocks_70 rfl (lv_at hl 1 rfl) ?_
            refine lv_iconst (v := (1 : Int32)) G.1 G.2.1 dX5_freeBlocks_71 (by decide) ?_
            refine lv_iload_n G.1 G.2.1 dX5_freeBlocks_72 rfl (lv_at hl 4 rfl) ?_
            refine lv_ishl G.1 G.2.1 dX5_freeBlocks_73 ?_
            refine lv_iadd G.1 G.2.1 dX5_freeBlocks_74 ?_
            refine lv_istore_n (lv' := [(3, .int (y3 + ((1 : Int32) <<< (x1 &&& 31)))), (4, .int ((y3 >>> ((x1 + (1 : Int32)) &&& 31)) <<< ((x1 + (1 : Int32)) &&& 31))), (2, .int y4), (0, .ref (h 10)), (1, .int x1)]) G.1 G.2.1 dX5_freeBlocks_75 rfl hl (by decide) rfl (fun ls hl => ?_)
            refine lv_goto (tgt := 24) G.1 G.2.1 dX5_freeBlocks_76 (by decide) ?_
            exact ih24 _ _ _ _ _ hf hW (lv_sub hl [0, 2, 3, 4] rfl)
          · replace hf := ie c47 hf
            refine lv_iload_n G.1 G.2.1 dX5_freeBlocks_50 rfl (lv_at hl 4 rfl) ?_
            refine lv_iconst (v := (5 : Int32)) G.1 G.2.1 dX5_freeBlocks_51 (by decide) ?_
            refine lv_icmp_eq (tgt := 67) G.1 G.2.1 dX5_freeBlocks_52 (by decide) (fun c52 => ?_) (fun c52 => ?_)
            · replace hf := it c52 hf
              refine lv_iinc (v := (y4 + (1 : Int32))) (lv' := [(2, .int (y4 + (1 : Int32))), (4, .int ((y3 >>> ((x1 + (1 : Int32)) &&& 31)) <<< ((x1 + (1 : Int32)) &&& 31))), (3, .int y3), (0, .ref (h 10)), (1, .int x1)]) G.1 G.2.1 dX5_freeBlocks_67 hl (k := 2) rfl (congrArg (y4 + ·) (by decide)) (by decide) rfl (fun ls hl => ?_)
              refine lv_iload_n G.1 G.2.1 dX5_freeBlocks_70 rfl (lv_at hl 2 rfl) ?_
              refine lv_iconst (v := (1 : Int32)) G.1 G.2.1 dX5_freeBlocks_71 (by decide) ?_
              refine lv_iload_n G.1 G.2.1 dX5_freeBlocks_72 rfl (lv_at hl 4 rfl) ?_
              refine lv_ishl G.1 G.2.1 dX5_freeBlocks_73 ?_
              refine lv_iadd G.1 G.2.1 dX5_freeBlocks_74 ?_
              refine lv_istore_n (lv' := [(3, .int (y3 + ((1 : Int32) <<< (x1 &&& 31)))), (2, .int (y4 + (1 : Int32))), (4, .int ((y3 >>> ((x1 + (1 : Int32)) &&& 31)) <<< ((x1 + (1 : Int32)) &&& 31))), (0, .ref (h 10)), (1, .int x1)]) G.1 G.2.1 dX5_freeBlocks_75 rfl hl (by decide) rfl (fun ls hl => ?_)
              refine lv_goto (tgt := 24) G.1 G.2.1 dX5_freeBlocks_76 (by decide) ?_
              exact ih24 _ _ _ _ _ hf hW (lv_sub hl [0, 1, 3, 4] rfl)
            · replace hf := ie c52 hf
              refine lv_aload_n G.1 G.2.1 dX5_freeBlocks_55 rfl (lv_at hl 3 rfl) ?_
              refine lv_iload_n G.1 G.2.1 dX5_freeBlocks_56 rfl (lv_at hl 4 rfl) ?_
              refine lv_iconst (v := (1 : Int32)) G.1 G.2.1 dX5_freeBlocks_57 (by decide) ?_
              refine lv_iadd G.1 G.2.1 dX5_freeBlocks_58 ?_
              refine lv_iload G.1 G.2.1 dX5_freeBlocks_59 (lv_at hl 0 rfl) ?_
              obtain ⟨v7, ev7, hf⟩ := ob hf
              refine kc_i (wr := []) (w := wM cy h s1) (w' := wM cy h s1) (n := 2) (As := [.int (x1 + (1 : Int32)), .int ((y3 >>> ((x1 + (1 : Int32)) &&& 31)) <<< ((x1 + (1 : Int32)) &&& 31))]) (C := RX5) G hK hA hW (mX5_isFreeNow l D cy h _ n s1 (x1 + (1 : Int32)) ((y3 >>> ((x1 + (1 : Int32)) &&& 31)) <<< ((x1 + (1 : Int32)) &&& 31)) ev7) (gV q_29_4 q_29_5 q_29_6 q_1_5 q_29_7) ⟨rfl, rfl⟩ (by decide +kernel) ⟨Nat.le_of_ble_eq_true rfl, Nat.le_of_ble_eq_true rfl⟩ (va_recv hK.1 hW.1 (ci := 7) (q0 := 0) rfl rfl) rfl hl.1 rfl (Nat.le_of_ble_eq_true rfl) dX5_freeBlocks_61 ⟨Nat.le_of_ble_eq_true rfl, Nat.le_of_ble_eq_true rfl⟩ (fun H locs hW => ?_)
              refine lv_if_ne (tgt := 70) G.1 G.2.1 dX5_freeBlocks_64 (by decide) (fun c64 => ?_) (fun c64 => ?_)
              · replace hf := ie c64 hf
                refine lv_iload_n G.1 G.2.1 dX5_freeBlocks_70 rfl (lv_at hl 1 rfl) ?_
                refine lv_iconst (v := (1 : Int32)) G.1 G.2.1 dX5_freeBlocks_71 (by decide) ?_
                refine lv_iload_n G.1 G.2.1 dX5_freeBlocks_72 rfl (lv_at hl 4 rfl) ?_
                refine lv_ishl G.1 G.2.1 dX5_freeBlocks_73 ?_
                refine lv_iadd G.1 G.2.1 dX5_freeBlocks_74 ?_
                refine lv_istore_n (lv' := [(3, .int (y3 + ((1 : Int32) <<< (x1 &&& 31)))), (4, .int ((y3 >>> ((x1 + (1 : Int32)) &&& 31)) <<< ((x1 + (1 : Int32)) &&& 31))), (2, .int y4), (0, .ref (h 10)), (1, .int x1)]) G.1 G.2.1 dX5_freeBlocks_75 rfl hl (by decide) rfl (fun ls hl => ?_)
                refine lv_goto (tgt := 24) G.1 G.2.1 dX5_freeBlocks_76 (by decide) ?_
                exact ih24 _ _ _ _ _ hf hW (lv_sub hl [0, 2, 3, 4] rfl)
              · replace hf := it c64 hf
                refine lv_iinc (v := (y4 + (1 : Int32))) (lv' := [(2, .int (y4 + (1 : Int32))), (4, .int ((y3 >>> ((x1 + (1 : Int32)) &&& 31)) <<< ((x1 + (1 : Int32)) &&& 31))), (3, .int y3), (0, .ref (h 10)), (1, .int x1)]) G.1 G.2.1 dX5_freeBlocks_67 hl (k := 2) rfl (congrArg (y4 + ·) (by decide)) (by decide) rfl (fun ls hl => ?_)
                refine lv_iload_n G.1 G.2.1 dX5_freeBlocks_70 rfl (lv_at hl 2 rfl) ?_
                refine lv_iconst (v := (1 : Int32)) G.1 G.2.1 dX5_freeBlocks_71 (by decide) ?_
                refine lv_iload_n G.1 G.2.1 dX5_freeBlocks_72 rfl (lv_at hl 4 rfl) ?_
                refine lv_ishl G.1 G.2.1 dX5_freeBlocks_73 ?_
                refine lv_iadd G.1 G.2.1 dX5_freeBlocks_74 ?_
                refine lv_istore_n (lv' := [(3, .int (y3 + ((1 : Int32) <<< (x1 &&& 31)))), (2, .int (y4 + (1 : Int32))), (4, .int ((y3 >>> ((x1 + (1 : Int32)) &&& 31)) <<< ((x1 + (1 : Int32)) &&& 31))), (0, .ref (h 10)), (1, .int x1)]) G.1 G.2.1 dX5_freeBlocks_75 rfl hl (by decide) rfl (fun ls hl => ?_)
                refine lv_goto (tgt := 24) G.1 G.2.1 dX5_freeBlocks_76 (by decide) ?_
                exact ih24 _ _ _ _ _ hf hW (lv_sub hl [0, 1, 3, 4] rfl)
    exact L24 _ _ _ _ _ _ hf hW (lv_sub hl [0, 1, 2, 3] rfl)
  · replace hf := it c11 hf
    refine lv_aload_n G.1 G.2.1 dX5_freeBlocks_14 rfl (lv_at hl 0 rfl) ?_
    refine lv_iconst (v := (1 : Int32)) G.1 G.2.1 dX5_freeBlocks_15 (by decide) ?_
    obtain ⟨v8, s9, ev8, hf⟩ := ob2 hf
    refine kc_i (wr := []) (w := wM cy h s1) (w' := wM cy h s9) (n := 1) (As := [.int (1 : Int32)]) (C := RX5) G hK hA hW (mX5_raises l D cy h _ n s1 (1 : Int32) ev8) (gV q_8_6 q_8_7 q_8_8 q_1_5 q_8_9) ⟨rfl, rfl⟩ (by decide +kernel) ⟨Nat.le_of_ble_eq_true rfl, Nat.le_of_ble_eq_true rfl⟩ (va_recv hK.1 hW.1 (ci := 7) (q0 := 0) rfl rfl) rfl hl.1 rfl (Nat.le_of_ble_eq_true rfl) dX5_freeBlocks_16 ⟨Nat.le_of_ble_eq_true rfl, Nat.le_of_ble_eq_true rfl⟩ (fun H locs hW => ?_)
    cases hf
    exact k_iret G hr hlk hK hW dX5_freeBlocks_19

set_option maxHeartbeats 4000000 in
set_option maxRecDepth 100000 in
theorem mX5_largest (l : Launch) (D : va_G) (cy : ClassId) (h : Nat → Nat) (sz n : Nat) (σ : St) {r : Int32} (hf : fX5_largest n σ = some r) : Mi l yX5_largest (ws_ yX5_largest cX5_largest 3 (some .int)) { frames := 4, cells := 0, slots := 0, locals := 89 } D cy (wM cy h σ) (wM cy h σ) sz [.ref (h 10)] r := by
  refine Met.ofW (cc := cX5_largest) (maxL := 3) (ret := (some .int)) (by decide) rfl ?_
  intro p e s m args below meth c s₁ B hml hv
  obtain ⟨rfl, hsz, hP, hK, hD0⟩ := hv
  subst hsz
  have hts := atoms_spec (ws := ws_ yX5_largest cX5_largest 3 (some .int)) B.pre
  have G : CallFix p m c cX5_largest 3 s _ wA RX5 := ⟨B.exec, B.bytes, hml, findClass_of_methodNamed B.named, fun w h => hts w (List.mem_cons_of_mem _ h)⟩
  have hr := B.returns
  have hlk := B.notSynchronized
  have hW : KW D (va_A (wM cy h σ) s.heap.size) s.heap (wM cy h σ) s.heap [] := ⟨hP, hD0.self, va_S.rf⟩
  have hA : ∀ q, s.heap.size ≤ q → va_A (wM cy h σ) s.heap.size q := fun q h => Or.inr h
  have hl := lv_entry ([.ref (h 10)]) (n := 3) (Nat.le_of_ble_eq_true rfl)
  rw [lg_entry_eq]
  generalize (lg_sl ([.ref (h 10)]) ++ List.replicate (3 - (lg_sl ([.ref (h 10)])).length) Slot.unset).toArray = ls at hl ⊢
  have hl : lv_has ls 3 [(0, .ref (h 10))] := hl
  unfold fX5_largest at hf
  refine lv_iconst (v := (5 : Int32)) G.1 G.2.1 dX5_largest_0 (by decide) ?_
  refine lv_istore_n (lv' := [(1, .int (5 : Int32)), (0, .ref (h 10))]) G.1 G.2.1 dX5_largest_1 rfl hl (by decide) rfl (fun ls hl => ?_)
  have L2 : ∀ (fu : Nat) (y1 : Int32) (H : Heap) (locs : List Loc) (ls : Array Slot), lz1 (fX5_largest_b2 n σ) fu y1 = some r → KW D (va_A (wM cy h σ) s.heap.size) s.heap (wM cy h σ) H locs → lv_has ls 3 [(1, .int y1), (0, .ref (h 10))] → W p l e (headSpec (ws_ yX5_largest cX5_largest 3 (some .int)) { frames := 4, cells := 0, slots := 0, locals := 89 }).room s m (([.ref (h 10)] : List Value).toArray) below meth c H locs 0 0 (MQ below (va_Qi (fun (r' : Int32) (_ : Unit) => r' = r) (fun _ => KB D (va_A (wM cy h σ) s.heap.size) (wM cy h σ)) (va_A (wM cy h σ) s.heap.size)) (([.ref (h 10)] : List Value).toArray) s 0 0 (va_A (wM cy h σ) s.heap.size)) (F0 m 2 ls []) := by
    intro fu2
    induction fu2 with
    | zero => intro y1 H locs ls hf; cases hf
    | succ fu2 ih2 =>
      intro y1 H locs ls hf hW hl
      rw [lz1_s] at hf
      unfold fX5_largest_b2 at hf
      refine lv_iload_n G.1 G.2.1 dX5_largest_2 rfl (lv_at hl 0 rfl) ?_
      refine lv_if_lt (tgt := 40) G.1 G.2.1 dX5_largest_3 (by decide) (fun c3 => ?_) (fun c3 => ?_)
      · replace hf := it c3 hf
        refine lv_iconst (v := (-1 : Int32)) G.1 G.2.1 dX5_largest_40 (by decide) ?_
        cases hf
        exact k_iret G hr hlk hK hW dX5_largest_41
      · replace hf := ie c3 hf
        refine lv_iconst (v := (0 : Int32)) G.1 G.2.1 dX5_largest_6 (by decide) ?_
        refine lv_istore_n (lv' := [(2, .int (0 : Int32)), (1, .int y1), (0, .ref (h 10))]) G.1 G.2.1 dX5_largest_7 rfl hl (by decide) rfl (fun ls hl => ?_)
        have K8_34 : ∀ (y3 : Int32) (H : Heap) (locs : List Loc) (ls : Array Slot), fX5_largest_k8_34 y1 (lz1 (fX5_largest_b2 n σ) fu2) y3 = some r → KW D (va_A (wM cy h σ) s.heap.size) s.heap (wM cy h σ) H locs → lv_has ls 3 [(2, .int y3), (1, .int y1), (0, .ref (h 10))] → W p l e (headSpec (ws_ yX5_largest cX5_largest 3 (some .int)) { frames := 4, cells := 0, slots := 0, locals := 89 }).room s m (([.ref (h 10)] : List Value).toArray) below meth c H locs 0 0 (MQ below (va_Qi (fun (r' : Int32) (_ : Unit) => r' = r) (fun _ => KB D (va_A (wM cy h σ) s.heap.size) (wM cy h σ)) (va_A (wM cy h σ) s.heap.size)) (([.ref (h 10)] : List Value).toArray) s 0 0 (va_A (wM cy h σ) s.heap.size)) (F0 m 34 ls []) := by
          intro y3 H locs ls hf hW hl
          unfold fX5_largest_k8_34 at hf
          refine lv_iinc (v := (y1 + (-1 : Int32))) (lv' := [(1, .int (y1 + (-1 : Int32))), (2, .int y3), (0, .ref (h 10))]) G.1 G.2.1 dX5_largest_34 hl (k := 1) rfl (congrArg (y1 + ·) (by decide)) (by decide) rfl (fun ls hl => ?_)
          refine lv_goto (tgt := 2) G.1 G.2.1 dX5_largest_37 (by decide) ?_
          exact ih2 _ _ _ _ hf hW (lv_sub hl [0, 2] rfl)
        have L8 : ∀ (fu : Nat) (y4 : Int32) (H : Heap) (locs : List Loc) (ls : Array Slot), lz1 (fX5_largest_b8 n σ y1 (lz1 (fX5_largest_b2 n σ) fu2)) fu y4 = some r → KW D (va_A (wM cy h σ) s.heap.size) s.heap (wM cy h σ) H locs → lv_has ls 3 [(2, .int y4), (1, .int y1), (0, .ref (h 10))] → W p l e (headSpec (ws_ yX5_largest cX5_largest 3 (some .int)) { frames := 4, cells := 0, slots := 0, locals := 89 }).room s m (([.ref (h 10)] : List Value).toArray) below meth c H locs 0 0 (MQ below (va_Qi (fun (r' : Int32) (_ : Unit) => r' = r) (fun _ => KB D (va_A (wM cy h σ) s.heap.size) (wM cy h σ)) (va_A (wM cy h σ) s.heap.size)) (([.ref (h 10)] : List Value).toArray) s 0 0 (va_A (wM cy h σ) s.heap.size)) (F0 m 8 ls []) := by
          intro fu8
          induction fu8 with
          | zero => intro y4 H locs ls hf; cases hf
          | succ fu8 ih8 =>
            intro y4 H locs ls hf hW hl
            rw [lz1_s] at hf
            unfold fX5_largest_b8 at hf
            refine lv_iload_n G.1 G.2.1 dX5_largest_8 rfl (lv_at hl 0 rfl) ?_
            refine lv_bipush (v := (32 : Int32)) G.1 G.2.1 dX5_largest_9 (by decide) ?_
            refine lv_icmp_ge (tgt := 34) G.1 G.2.1 dX5_largest_11 (by decide) (fun c11 => ?_) (fun c11 => ?_)
            · replace hf := it c11 hf
              exact K8_34 _ _ _ _ hf hW (lv_sub hl [0, 1, 2] rfl)
            · replace hf := ie c11 hf
              refine lv_aload_n G.1 G.2.1 dX5_largest_14 rfl (lv_at hl 2 rfl) ?_
              refine lv_iload_n G.1 G.2.1 dX5_largest_15 rfl (lv_at hl 1 rfl) ?_
              refine lv_iload_n G.1 G.2.1 dX5_largest_16 rfl (lv_at hl 0 rfl) ?_
              obtain ⟨v6, ev6, hf⟩ := ob hf
              refine kc_i (wr := []) (w := wM cy h σ) (w' := wM cy h σ) (n := 2) (As := [.int y1, .int y4]) (C := RX5) G hK hA hW (mX5_isFreeNow l D cy h _ n σ y1 y4 ev6) (gV q_29_4 q_29_5 q_29_6 q_1_5 q_29_7) ⟨rfl, rfl⟩ (by decide +kernel) ⟨Nat.le_of_ble_eq_true rfl, Nat.le_of_ble_eq_true rfl⟩ (va_recv hK.1 hW.1 (ci := 7) (q0 := 0) rfl rfl) rfl hl.1 rfl (Nat.le_of_ble_eq_true rfl) dX5_largest_17 ⟨Nat.le_of_ble_eq_true rfl, Nat.le_of_ble_eq_true rfl⟩ (fun H locs hW => ?_)
              refine lv_if_eq (tgt := 25) G.1 G.2.1 dX5_largest_20 (by decide) (fun c20 => ?_) (fun c20 => ?_)
              · replace hf := it c20 hf
                refine lv_iload_n G.1 G.2.1 dX5_largest_25 rfl (lv_at hl 0 rfl) ?_
                refine lv_iconst (v := (1 : Int32)) G.1 G.2.1 dX5_largest_26 (by decide) ?_
                refine lv_iload_n G.1 G.2.1 dX5_largest_27 rfl (lv_at hl 1 rfl) ?_
                refine lv_ishl G.1 G.2.1 dX5_largest_28 ?_
                refine lv_iadd G.1 G.2.1 dX5_largest_29 ?_
                refine lv_istore_n (lv' := [(2, .int (y4 + ((1 : Int32) <<< (y1 &&& 31)))), (1, .int y1), (0, .ref (h 10))]) G.1 G.2.1 dX5_largest_30 rfl hl (by decide) rfl (fun ls hl => ?_)
                refine lv_goto (tgt := 8) G.1 G.2.1 dX5_largest_31 (by decide) ?_
                exact ih8 _ _ _ _ hf hW (lv_sub hl [0, 1, 2] rfl)
              · replace hf := ie c20 hf
                refine lv_iload_n G.1 G.2.1 dX5_largest_23 rfl (lv_at hl 1 rfl) ?_
                cases hf
                exact k_iret G hr hlk hK hW dX5_largest_24
        exact L8 _ _ _ _ _ hf hW (lv_sub hl [0, 1, 2] rfl)
  exact L2 _ _ _ _ _ hf hW (lv_sub hl [0, 1] rfl)

set_option maxHeartbeats 4000000 in
set_option maxRecDepth 100000 in
theorem mX5_largestFree (l : Launch) (D : va_G) (cy : ClassId) (h : Nat → Nat) (sz n : Nat) (σ : St) {r : Int32} {σ' : St} (hf : fX5_largestFree n σ = some (r, σ')) : Mi l yX5_largestFree (ws_ yX5_largestFree cX5_largestFree 2 (some .int)) { frames := 5, cells := 0, slots := 0, locals := 111 } D cy (wM cy h σ) (wM cy h σ') sz [.ref (h 10)] r := by
  refine Met.ofW (cc := cX5_largestFree) (maxL := 2) (ret := (some .int)) (by decide) rfl ?_
  intro p e s m args below meth c s₁ B hml hv
  obtain ⟨rfl, hsz, hP, hK, hD0⟩ := hv
  subst hsz
  have hts := atoms_spec (ws := ws_ yX5_largestFree cX5_largestFree 2 (some .int)) B.pre
  have G : CallFix p m c cX5_largestFree 2 s _ wA RX5 := ⟨B.exec, B.bytes, hml, findClass_of_methodNamed B.named, fun w h => hts w (List.mem_cons_of_mem _ h)⟩
  have hr := B.returns
  have hlk := B.notSynchronized
  have hW : KW D (va_A (wM cy h σ) s.heap.size) s.heap (wM cy h σ) s.heap [] := ⟨hP, hD0.self, va_S.rf⟩
  have hA : ∀ q, s.heap.size ≤ q → va_A (wM cy h σ) s.heap.size q := fun q h => Or.inr h
  have hl := lv_entry ([.ref (h 10)]) (n := 2) (Nat.le_of_ble_eq_true rfl)
  rw [lg_entry_eq]
  generalize (lg_sl ([.ref (h 10)]) ++ List.replicate (2 - (lg_sl ([.ref (h 10)])).length) Slot.unset).toArray = ls at hl ⊢
  have hl : lv_has ls 2 [(0, .ref (h 10))] := hl
  unfold fX5_largestFree at hf
  refine lv_aload_n G.1 G.2.1 dX5_largestFree_0 rfl (lv_at hl 0 rfl) ?_
  refine lv_iconst (v := (0 : Int32)) G.1 G.2.1 dX5_largestFree_1 (by decide) ?_
  obtain ⟨s1, es1, hf⟩ := ob hf
  refine k_put (w := wM cy h) G inlX5 tyX5 tyX5_ok nmX5 hK hW 0 6 rfl rfl 4 (by decide) q_8_2 rfl (by decide +kernel) (Nat.le_of_ble_eq_true rfl) rfl es1 dX5_largestFree_2 (fun H locs hW => ?_)
  refine lv_aload_n G.1 G.2.1 dX5_largestFree_5 rfl (lv_at hl 0 rfl) ?_
  obtain ⟨v2, ev2, hf⟩ := ob hf
  refine kc_i (wr := []) (w := wM cy h s1) (w' := wM cy h s1) (n := 0) (As := []) (C := RX5) G hK hA hW (mX5_largest l D cy h _ n s1  ev2) (gV q_30_2 q_30_3 q_30_4 q_1_5 q_30_5) ⟨rfl, rfl⟩ (by decide +kernel) ⟨Nat.le_of_ble_eq_true rfl, Nat.le_of_ble_eq_true rfl⟩ (va_recv hK.1 hW.1 (ci := 7) (q0 := 0) rfl rfl) rfl hl.1 rfl (Nat.le_of_ble_eq_true rfl) dX5_largestFree_6 ⟨Nat.le_of_ble_eq_true rfl, Nat.le_of_ble_eq_true rfl⟩ (fun H locs hW => ?_)
  refine lv_istore_n (lv' := [(1, .int v2), (0, .ref (h 10))]) G.1 G.2.1 dX5_largestFree_9 rfl hl (by decide) rfl (fun ls hl => ?_)
  refine lv_iload_n G.1 G.2.1 dX5_largestFree_10 rfl (lv_at hl 0 rfl) ?_
  refine lv_if_ge (tgt := 22) G.1 G.2.1 dX5_largestFree_11 (by decide) (fun c11 => ?_) (fun c11 => ?_)
  · replace hf := it c11 hf
    refine lv_iload_n G.1 G.2.1 dX5_largestFree_22 rfl (lv_at hl 0 rfl) ?_
    cases hf
    exact k_iret G hr hlk hK hW dX5_largestFree_23
  · replace hf := ie c11 hf
    refine lv_aload_n G.1 G.2.1 dX5_largestFree_14 rfl (lv_at hl 1 rfl) ?_
    refine lv_iconst (v := (1 : Int32)) G.1 G.2.1 dX5_largestFree_15 (by decide) ?_
    obtain ⟨v3, s4, ev3, hf⟩ := ob2 hf
    refine kc_i (wr := []) (w := wM cy h s1) (w' := wM cy h s4) (n := 1) (As := [.int (1 : Int32)]) (C := RX5) G hK hA hW (mX5_raises l D cy h _ n s1 (1 : Int32) ev3) (gV q_8_6 q_8_7 q_8_8 q_1_5 q_8_9) ⟨rfl, rfl⟩ (by decide +kernel) ⟨Nat.le_of_ble_eq_true rfl, Nat.le_of_ble_eq_true rfl⟩ (va_recv hK.1 hW.1 (ci := 7) (q0 := 0) rfl rfl) rfl hl.1 rfl (Nat.le_of_ble_eq_true rfl) dX5_largestFree_16 ⟨Nat.le_of_ble_eq_true rfl, Nat.le_of_ble_eq_true rfl⟩ (fun H locs hW => ?_)
    refine lv_goto (tgt := 23) G.1 G.2.1 dX5_largestFree_19 (by decide) ?_
    cases hf
    exact k_iret G hr hlk hK hW dX5_largestFree_23

set_option maxHeartbeats 4000000 in
set_option maxRecDepth 100000 in
theorem mX5_fragmentation (l : Launch) (D : va_G) (cy : ClassId) (h : Nat → Nat) (sz n : Nat) (σ : St) {r : UInt64} {σ' : St} (hf : fX5_fragmentation n σ = some (r, σ')) : Md l yX5_fragmentation (ws_ yX5_fragmentation cX5_fragmentation 2 (some .double)) { frames := 5, cells := 0, slots := 0, locals := 111 } D cy (wM cy h σ) (wM cy h σ') sz [.ref (h 10)] r := by
  refine Met.ofW (cc := cX5_fragmentation) (maxL := 2) (ret := (some .double)) (by decide) rfl ?_
  intro p e s m args below meth c s₁ B hml hv
  obtain ⟨rfl, hsz, hP, hK, hD0⟩ := hv
  subst hsz
  have hts := atoms_spec (ws := ws_ yX5_fragmentation cX5_fragmentation 2 (some .double)) B.pre
  have G : CallFix p m c cX5_fragmentation 2 s _ wA RX5 := ⟨B.exec, B.bytes, hml, findClass_of_methodNamed B.named, fun w h => hts w (List.mem_cons_of_mem _ h)⟩
  have hr := B.returns
  have hlk := B.notSynchronized
  have hW : KW D (va_A (wM cy h σ) s.heap.size) s.heap (wM cy h σ) s.heap [] := ⟨hP, hD0.self, va_S.rf⟩
  have hA : ∀ q, s.heap.size ≤ q → va_A (wM cy h σ) s.heap.size q := fun q h => Or.inr h
  have hl := lv_entry ([.ref (h 10)]) (n := 2) (Nat.le_of_ble_eq_true rfl)
  rw [lg_entry_eq]
  generalize (lg_sl ([.ref (h 10)]) ++ List.replicate (2 - (lg_sl ([.ref (h 10)])).length) Slot.unset).toArray = ls at hl ⊢
  have hl : lv_has ls 2 [(0, .ref (h 10))] := hl
  unfold fX5_fragmentation at hf
  refine lv_aload_n G.1 G.2.1 dX5_fragmentation_0 rfl (lv_at hl 0 rfl) ?_
  refine lv_iconst (v := (0 : Int32)) G.1 G.2.1 dX5_fragmentation_1 (by decide) ?_
  obtain ⟨s1, es1, hf⟩ := ob hf
  refine k_put (w := wM cy h) G inlX5 tyX5 tyX5_ok nmX5 hK hW 0 6 rfl rfl 4 (by decide) q_8_2 rfl (by decide +kernel) (Nat.le_of_ble_eq_true rfl) rfl es1 dX5_fragmentation_2 (fun H locs hW => ?_)
  refine lv_aload_n G.1 G.2.1 dX5_fragmentation_5 rfl (lv_at hl 0 rfl) ?_
  obtain ⟨v2, ev2, hf⟩ := ob hf
  refine kc_i (wr := []) (w := wM cy h s1) (w' := wM cy h s1) (n := 0) (As := []) (C := RX5) G hK hA hW (mX5_largest l D cy h _ n s1  ev2) (gV q_30_2 q_30_3 q_30_4 q_1_5 q_30_5) ⟨rfl, rfl⟩ (by decide +kernel) ⟨Nat.le_of_ble_eq_true rfl, Nat.le_of_ble_eq_true rfl⟩ (va_recv hK.1 hW.1 (ci := 7) (q0 := 0) rfl rfl) rfl hl.1 rfl (Nat.le_of_ble_eq_true rfl) dX5_fragmentation_6 ⟨Nat.le_of_ble_eq_true rfl, Nat.le_of_ble_eq_true rfl⟩ (fun H locs hW => ?_)
  refine lv_istore_n (lv' := [(1, .int v2), (0, .ref (h 10))]) G.1 G.2.1 dX5_fragmentation_9 rfl hl (by decide) rfl (fun ls hl => ?_)
  refine lv_iload_n G.1 G.2.1 dX5_fragmentation_10 rfl (lv_at hl 0 rfl) ?_
  refine lv_if_ge (tgt := 23) G.1 G.2.1 dX5_fragmentation_11 (by decide) (fun c11 => ?_) (fun c11 => ?_)
  · replace hf := it c11 hf
    refine lv_dconst1 G.1 G.2.1 dX5_fragmentation_23 ?_
    refine lv_iconst (v := (1 : Int32)) G.1 G.2.1 dX5_fragmentation_24 (by decide) ?_
    refine lv_iload_n G.1 G.2.1 dX5_fragmentation_25 rfl (lv_at hl 0 rfl) ?_
    refine lv_ishl G.1 G.2.1 dX5_fragmentation_26 ?_
    refine lv_i2d G.1 G.2.1 dX5_fragmentation_27 ?_
    refine lv_aload_n G.1 G.2.1 dX5_fragmentation_28 rfl (lv_at hl 1 rfl) ?_
    refine lv_aload_n G.1 G.2.1 dX5_fragmentation_29 rfl (lv_at hl 1 rfl) ?_
    refine k_get G inlX5 hK hW 0 rfl rfl 0 (by decide) q_4_6 rfl dX5_fragmentation_30 ?_
    refine lv_iconst (v := (0 : Int32)) G.1 G.2.1 dX5_fragmentation_33 (by decide) ?_
    obtain ⟨v3, ev3, hf⟩ := ob hf
    refine k_ald G hK hW 1 rfl ev3 dX5_fragmentation_34 ?_
    obtain ⟨v4, ev4, hf⟩ := ob hf
    refine kc_i (wr := []) (w := wM cy h s1) (w' := wM cy h s1) (n := 1) (As := [.int v3]) (C := RX5) G hK hA hW (mX5_frees l D cy h _ n s1 v3 ev4) (gV q_28_6 q_28_7 q_28_8 q_1_5 q_28_9) ⟨rfl, rfl⟩ (by decide +kernel) ⟨Nat.le_of_ble_eq_true rfl, Nat.le_of_ble_eq_true rfl⟩ (va_recv hK.1 hW.1 (ci := 7) (q0 := 0) rfl rfl) rfl hl.1 rfl (Nat.le_of_ble_eq_true rfl) dX5_fragmentation_35 ⟨Nat.le_of_ble_eq_true rfl, Nat.le_of_ble_eq_true rfl⟩ (fun H locs hW => ?_)
    refine lv_i2d G.1 G.2.1 dX5_fragmentation_38 ?_
    obtain ⟨v5, ev5, hf⟩ := ob hf
    obtain ⟨zv5, ev5⟩ := od_s ev5
    refine lv_ddiv G.1 G.2.1 dX5_fragmentation_39 zv5 ?_
    rw [← ev5]
    obtain ⟨v6, ev6, hf⟩ := ob hf
    obtain ⟨zv6, ev6⟩ := od_s ev6
    refine lv_dsub G.1 G.2.1 dX5_fragmentation_40 zv6 ?_
    rw [← ev6]
    cases hf
    exact k_dret G hr hlk hK hW dX5_fragmentation_41
  · replace hf := ie c11 hf
    refine lv_aload_n G.1 G.2.1 dX5_fragmentation_14 rfl (lv_at hl 1 rfl) ?_
    refine lv_iconst (v := (1 : Int32)) G.1 G.2.1 dX5_fragmentation_15 (by decide) ?_
    obtain ⟨v7, s8, ev7, hf⟩ := ob2 hf
    refine kc_i (wr := []) (w := wM cy h s1) (w' := wM cy h s8) (n := 1) (As := [.int (1 : Int32)]) (C := RX5) G hK hA hW (mX5_raises l D cy h _ n s1 (1 : Int32) ev7) (gV q_8_6 q_8_7 q_8_8 q_1_5 q_8_9) ⟨rfl, rfl⟩ (by decide +kernel) ⟨Nat.le_of_ble_eq_true rfl, Nat.le_of_ble_eq_true rfl⟩ (va_recv hK.1 hW.1 (ci := 7) (q0 := 0) rfl rfl) rfl hl.1 rfl (Nat.le_of_ble_eq_true rfl) dX5_fragmentation_16 ⟨Nat.le_of_ble_eq_true rfl, Nat.le_of_ble_eq_true rfl⟩ (fun H locs hW => ?_)
    refine lv_i2d G.1 G.2.1 dX5_fragmentation_19 ?_
    refine lv_goto (tgt := 41) G.1 G.2.1 dX5_fragmentation_20 (by decide) ?_
    cases hf
    exact k_dret G hr hlk hK hW dX5_fragmentation_41

set_option maxHeartbeats 4000000 in
set_option maxRecDepth 100000 in
theorem mX5_earliestStart (l : Launch) (D : va_G) (cy : ClassId) (h : Nat → Nat) (sz n : Nat) (σ : St) (x1 : Int32) (x2 : Int32) {r : Int32} {σ' : St} (hf : fX5_earliestStart n σ x1 x2 = some (r, σ')) : Mi l yX5_earliestStart (ws_ yX5_earliestStart cX5_earliestStart 3 (some .int)) { frames := 5, cells := 0, slots := 0, locals := 118 } D cy (wM cy h σ) (wM cy h σ') sz [.ref (h 10), .int x1, .int x2] r := by
  refine Met.ofW (cc := cX5_earliestStart) (maxL := 3) (ret := (some .int)) (by decide) rfl ?_
  intro p e s m args below meth c s₁ B hml hv
  obtain ⟨rfl, hsz, hP, hK, hD0⟩ := hv
  subst hsz
  have hts := atoms_spec (ws := ws_ yX5_earliestStart cX5_earliestStart 3 (some .int)) B.pre
  have G : CallFix p m c cX5_earliestStart 3 s _ wA RX5 := ⟨B.exec, B.bytes, hml, findClass_of_methodNamed B.named, fun w h => hts w (List.mem_cons_of_mem _ h)⟩
  have hr := B.returns
  have hlk := B.notSynchronized
  have hW : KW D (va_A (wM cy h σ) s.heap.size) s.heap (wM cy h σ) s.heap [] := ⟨hP, hD0.self, va_S.rf⟩
  have hA : ∀ q, s.heap.size ≤ q → va_A (wM cy h σ) s.heap.size q := fun q h => Or.inr h
  have hl := lv_entry ([.ref (h 10), .int x1, .int x2]) (n := 3) (Nat.le_of_ble_eq_true rfl)
  rw [lg_entry_eq]
  generalize (lg_sl ([.ref (h 10), .int x1, .int x2]) ++ List.replicate (3 - (lg_sl ([.ref (h 10), .int x1, .int x2])).length) Slot.unset).toArray = ls at hl ⊢
  have hl : lv_has ls 3 [(0, .ref (h 10)), (1, .int x1), (2, .int x2)] := hl
  unfold fX5_earliestStart at hf
  refine lv_aload_n G.1 G.2.1 dX5_earliestStart_0 rfl (lv_at hl 0 rfl) ?_
  refine lv_iconst (v := (0 : Int32)) G.1 G.2.1 dX5_earliestStart_1 (by decide) ?_
  obtain ⟨s1, es1, hf⟩ := ob hf
  refine k_put (w := wM cy h) G inlX5 tyX5 tyX5_ok nmX5 hK hW 0 6 rfl rfl 4 (by decide) q_8_2 rfl (by decide +kernel) (Nat.le_of_ble_eq_true rfl) rfl es1 dX5_earliestStart_2 (fun H locs hW => ?_)
  refine lv_iload_n G.1 G.2.1 dX5_earliestStart_5 rfl (lv_at hl 1 rfl) ?_
  refine lv_iconst (v := (0 : Int32)) G.1 G.2.1 dX5_earliestStart_6 (by decide) ?_
  refine lv_iconst (v := (5 : Int32)) G.1 G.2.1 dX5_earliestStart_7 (by decide) ?_
  obtain ⟨v2, ev2, hf⟩ := ob hf
  refine kc_s (n := 3) (As := [.int x1, .int (0 : Int32), .int (5 : Int32)]) G hW (mX5_in l n x1 (0 : Int32) (5 : Int32) ev2) (gS q_8_3 q_8_4 q_1_5 q_8_5) ⟨rfl, rfl⟩ (by decide +kernel) ⟨Nat.le_of_ble_eq_true rfl, Nat.le_of_ble_eq_true rfl⟩ rfl hl.1 rfl (Nat.le_of_ble_eq_true rfl) dX5_earliestStart_8 ⟨Nat.le_of_ble_eq_true rfl, Nat.le_of_ble_eq_true rfl⟩ (fun H locs hW => ?_)
  refine lv_if_eq (tgt := 33) G.1 G.2.1 dX5_earliestStart_11 (by decide) (fun c11 => ?_) (fun c11 => ?_)
  · replace hf := it c11 hf
    refine lv_aload_n G.1 G.2.1 dX5_earliestStart_33 rfl (lv_at hl 0 rfl) ?_
    refine lv_iconst (v := (1 : Int32)) G.1 G.2.1 dX5_earliestStart_34 (by decide) ?_
    obtain ⟨v3, s4, ev3, hf⟩ := ob2 hf
    refine kc_i (wr := []) (w := wM cy h s1) (w' := wM cy h s4) (n := 1) (As := [.int (1 : Int32)]) (C := RX5) G hK hA hW (mX5_raises l D cy h _ n s1 (1 : Int32) ev3) (gV q_8_6 q_8_7 q_8_8 q_1_5 q_8_9) ⟨rfl, rfl⟩ (by decide +kernel) ⟨Nat.le_of_ble_eq_true rfl, Nat.le_of_ble_eq_true rfl⟩ (va_recv hK.1 hW.1 (ci := 7) (q0 := 0) rfl rfl) rfl hl.1 rfl (Nat.le_of_ble_eq_true rfl) dX5_earliestStart_35 ⟨Nat.le_of_ble_eq_true rfl, Nat.le_of_ble_eq_true rfl⟩ (fun H locs hW => ?_)
    cases hf
    exact k_iret G hr hlk hK hW dX5_earliestStart_38
  · replace hf := ie c11 hf
    refine lv_iload_n G.1 G.2.1 dX5_earliestStart_14 rfl (lv_at hl 2 rfl) ?_
    refine lv_iconst (v := (1 : Int32)) G.1 G.2.1 dX5_earliestStart_15 (by decide) ?_
    refine lv_bipush (v := (40 : Int32)) G.1 G.2.1 dX5_earliestStart_16 (by decide) ?_
    obtain ⟨v5, ev5, hf⟩ := ob hf
    refine kc_s (n := 3) (As := [.int x2, .int (1 : Int32), .int (40 : Int32)]) G hW (mX5_in l n x2 (1 : Int32) (40 : Int32) ev5) (gS q_8_3 q_8_4 q_1_5 q_8_5) ⟨rfl, rfl⟩ (by decide +kernel) ⟨Nat.le_of_ble_eq_true rfl, Nat.le_of_ble_eq_true rfl⟩ rfl hl.1 rfl (Nat.le_of_ble_eq_true rfl) dX5_earliestStart_18 ⟨Nat.le_of_ble_eq_true rfl, Nat.le_of_ble_eq_true rfl⟩ (fun H locs hW => ?_)
    refine lv_if_eq (tgt := 33) G.1 G.2.1 dX5_earliestStart_21 (by decide) (fun c21 => ?_) (fun c21 => ?_)
    · replace hf := it c21 hf
      refine lv_aload_n G.1 G.2.1 dX5_earliestStart_33 rfl (lv_at hl 0 rfl) ?_
      refine lv_iconst (v := (1 : Int32)) G.1 G.2.1 dX5_earliestStart_34 (by decide) ?_
      obtain ⟨v6, s7, ev6, hf⟩ := ob2 hf
      refine kc_i (wr := []) (w := wM cy h s1) (w' := wM cy h s7) (n := 1) (As := [.int (1 : Int32)]) (C := RX5) G hK hA hW (mX5_raises l D cy h _ n s1 (1 : Int32) ev6) (gV q_8_6 q_8_7 q_8_8 q_1_5 q_8_9) ⟨rfl, rfl⟩ (by decide +kernel) ⟨Nat.le_of_ble_eq_true rfl, Nat.le_of_ble_eq_true rfl⟩ (va_recv hK.1 hW.1 (ci := 7) (q0 := 0) rfl rfl) rfl hl.1 rfl (Nat.le_of_ble_eq_true rfl) dX5_earliestStart_35 ⟨Nat.le_of_ble_eq_true rfl, Nat.le_of_ble_eq_true rfl⟩ (fun H locs hW => ?_)
      cases hf
      exact k_iret G hr hlk hK hW dX5_earliestStart_38
    · replace hf := ie c21 hf
      refine lv_aload_n G.1 G.2.1 dX5_earliestStart_24 rfl (lv_at hl 0 rfl) ?_
      refine lv_iload_n G.1 G.2.1 dX5_earliestStart_25 rfl (lv_at hl 1 rfl) ?_
      refine lv_iload_n G.1 G.2.1 dX5_earliestStart_26 rfl (lv_at hl 2 rfl) ?_
      obtain ⟨v8, ev8, hf⟩ := ob hf
      refine kc_i (wr := []) (w := wM cy h s1) (w' := wM cy h s1) (n := 2) (As := [.int x1, .int x2]) (C := RX5) G hK hA hW (mX5_earliest l D cy h _ n s1 x1 x2 ev8) (gV q_9_2 q_9_3 q_9_4 q_1_5 q_9_5) ⟨rfl, rfl⟩ (by decide +kernel) ⟨Nat.le_of_ble_eq_true rfl, Nat.le_of_ble_eq_true rfl⟩ (va_recv hK.1 hW.1 (ci := 7) (q0 := 0) rfl rfl) rfl hl.1 rfl (Nat.le_of_ble_eq_true rfl) dX5_earliestStart_27 ⟨Nat.le_of_ble_eq_true rfl, Nat.le_of_ble_eq_true rfl⟩ (fun H locs hW => ?_)
      refine lv_goto (tgt := 38) G.1 G.2.1 dX5_earliestStart_30 (by decide) ?_
      cases hf
      exact k_iret G hr hlk hK hW dX5_earliestStart_38

set_option maxHeartbeats 4000000 in
set_option maxRecDepth 100000 in
theorem mX5_lowestBlock (l : Launch) (D : va_G) (cy : ClassId) (h : Nat → Nat) (sz n : Nat) (σ : St) (x1 : Int32) (x2 : Int32) (x3 : Int32) {r : Int32} {σ' : St} (hf : fX5_lowestBlock n σ x1 x2 x3 = some (r, σ')) : Mi l yX5_lowestBlock (ws_ yX5_lowestBlock cX5_lowestBlock 5 (some .int)) { frames := 4, cells := 0, slots := 0, locals := 92 } D cy (wM cy h σ) (wM cy h σ') sz [.ref (h 10), .int x1, .int x2, .int x3] r := by
  refine Met.ofW (cc := cX5_lowestBlock) (maxL := 5) (ret := (some .int)) (by decide) rfl ?_
  intro p e s m args below meth c s₁ B hml hv
  obtain ⟨rfl, hsz, hP, hK, hD0⟩ := hv
  subst hsz
  have hts := atoms_spec (ws := ws_ yX5_lowestBlock cX5_lowestBlock 5 (some .int)) B.pre
  have G : CallFix p m c cX5_lowestBlock 5 s _ wA RX5 := ⟨B.exec, B.bytes, hml, findClass_of_methodNamed B.named, fun w h => hts w (List.mem_cons_of_mem _ h)⟩
  have hr := B.returns
  have hlk := B.notSynchronized
  have hW : KW D (va_A (wM cy h σ) s.heap.size) s.heap (wM cy h σ) s.heap [] := ⟨hP, hD0.self, va_S.rf⟩
  have hA : ∀ q, s.heap.size ≤ q → va_A (wM cy h σ) s.heap.size q := fun q h => Or.inr h
  have hl := lv_entry ([.ref (h 10), .int x1, .int x2, .int x3]) (n := 5) (Nat.le_of_ble_eq_true rfl)
  rw [lg_entry_eq]
  generalize (lg_sl ([.ref (h 10), .int x1, .int x2, .int x3]) ++ List.replicate (5 - (lg_sl ([.ref (h 10), .int x1, .int x2, .int x3])).length) Slot.unset).toArray = ls at hl ⊢
  have hl : lv_has ls 5 [(0, .ref (h 10)), (1, .int x1), (2, .int x2), (3, .int x3)] := hl
  unfold fX5_lowestBlock at hf
  refine lv_aload_n G.1 G.2.1 dX5_lowestBlock_0 rfl (lv_at hl 0 rfl) ?_
  refine lv_iconst (v := (0 : Int32)) G.1 G.2.1 dX5_lowestBlock_1 (by decide) ?_
  obtain ⟨s1, es1, hf⟩ := ob hf
  refine k_put (w := wM cy h) G inlX5 tyX5 tyX5_ok nmX5 hK hW 0 6 rfl rfl 4 (by decide) q_8_2 rfl (by decide +kernel) (Nat.le_of_ble_eq_true rfl) rfl es1 dX5_lowestBlock_2 (fun H locs hW => ?_)
  refine lv_iload_n G.1 G.2.1 dX5_lowestBlock_5 rfl (lv_at hl 1 rfl) ?_
  refine lv_iconst (v := (0 : Int32)) G.1 G.2.1 dX5_lowestBlock_6 (by decide) ?_
  refine lv_iconst (v := (5 : Int32)) G.1 G.2.1 dX5_lowestBlock_7 (by decide) ?_
  obtain ⟨v2, ev2, hf⟩ := ob hf
  refine kc_s (n := 3) (As := [.int x1, .int (0 : Int32), .int (5 : Int32)]) G hW (mX5_in l n x1 (0 : Int32) (5 : Int32) ev2) (gS q_8_3 q_8_4 q_1_5 q_8_5) ⟨rfl, rfl⟩ (by decide +kernel) ⟨Nat.le_of_ble_eq_true rfl, Nat.le_of_ble_eq_true rfl⟩ rfl hl.1 rfl (Nat.le_of_ble_eq_true rfl) dX5_lowestBlock_8 ⟨Nat.le_of_ble_eq_true rfl, Nat.le_of_ble_eq_true rfl⟩ (fun H locs hW => ?_)
  refine lv_if_eq (tgt := 35) G.1 G.2.1 dX5_lowestBlock_11 (by decide) (fun c11 => ?_) (fun c11 => ?_)
  · replace hf := it c11 hf
    refine lv_aload_n G.1 G.2.1 dX5_lowestBlock_35 rfl (lv_at hl 0 rfl) ?_
    refine lv_iconst (v := (1 : Int32)) G.1 G.2.1 dX5_lowestBlock_36 (by decide) ?_
    obtain ⟨v3, s4, ev3, hf⟩ := ob2 hf
    refine kc_i (wr := []) (w := wM cy h s1) (w' := wM cy h s4) (n := 1) (As := [.int (1 : Int32)]) (C := RX5) G hK hA hW (mX5_raises l D cy h _ n s1 (1 : Int32) ev3) (gV q_8_6 q_8_7 q_8_8 q_1_5 q_8_9) ⟨rfl, rfl⟩ (by decide +kernel) ⟨Nat.le_of_ble_eq_true rfl, Nat.le_of_ble_eq_true rfl⟩ (va_recv hK.1 hW.1 (ci := 7) (q0 := 0) rfl rfl) rfl hl.1 rfl (Nat.le_of_ble_eq_true rfl) dX5_lowestBlock_37 ⟨Nat.le_of_ble_eq_true rfl, Nat.le_of_ble_eq_true rfl⟩ (fun H locs hW => ?_)
    cases hf
    exact k_iret G hr hlk hK hW dX5_lowestBlock_40
  · replace hf := ie c11 hf
    refine lv_iload_n G.1 G.2.1 dX5_lowestBlock_14 rfl (lv_at hl 2 rfl) ?_
    refine lv_iconst (v := (0 : Int32)) G.1 G.2.1 dX5_lowestBlock_15 (by decide) ?_
    refine lv_sipush (v := (1000 : Int32)) G.1 G.2.1 dX5_lowestBlock_16 (by decide) ?_
    obtain ⟨v5, ev5, hf⟩ := ob hf
    refine kc_s (n := 3) (As := [.int x2, .int (0 : Int32), .int (1000 : Int32)]) G hW (mX5_in l n x2 (0 : Int32) (1000 : Int32) ev5) (gS q_8_3 q_8_4 q_1_5 q_8_5) ⟨rfl, rfl⟩ (by decide +kernel) ⟨Nat.le_of_ble_eq_true rfl, Nat.le_of_ble_eq_true rfl⟩ rfl hl.1 rfl (Nat.le_of_ble_eq_true rfl) dX5_lowestBlock_19 ⟨Nat.le_of_ble_eq_true rfl, Nat.le_of_ble_eq_true rfl⟩ (fun H locs hW => ?_)
    refine lv_if_eq (tgt := 35) G.1 G.2.1 dX5_lowestBlock_22 (by decide) (fun c22 => ?_) (fun c22 => ?_)
    · replace hf := it c22 hf
      refine lv_aload_n G.1 G.2.1 dX5_lowestBlock_35 rfl (lv_at hl 0 rfl) ?_
      refine lv_iconst (v := (1 : Int32)) G.1 G.2.1 dX5_lowestBlock_36 (by decide) ?_
      obtain ⟨v6, s7, ev6, hf⟩ := ob2 hf
      refine kc_i (wr := []) (w := wM cy h s1) (w' := wM cy h s7) (n := 1) (As := [.int (1 : Int32)]) (C := RX5) G hK hA hW (mX5_raises l D cy h _ n s1 (1 : Int32) ev6) (gV q_8_6 q_8_7 q_8_8 q_1_5 q_8_9) ⟨rfl, rfl⟩ (by decide +kernel) ⟨Nat.le_of_ble_eq_true rfl, Nat.le_of_ble_eq_true rfl⟩ (va_recv hK.1 hW.1 (ci := 7) (q0 := 0) rfl rfl) rfl hl.1 rfl (Nat.le_of_ble_eq_true rfl) dX5_lowestBlock_37 ⟨Nat.le_of_ble_eq_true rfl, Nat.le_of_ble_eq_true rfl⟩ (fun H locs hW => ?_)
      cases hf
      exact k_iret G hr hlk hK hW dX5_lowestBlock_40
    · replace hf := ie c22 hf
      refine lv_iload_n G.1 G.2.1 dX5_lowestBlock_25 rfl (lv_at hl 3 rfl) ?_
      refine lv_iconst (v := (1 : Int32)) G.1 G.2.1 dX5_lowestBlock_26 (by decide) ?_
      refine lv_bipush (v := (40 : Int32)) G.1 G.2.1 dX5_lowestBlock_27 (by decide) ?_
      obtain ⟨v8, ev8, hf⟩ := ob hf
      refine kc_s (n := 3) (As := [.int x3, .int (1 : Int32), .int (40 : Int32)]) G hW (mX5_in l n x3 (1 : Int32) (40 : Int32) ev8) (gS q_8_3 q_8_4 q_1_5 q_8_5) ⟨rfl, rfl⟩ (by decide +kernel) ⟨Nat.le_of_ble_eq_true rfl, Nat.le_of_ble_eq_true rfl⟩ rfl hl.1 rfl (Nat.le_of_ble_eq_true rfl) dX5_lowestBlock_29 ⟨Nat.le_of_ble_eq_true rfl, Nat.le_of_ble_eq_true rfl⟩ (fun H locs hW => ?_)
      refine lv_if_ne (tgt := 41) G.1 G.2.1 dX5_lowestBlock_32 (by decide) (fun c32 => ?_) (fun c32 => ?_)
      · replace hf := ie c32 hf
        refine lv_aload_n G.1 G.2.1 dX5_lowestBlock_41 rfl (lv_at hl 0 rfl) ?_
        refine lv_iload_n G.1 G.2.1 dX5_lowestBlock_42 rfl (lv_at hl 1 rfl) ?_
        refine lv_iload_n G.1 G.2.1 dX5_lowestBlock_43 rfl (lv_at hl 2 rfl) ?_
        refine lv_iload_n G.1 G.2.1 dX5_lowestBlock_44 rfl (lv_at hl 3 rfl) ?_
        obtain ⟨v9, ev9, hf⟩ := ob hf
        refine kc_i (wr := []) (w := wM cy h s1) (w' := wM cy h s1) (n := 3) (As := [.int x1, .int x2, .int x3]) (C := RX5) G hK hA hW (mX5_lowest l D cy h _ n s1 x1 x2 x3 ev9) (gV q_9_15 q_9_16 q_9_17 q_1_5 q_9_18) ⟨rfl, rfl⟩ (by decide +kernel) ⟨Nat.le_of_ble_eq_true rfl, Nat.le_of_ble_eq_true rfl⟩ (va_recv hK.1 hW.1 (ci := 7) (q0 := 0) rfl rfl) rfl hl.1 rfl (Nat.le_of_ble_eq_true rfl) dX5_lowestBlock_45 ⟨Nat.le_of_ble_eq_true rfl, Nat.le_of_ble_eq_true rfl⟩ (fun H locs hW => ?_)
        refine lv_istore (lv' := [(4, .int v9), (0, .ref (h 10)), (1, .int x1), (2, .int x2), (3, .int x3)]) G.1 G.2.1 dX5_lowestBlock_48 hl (by decide) rfl (fun ls hl => ?_)
        refine lv_iload G.1 G.2.1 dX5_lowestBlock_50 (lv_at hl 0 rfl) ?_
        refine lv_if_ge (tgt := 63) G.1 G.2.1 dX5_lowestBlock_52 (by decide) (fun c52 => ?_) (fun c52 => ?_)
        · replace hf := it c52 hf
          refine lv_iload G.1 G.2.1 dX5_lowestBlock_63 (lv_at hl 0 rfl) ?_
          cases hf
          exact k_iret G hr hlk hK hW dX5_lowestBlock_65
        · replace hf := ie c52 hf
          refine lv_aload_n G.1 G.2.1 dX5_lowestBlock_55 rfl (lv_at hl 1 rfl) ?_
          refine lv_iconst (v := (2 : Int32)) G.1 G.2.1 dX5_lowestBlock_56 (by decide) ?_
          obtain ⟨v10, s11, ev10, hf⟩ := ob2 hf
          refine kc_i (wr := []) (w := wM cy h s1) (w' := wM cy h s11) (n := 1) (As := [.int (2 : Int32)]) (C := RX5) G hK hA hW (mX5_raises l D cy h _ n s1 (2 : Int32) ev10) (gV q_8_6 q_8_7 q_8_8 q_1_5 q_8_9) ⟨rfl, rfl⟩ (by decide +kernel) ⟨Nat.le_of_ble_eq_true rfl, Nat.le_of_ble_eq_true rfl⟩ (va_recv hK.1 hW.1 (ci := 7) (q0 := 0) rfl rfl) rfl hl.1 rfl (Nat.le_of_ble_eq_true rfl) dX5_lowestBlock_57 ⟨Nat.le_of_ble_eq_true rfl, Nat.le_of_ble_eq_true rfl⟩ (fun H locs hW => ?_)
          refine lv_goto (tgt := 65) G.1 G.2.1 dX5_lowestBlock_60 (by decide) ?_
          cases hf
          exact k_iret G hr hlk hK hW dX5_lowestBlock_65
      · replace hf := it c32 hf
        refine lv_aload_n G.1 G.2.1 dX5_lowestBlock_35 rfl (lv_at hl 0 rfl) ?_
        refine lv_iconst (v := (1 : Int32)) G.1 G.2.1 dX5_lowestBlock_36 (by decide) ?_
        obtain ⟨v12, s13, ev12, hf⟩ := ob2 hf
        refine kc_i (wr := []) (w := wM cy h s1) (w' := wM cy h s13) (n := 1) (As := [.int (1 : Int32)]) (C := RX5) G hK hA hW (mX5_raises l D cy h _ n s1 (1 : Int32) ev12) (gV q_8_6 q_8_7 q_8_8 q_1_5 q_8_9) ⟨rfl, rfl⟩ (by decide +kernel) ⟨Nat.le_of_ble_eq_true rfl, Nat.le_of_ble_eq_true rfl⟩ (va_recv hK.1 hW.1 (ci := 7) (q0 := 0) rfl rfl) rfl hl.1 rfl (Nat.le_of_ble_eq_true rfl) dX5_lowestBlock_37 ⟨Nat.le_of_ble_eq_true rfl, Nat.le_of_ble_eq_true rfl⟩ (fun H locs hW => ?_)
        cases hf
        exact k_iret G hr hlk hK hW dX5_lowestBlock_40

set_option maxHeartbeats 4000000 in
set_option maxRecDepth 100000 in
theorem mX5_blockStarts (l : Launch) (D : va_G) (cy : ClassId) (h : Nat → Nat) (sz n : Nat) (σ : St) (x1 : Int32) (x2 : Int32) {r : Int32} {σ' : St} (hf : fX5_blockStarts n σ x1 x2 = some (r, σ')) : Mi l yX5_blockStarts (ws_ yX5_blockStarts cX5_blockStarts 3 (some .int)) { frames := 1, cells := 0, slots := 0, locals := 22 } D cy (wM cy h σ) (wM cy h σ') sz [.ref (h 10), .int x1, .int x2] r := by
  refine Met.ofW (cc := cX5_blockStarts) (maxL := 3) (ret := (some .int)) (by decide) rfl ?_
  intro p e s m args below meth c s₁ B hml hv
  obtain ⟨rfl, hsz, hP, hK, hD0⟩ := hv
  subst hsz
  have hts := atoms_spec (ws := ws_ yX5_blockStarts cX5_blockStarts 3 (some .int)) B.pre
  have G : CallFix p m c cX5_blockStarts 3 s _ wA RX5 := ⟨B.exec, B.bytes, hml, findClass_of_methodNamed B.named, fun w h => hts w (List.mem_cons_of_mem _ h)⟩
  have hr := B.returns
  have hlk := B.notSynchronized
  have hW : KW D (va_A (wM cy h σ) s.heap.size) s.heap (wM cy h σ) s.heap [] := ⟨hP, hD0.self, va_S.rf⟩
  have hA : ∀ q, s.heap.size ≤ q → va_A (wM cy h σ) s.heap.size q := fun q h => Or.inr h
  have hl := lv_entry ([.ref (h 10), .int x1, .int x2]) (n := 3) (Nat.le_of_ble_eq_true rfl)
  rw [lg_entry_eq]
  generalize (lg_sl ([.ref (h 10), .int x1, .int x2]) ++ List.replicate (3 - (lg_sl ([.ref (h 10), .int x1, .int x2])).length) Slot.unset).toArray = ls at hl ⊢
  have hl : lv_has ls 3 [(0, .ref (h 10)), (1, .int x1), (2, .int x2)] := hl
  unfold fX5_blockStarts at hf
  refine lv_aload_n G.1 G.2.1 dX5_blockStarts_0 rfl (lv_at hl 0 rfl) ?_
  refine lv_iconst (v := (0 : Int32)) G.1 G.2.1 dX5_blockStarts_1 (by decide) ?_
  obtain ⟨s1, es1, hf⟩ := ob hf
  refine k_put (w := wM cy h) G inlX5 tyX5 tyX5_ok nmX5 hK hW 0 6 rfl rfl 4 (by decide) q_8_2 rfl (by decide +kernel) (Nat.le_of_ble_eq_true rfl) rfl es1 dX5_blockStarts_2 (fun H locs hW => ?_)
  refine lv_iload_n G.1 G.2.1 dX5_blockStarts_5 rfl (lv_at hl 1 rfl) ?_
  refine lv_iconst (v := (0 : Int32)) G.1 G.2.1 dX5_blockStarts_6 (by decide) ?_
  refine lv_iconst (v := (5 : Int32)) G.1 G.2.1 dX5_blockStarts_7 (by decide) ?_
  obtain ⟨v2, ev2, hf⟩ := ob hf
  refine kc_s (n := 3) (As := [.int x1, .int (0 : Int32), .int (5 : Int32)]) G hW (mX5_in l n x1 (0 : Int32) (5 : Int32) ev2) (gS q_8_3 q_8_4 q_1_5 q_8_5) ⟨rfl, rfl⟩ (by decide +kernel) ⟨Nat.le_of_ble_eq_true rfl, Nat.le_of_ble_eq_true rfl⟩ rfl hl.1 rfl (Nat.le_of_ble_eq_true rfl) dX5_blockStarts_8 ⟨Nat.le_of_ble_eq_true rfl, Nat.le_of_ble_eq_true rfl⟩ (fun H locs hW => ?_)
  refine lv_if_eq (tgt := 32) G.1 G.2.1 dX5_blockStarts_11 (by decide) (fun c11 => ?_) (fun c11 => ?_)
  · replace hf := it c11 hf
    refine lv_aload_n G.1 G.2.1 dX5_blockStarts_32 rfl (lv_at hl 0 rfl) ?_
    refine lv_iconst (v := (1 : Int32)) G.1 G.2.1 dX5_blockStarts_33 (by decide) ?_
    obtain ⟨v3, s4, ev3, hf⟩ := ob2 hf
    refine kc_i (wr := []) (w := wM cy h s1) (w' := wM cy h s4) (n := 1) (As := [.int (1 : Int32)]) (C := RX5) G hK hA hW (mX5_raises l D cy h _ n s1 (1 : Int32) ev3) (gV q_8_6 q_8_7 q_8_8 q_1_5 q_8_9) ⟨rfl, rfl⟩ (by decide +kernel) ⟨Nat.le_of_ble_eq_true rfl, Nat.le_of_ble_eq_true rfl⟩ (va_recv hK.1 hW.1 (ci := 7) (q0 := 0) rfl rfl) rfl hl.1 rfl (Nat.le_of_ble_eq_true rfl) dX5_blockStarts_34 ⟨Nat.le_of_ble_eq_true rfl, Nat.le_of_ble_eq_true rfl⟩ (fun H locs hW => ?_)
    cases hf
    exact k_iret G hr hlk hK hW dX5_blockStarts_37
  · replace hf := ie c11 hf
    refine lv_iload_n G.1 G.2.1 dX5_blockStarts_14 rfl (lv_at hl 2 rfl) ?_
    refine lv_iconst (v := (0 : Int32)) G.1 G.2.1 dX5_blockStarts_15 (by decide) ?_
    refine lv_bipush (v := (31 : Int32)) G.1 G.2.1 dX5_blockStarts_16 (by decide) ?_
    obtain ⟨v5, ev5, hf⟩ := ob hf
    refine kc_s (n := 3) (As := [.int x2, .int (0 : Int32), .int (31 : Int32)]) G hW (mX5_in l n x2 (0 : Int32) (31 : Int32) ev5) (gS q_8_3 q_8_4 q_1_5 q_8_5) ⟨rfl, rfl⟩ (by decide +kernel) ⟨Nat.le_of_ble_eq_true rfl, Nat.le_of_ble_eq_true rfl⟩ rfl hl.1 rfl (Nat.le_of_ble_eq_true rfl) dX5_blockStarts_18 ⟨Nat.le_of_ble_eq_true rfl, Nat.le_of_ble_eq_true rfl⟩ (fun H locs hW => ?_)
    refine lv_if_eq (tgt := 32) G.1 G.2.1 dX5_blockStarts_21 (by decide) (fun c21 => ?_) (fun c21 => ?_)
    · replace hf := it c21 hf
      refine lv_aload_n G.1 G.2.1 dX5_blockStarts_32 rfl (lv_at hl 0 rfl) ?_
      refine lv_iconst (v := (1 : Int32)) G.1 G.2.1 dX5_blockStarts_33 (by decide) ?_
      obtain ⟨v6, s7, ev6, hf⟩ := ob2 hf
      refine kc_i (wr := []) (w := wM cy h s1) (w' := wM cy h s7) (n := 1) (As := [.int (1 : Int32)]) (C := RX5) G hK hA hW (mX5_raises l D cy h _ n s1 (1 : Int32) ev6) (gV q_8_6 q_8_7 q_8_8 q_1_5 q_8_9) ⟨rfl, rfl⟩ (by decide +kernel) ⟨Nat.le_of_ble_eq_true rfl, Nat.le_of_ble_eq_true rfl⟩ (va_recv hK.1 hW.1 (ci := 7) (q0 := 0) rfl rfl) rfl hl.1 rfl (Nat.le_of_ble_eq_true rfl) dX5_blockStarts_34 ⟨Nat.le_of_ble_eq_true rfl, Nat.le_of_ble_eq_true rfl⟩ (fun H locs hW => ?_)
      cases hf
      exact k_iret G hr hlk hK hW dX5_blockStarts_37
    · replace hf := ie c21 hf
      refine lv_iload_n G.1 G.2.1 dX5_blockStarts_24 rfl (lv_at hl 2 rfl) ?_
      refine lv_iconst (v := (1 : Int32)) G.1 G.2.1 dX5_blockStarts_25 (by decide) ?_
      refine lv_iload_n G.1 G.2.1 dX5_blockStarts_26 rfl (lv_at hl 1 rfl) ?_
      refine lv_ishl G.1 G.2.1 dX5_blockStarts_27 ?_
      obtain ⟨v8, ev8, hf⟩ := ob hf
      obtain ⟨zv8, ev8⟩ := orem_s ev8
      refine lv_irem G.1 G.2.1 dX5_blockStarts_28 zv8 ?_
      rw [← ev8]
      refine lv_if_eq (tgt := 38) G.1 G.2.1 dX5_blockStarts_29 (by decide) (fun c29 => ?_) (fun c29 => ?_)
      · replace hf := it c29 hf
        refine lv_aload_n G.1 G.2.1 dX5_blockStarts_38 rfl (lv_at hl 0 rfl) ?_
        refine k_get G inlX5 hK hW 0 rfl rfl 0 (by decide) q_4_6 rfl dX5_blockStarts_39 ?_
        refine lv_sipush (v := (545 : Int32)) G.1 G.2.1 dX5_blockStarts_42 (by decide) ?_
        refine lv_iload_n G.1 G.2.1 dX5_blockStarts_45 rfl (lv_at hl 1 rfl) ?_
        refine lv_iload_n G.1 G.2.1 dX5_blockStarts_46 rfl (lv_at hl 2 rfl) ?_
        obtain ⟨v9, ev9, hf⟩ := ob hf
        refine kc_s (n := 2) (As := [.int x1, .int x2]) G hW (mX5_block l n x1 x2 ev9) (gS q_10_6 q_10_7 q_1_5 q_10_8) ⟨rfl, rfl⟩ (by decide +kernel) ⟨Nat.le_of_ble_eq_true rfl, Nat.le_of_ble_eq_true rfl⟩ rfl hl.1 rfl (Nat.le_of_ble_eq_true rfl) dX5_blockStarts_47 ⟨Nat.le_of_ble_eq_true rfl, Nat.le_of_ble_eq_true rfl⟩ (fun H locs hW => ?_)
        refine lv_iadd G.1 G.2.1 dX5_blockStarts_50 ?_
        obtain ⟨v10, ev10, hf⟩ := ob hf
        refine k_ald G hK hW 1 rfl ev10 dX5_blockStarts_51 ?_
        cases hf
        exact k_iret G hr hlk hK hW dX5_blockStarts_52
      · replace hf := ie c29 hf
        refine lv_aload_n G.1 G.2.1 dX5_blockStarts_32 rfl (lv_at hl 0 rfl) ?_
        refine lv_iconst (v := (1 : Int32)) G.1 G.2.1 dX5_blockStarts_33 (by decide) ?_
        obtain ⟨v11, s12, ev11, hf⟩ := ob2 hf
        refine kc_i (wr := []) (w := wM cy h s1) (w' := wM cy h s12) (n := 1) (As := [.int (1 : Int32)]) (C := RX5) G hK hA hW (mX5_raises l D cy h _ n s1 (1 : Int32) ev11) (gV q_8_6 q_8_7 q_8_8 q_1_5 q_8_9) ⟨rfl, rfl⟩ (by decide +kernel) ⟨Nat.le_of_ble_eq_true rfl, Nat.le_of_ble_eq_true rfl⟩ (va_recv hK.1 hW.1 (ci := 7) (q0 := 0) rfl rfl) rfl hl.1 rfl (Nat.le_of_ble_eq_true rfl) dX5_blockStarts_34 ⟨Nat.le_of_ble_eq_true rfl, Nat.le_of_ble_eq_true rfl⟩ (fun H locs hW => ?_)
        cases hf
        exact k_iret G hr hlk hK hW dX5_blockStarts_37

set_option maxHeartbeats 4000000 in
set_option maxRecDepth 100000 in
theorem mX5_busiestBlock (l : Launch) (D : va_G) (cy : ClassId) (h : Nat → Nat) (sz n : Nat) (σ : St) {r : Int32} {σ' : St} (hf : fX5_busiestBlock n σ = some (r, σ')) : Mi l yX5_busiestBlock (ws_ yX5_busiestBlock cX5_busiestBlock 5 (some .int)) { frames := 1, cells := 0, slots := 0, locals := 21 } D cy (wM cy h σ) (wM cy h σ') sz [.ref (h 10)] r := by
  refine Met.ofW (cc := cX5_busiestBlock) (maxL := 5) (ret := (some .int)) (by decide) rfl ?_
  intro p e s m args below meth c s₁ B hml hv
  obtain ⟨rfl, hsz, hP, hK, hD0⟩ := hv
  subst hsz
  have hts := atoms_spec (ws := ws_ yX5_busiestBlock cX5_busiestBlock 5 (some .int)) B.pre
  have G : CallFix p m c cX5_busiestBlock 5 s _ wA RX5 := ⟨B.exec, B.bytes, hml, findClass_of_methodNamed B.named, fun w h => hts w (List.mem_cons_of_mem _ h)⟩
  have hr := B.returns
  have hlk := B.notSynchronized
  have hW : KW D (va_A (wM cy h σ) s.heap.size) s.heap (wM cy h σ) s.heap [] := ⟨hP, hD0.self, va_S.rf⟩
  have hA : ∀ q, s.heap.size ≤ q → va_A (wM cy h σ) s.heap.size q := fun q h => Or.inr h
  have hl := lv_entry ([.ref (h 10)]) (n := 5) (Nat.le_of_ble_eq_true rfl)
  rw [lg_entry_eq]
  generalize (lg_sl ([.ref (h 10)]) ++ List.replicate (5 - (lg_sl ([.ref (h 10)])).length) Slot.unset).toArray = ls at hl ⊢
  have hl : lv_has ls 5 [(0, .ref (h 10))] := hl
  unfold fX5_busiestBlock at hf
  refine lv_aload_n G.1 G.2.1 dX5_busiestBlock_0 rfl (lv_at hl 0 rfl) ?_
  refine lv_iconst (v := (0 : Int32)) G.1 G.2.1 dX5_busiestBlock_1 (by decide) ?_
  obtain ⟨s1, es1, hf⟩ := ob hf
  refine k_put (w := wM cy h) G inlX5 tyX5 tyX5_ok nmX5 hK hW 0 6 rfl rfl 4 (by decide) q_8_2 rfl (by decide +kernel) (Nat.le_of_ble_eq_true rfl) rfl es1 dX5_busiestBlock_2 (fun H locs hW => ?_)
  refine lv_iconst (v := (0 : Int32)) G.1 G.2.1 dX5_busiestBlock_5 (by decide) ?_
  refine lv_istore_n (lv' := [(1, .int (0 : Int32)), (0, .ref (h 10))]) G.1 G.2.1 dX5_busiestBlock_6 rfl hl (by decide) rfl (fun ls hl => ?_)
  refine lv_iconst (v := (0 : Int32)) G.1 G.2.1 dX5_busiestBlock_7 (by decide) ?_
  refine lv_istore_n (lv' := [(2, .int (0 : Int32)), (1, .int (0 : Int32)), (0, .ref (h 10))]) G.1 G.2.1 dX5_busiestBlock_8 rfl hl (by decide) rfl (fun ls hl => ?_)
  refine lv_iconst (v := (0 : Int32)) G.1 G.2.1 dX5_busiestBlock_9 (by decide) ?_
  refine lv_istore_n (lv' := [(3, .int (0 : Int32)), (2, .int (0 : Int32)), (1, .int (0 : Int32)), (0, .ref (h 10))]) G.1 G.2.1 dX5_busiestBlock_10 rfl hl (by decide) rfl (fun ls hl => ?_)
  have L11 : ∀ (fu : Nat) (y2 : Int32) (y3 : Int32) (y4 : Int32) (H : Heap) (locs : List Loc) (ls : Array Slot), lz3 (fX5_busiestBlock_b11 n s1) fu y2 y3 y4 = some (r, σ') → KW D (va_A (wM cy h σ) s.heap.size) s.heap (wM cy h s1) H locs → lv_has ls 5 [(3, .int y2), (2, .int y3), (1, .int y4), (0, .ref (h 10))] → W p l e (headSpec (ws_ yX5_busiestBlock cX5_busiestBlock 5 (some .int)) { frames := 1, cells := 0, slots := 0, locals := 21 }).room s m (([.ref (h 10)] : List Value).toArray) below meth c H locs 0 0 (MQ below (va_Qi (fun (r' : Int32) (_ : Unit) => r' = r) (fun _ => KB D (va_A (wM cy h σ) s.heap.size) (wM cy h σ')) (va_A (wM cy h σ) s.heap.size)) (([.ref (h 10)] : List Value).toArray) s 0 0 (va_A (wM cy h σ) s.heap.size)) (F0 m 11 ls []) := by
    intro fu11
    induction fu11 with
    | zero => intro y2 y3 y4 H locs ls hf; cases hf
    | succ fu11 ih11 =>
      intro y2 y3 y4 H locs ls hf hW hl
      rw [lz3_s] at hf
      unfold fX5_busiestBlock_b11 at hf
      refine lv_iload_n G.1 G.2.1 dX5_busiestBlock_11 rfl (lv_at hl 0 rfl) ?_
      refine lv_bipush (v := (6 : Int32)) G.1 G.2.1 dX5_busiestBlock_12 (by decide) ?_
      refine lv_icmp_ge (tgt := 90) G.1 G.2.1 dX5_busiestBlock_14 (by decide) (fun c14 => ?_) (fun c14 => ?_)
      · replace hf := it c14 hf
        refine lv_iload_n G.1 G.2.1 dX5_busiestBlock_90 rfl (lv_at hl 2 rfl) ?_
        refine lv_if_ne (tgt := 102) G.1 G.2.1 dX5_busiestBlock_91 (by decide) (fun c91 => ?_) (fun c91 => ?_)
        · replace hf := ie c91 hf
          refine lv_iload_n G.1 G.2.1 dX5_busiestBlock_102 rfl (lv_at hl 1 rfl) ?_
          cases hf
          exact k_iret G hr hlk hK hW dX5_busiestBlock_103
        · replace hf := it c91 hf
          refine lv_aload_n G.1 G.2.1 dX5_busiestBlock_94 rfl (lv_at hl 3 rfl) ?_
          refine lv_iconst (v := (1 : Int32)) G.1 G.2.1 dX5_busiestBlock_95 (by decide) ?_
          obtain ⟨v6, s7, ev6, hf⟩ := ob2 hf
          refine kc_i (wr := []) (w := wM cy h s1) (w' := wM cy h s7) (n := 1) (As := [.int (1 : Int32)]) (C := RX5) G hK hA hW (mX5_raises l D cy h _ n s1 (1 : Int32) ev6) (gV q_8_6 q_8_7 q_8_8 q_1_5 q_8_9) ⟨rfl, rfl⟩ (by decide +kernel) ⟨Nat.le_of_ble_eq_true rfl, Nat.le_of_ble_eq_true rfl⟩ (va_recv hK.1 hW.1 (ci := 7) (q0 := 0) rfl rfl) rfl hl.1 rfl (Nat.le_of_ble_eq_true rfl) dX5_busiestBlock_96 ⟨Nat.le_of_ble_eq_true rfl, Nat.le_of_ble_eq_true rfl⟩ (fun H locs hW => ?_)
          refine lv_goto (tgt := 103) G.1 G.2.1 dX5_busiestBlock_99 (by decide) ?_
          cases hf
          exact k_iret G hr hlk hK hW dX5_busiestBlock_103
      · replace hf := ie c14 hf
        refine lv_iconst (v := (0 : Int32)) G.1 G.2.1 dX5_busiestBlock_17 (by decide) ?_
        refine lv_istore (lv' := [(4, .int (0 : Int32)), (3, .int y2), (2, .int y3), (1, .int y4), (0, .ref (h 10))]) G.1 G.2.1 dX5_busiestBlock_18 hl (by decide) rfl (fun ls hl => ?_)
        have K20_84 : ∀ (y8 : Int32) (y9 : Int32) (y10 : Int32) (H : Heap) (locs : List Loc) (ls : Array Slot), fX5_busiestBlock_k20_84 y2 (lz3 (fX5_busiestBlock_b11 n s1) fu11) y8 y9 y10 = some (r, σ') → KW D (va_A (wM cy h σ) s.heap.size) s.heap (wM cy h s1) H locs → lv_has ls 5 [(4, .int y8), (3, .int y2), (2, .int y9), (1, .int y10), (0, .ref (h 10))] → W p l e (headSpec (ws_ yX5_busiestBlock cX5_busiestBlock 5 (some .int)) { frames := 1, cells := 0, slots := 0, locals := 21 }).room s m (([.ref (h 10)] : List Value).toArray) below meth c H locs 0 0 (MQ below (va_Qi (fun (r' : Int32) (_ : Unit) => r' = r) (fun _ => KB D (va_A (wM cy h σ) s.heap.size) (wM cy h σ')) (va_A (wM cy h σ) s.heap.size)) (([.ref (h 10)] : List Value).toArray) s 0 0 (va_A (wM cy h σ) s.heap.size)) (F0 m 84 ls []) := by
          intro y8 y9 y10 H locs ls hf hW hl
          unfold fX5_busiestBlock_k20_84 at hf
          refine lv_iinc (v := (y2 + (1 : Int32))) (lv' := [(3, .int (y2 + (1 : Int32))), (4, .int y8), (2, .int y9), (1, .int y10), (0, .ref (h 10))]) G.1 G.2.1 dX5_busiestBlock_84 hl (k := 1) rfl (congrArg (y2 + ·) (by decide)) (by decide) rfl (fun ls hl => ?_)
          refine lv_goto (tgt := 11) G.1 G.2.1 dX5_busiestBlock_87 (by decide) ?_
          exact ih11 _ _ _ _ _ _ hf hW (lv_sub hl [0, 2, 3, 4] rfl)
        have L20 : ∀ (fu : Nat) (y11 : Int32) (y12 : Int32) (y13 : Int32) (H : Heap) (locs : List Loc) (ls : Array Slot), lz3 (fX5_busiestBlock_b20 n s1 y2 (lz3 (fX5_busiestBlock_b11 n s1) fu11)) fu y11 y12 y13 = some (r, σ') → KW D (va_A (wM cy h σ) s.heap.size) s.heap (wM cy h s1) H locs → lv_has ls 5 [(4, .int y11), (3, .int y2), (2, .int y12), (1, .int y13), (0, .ref (h 10))] → W p l e (headSpec (ws_ yX5_busiestBlock cX5_busiestBlock 5 (some .int)) { frames := 1, cells := 0, slots := 0, locals := 21 }).room s m (([.ref (h 10)] : List Value).toArray) below meth c H locs 0 0 (MQ below (va_Qi (fun (r' : Int32) (_ : Unit) => r' = r) (fun _ => KB D (va_A (wM cy h σ) s.heap.size) (wM cy h σ')) (va_A (wM cy h σ) s.heap.size)) (([.ref (h 10)] : List Value).toArray) s 0 0 (va_A (wM cy h σ) s.heap.size)) (F0 m 20 ls []) := by
          intro fu20
          induction fu20 with
          | zero => intro y11 y12 y13 H locs ls hf; cases hf
          | succ fu20 ih20 =>
            intro y11 y12 y13 H locs ls hf hW hl
            rw [lz3_s] at hf
            unfold fX5_busiestBlock_b20 at hf
            refine lv_iload G.1 G.2.1 dX5_busiestBlock_20 (lv_at hl 0 rfl) ?_
            refine lv_bipush (v := (32 : Int32)) G.1 G.2.1 dX5_busiestBlock_22 (by decide) ?_
            refine lv_icmp_ge (tgt := 84) G.1 G.2.1 dX5_busiestBlock_24 (by decide) (fun c24 => ?_) (fun c24 => ?_)
            · replace hf := it c24 hf
              exact K20_84 _ _ _ _ _ _ hf hW (lv_sub hl [0, 1, 2, 3, 4] rfl)
            · replace hf := ie c24 hf
              refine lv_aload_n G.1 G.2.1 dX5_busiestBlock_27 rfl (lv_at hl 4 rfl) ?_
              refine k_get G inlX5 hK hW 0 rfl rfl 0 (by decide) q_4_6 rfl dX5_busiestBlock_28 ?_
              refine lv_sipush (v := (545 : Int32)) G.1 G.2.1 dX5_busiestBlock_31 (by decide) ?_
              refine lv_iload_n G.1 G.2.1 dX5_busiestBlock_34 rfl (lv_at hl 1 rfl) ?_
              refine lv_iload G.1 G.2.1 dX5_busiestBlock_35 (lv_at hl 0 rfl) ?_
              obtain ⟨v15, ev15, hf⟩ := ob hf
              refine kc_s (n := 2) (As := [.int y2, .int y11]) G hW (mX5_block l n y2 y11 ev15) (gS q_10_6 q_10_7 q_1_5 q_10_8) ⟨rfl, rfl⟩ (by decide +kernel) ⟨Nat.le_of_ble_eq_true rfl, Nat.le_of_ble_eq_true rfl⟩ rfl hl.1 rfl (Nat.le_of_ble_eq_true rfl) dX5_busiestBlock_37 ⟨Nat.le_of_ble_eq_true rfl, Nat.le_of_ble_eq_true rfl⟩ (fun H locs hW => ?_)
              refine lv_iadd G.1 G.2.1 dX5_busiestBlock_40 ?_
              obtain ⟨v16, ev16, hf⟩ := ob hf
              refine k_ald G hK hW 1 rfl ev16 dX5_busiestBlock_41 ?_
              refine lv_iload_n G.1 G.2.1 dX5_busiestBlock_42 rfl (lv_at hl 3 rfl) ?_
              refine lv_icmp_gt (tgt := 49) G.1 G.2.1 dX5_busiestBlock_43 (by decide) (fun c43 => ?_) (fun c43 => ?_)
              · replace hf := it c43 hf
                refine lv_aload_n G.1 G.2.1 dX5_busiestBlock_49 rfl (lv_at hl 4 rfl) ?_
                refine k_get G inlX5 hK hW 0 rfl rfl 0 (by decide) q_4_6 rfl dX5_busiestBlock_50 ?_
                refine lv_sipush (v := (545 : Int32)) G.1 G.2.1 dX5_busiestBlock_53 (by decide) ?_
                refine lv_iload_n G.1 G.2.1 dX5_busiestBlock_56 rfl (lv_at hl 1 rfl) ?_
                refine lv_iload G.1 G.2.1 dX5_busiestBlock_57 (lv_at hl 0 rfl) ?_
                obtain ⟨v17, ev17, hf⟩ := ob hf
                refine kc_s (n := 2) (As := [.int y2, .int y11]) G hW (mX5_block l n y2 y11 ev17) (gS q_10_6 q_10_7 q_1_5 q_10_8) ⟨rfl, rfl⟩ (by decide +kernel) ⟨Nat.le_of_ble_eq_true rfl, Nat.le_of_ble_eq_true rfl⟩ rfl hl.1 rfl (Nat.le_of_ble_eq_true rfl) dX5_busiestBlock_59 ⟨Nat.le_of_ble_eq_true rfl, Nat.le_of_ble_eq_true rfl⟩ (fun H locs hW => ?_)
                refine lv_iadd G.1 G.2.1 dX5_busiestBlock_62 ?_
                obtain ⟨v18, ev18, hf⟩ := ob hf
                refine k_ald G hK hW 1 rfl ev18 dX5_busiestBlock_63 ?_
                refine lv_istore_n (lv' := [(1, .int v18), (4, .int y11), (3, .int y2), (2, .int y12), (0, .ref (h 10))]) G.1 G.2.1 dX5_busiestBlock_64 rfl hl (by decide) rfl (fun ls hl => ?_)
                refine lv_bipush (v := (100 : Int32)) G.1 G.2.1 dX5_busiestBlock_65 (by decide) ?_
                refine lv_iload_n G.1 G.2.1 dX5_busiestBlock_67 rfl (lv_at hl 2 rfl) ?_
                refine lv_imul G.1 G.2.1 dX5_busiestBlock_68 ?_
                refine lv_iload G.1 G.2.1 dX5_busiestBlock_69 (lv_at hl 1 rfl) ?_
                refine lv_iadd G.1 G.2.1 dX5_busiestBlock_71 ?_
                refine lv_istore_n (lv' := [(2, .int (((100 : Int32) * y2) + y11)), (1, .int v18), (4, .int y11), (3, .int y2), (0, .ref (h 10))]) G.1 G.2.1 dX5_busiestBlock_72 rfl hl (by decide) rfl (fun ls hl => ?_)
                refine lv_iload G.1 G.2.1 dX5_busiestBlock_73 (lv_at hl 2 rfl) ?_
                refine lv_iconst (v := (1 : Int32)) G.1 G.2.1 dX5_busiestBlock_75 (by decide) ?_
                refine lv_iload_n G.1 G.2.1 dX5_busiestBlock_76 rfl (lv_at hl 3 rfl) ?_
                refine lv_ishl G.1 G.2.1 dX5_busiestBlock_77 ?_
                refine lv_iadd G.1 G.2.1 dX5_busiestBlock_78 ?_
                refine lv_istore (lv' := [(4, .int (y11 + ((1 : Int32) <<< (y2 &&& 31)))), (2, .int (((100 : Int32) * y2) + y11)), (1, .int v18), (3, .int y2), (0, .ref (h 10))]) G.1 G.2.1 dX5_busiestBlock_79 hl (by decide) rfl (fun ls hl => ?_)
                refine lv_goto (tgt := 20) G.1 G.2.1 dX5_busiestBlock_81 (by decide) ?_
                exact ih20 _ _ _ _ _ _ hf hW (lv_sub hl [0, 3, 1, 2, 4] rfl)
              · replace hf := ie c43 hf
                refine lv_goto (tgt := 73) G.1 G.2.1 dX5_busiestBlock_46 (by decide) ?_
                refine lv_iload G.1 G.2.1 dX5_busiestBlock_73 (lv_at hl 0 rfl) ?_
                refine lv_iconst (v := (1 : Int32)) G.1 G.2.1 dX5_busiestBlock_75 (by decide) ?_
                refine lv_iload_n G.1 G.2.1 dX5_busiestBlock_76 rfl (lv_at hl 1 rfl) ?_
                refine lv_ishl G.1 G.2.1 dX5_busiestBlock_77 ?_
                refine lv_iadd G.1 G.2.1 dX5_busiestBlock_78 ?_
                refine lv_istore (lv' := [(4, .int (y11 + ((1 : Int32) <<< (y2 &&& 31)))), (3, .int y2), (2, .int y12), (1, .int y13), (0, .ref (h 10))]) G.1 G.2.1 dX5_busiestBlock_79 hl (by decide) rfl (fun ls hl => ?_)
                refine lv_goto (tgt := 20) G.1 G.2.1 dX5_busiestBlock_81 (by decide) ?_
                exact ih20 _ _ _ _ _ _ hf hW (lv_sub hl [0, 1, 2, 3, 4] rfl)
        exact L20 _ _ _ _ _ _ _ hf hW (lv_sub hl [0, 1, 2, 3, 4] rfl)
  exact L11 _ _ _ _ _ _ _ hf hW (lv_sub hl [0, 1, 2, 3] rfl)

set_option maxHeartbeats 4000000 in
set_option maxRecDepth 100000 in
theorem mX5_eventCount (l : Launch) (D : va_G) (cy : ClassId) (h : Nat → Nat) (sz n : Nat) (σ : St) {r : Int32} {σ' : St} (hf : fX5_eventCount n σ = some (r, σ')) : Mi l yX5_eventCount (ws_ yX5_eventCount cX5_eventCount 1 (some .int)) { frames := 0, cells := 0, slots := 0, locals := 0 } D cy (wM cy h σ) (wM cy h σ') sz [.ref (h 10)] r := by
  refine Met.ofW (cc := cX5_eventCount) (maxL := 1) (ret := (some .int)) (by decide) rfl ?_
  intro p e s m args below meth c s₁ B hml hv
  obtain ⟨rfl, hsz, hP, hK, hD0⟩ := hv
  subst hsz
  have hts := atoms_spec (ws := ws_ yX5_eventCount cX5_eventCount 1 (some .int)) B.pre
  have G : CallFix p m c cX5_eventCount 1 s _ wA RX5 := ⟨B.exec, B.bytes, hml, findClass_of_methodNamed B.named, fun w h => hts w (List.mem_cons_of_mem _ h)⟩
  have hr := B.returns
  have hlk := B.notSynchronized
  have hW : KW D (va_A (wM cy h σ) s.heap.size) s.heap (wM cy h σ) s.heap [] := ⟨hP, hD0.self, va_S.rf⟩
  have hA : ∀ q, s.heap.size ≤ q → va_A (wM cy h σ) s.heap.size q := fun q h => Or.inr h
  have hl := lv_entry ([.ref (h 10)]) (n := 1) (Nat.le_of_ble_eq_true rfl)
  rw [lg_entry_eq]
  generalize (lg_sl ([.ref (h 10)]) ++ List.replicate (1 - (lg_sl ([.ref (h 10)])).length) Slot.unset).toArray = ls at hl ⊢
  have hl : lv_has ls 1 [(0, .ref (h 10))] := hl
  unfold fX5_eventCount at hf
  refine lv_aload_n G.1 G.2.1 dX5_eventCount_0 rfl (lv_at hl 0 rfl) ?_
  refine lv_iconst (v := (0 : Int32)) G.1 G.2.1 dX5_eventCount_1 (by decide) ?_
  obtain ⟨s1, es1, hf⟩ := ob hf
  refine k_put (w := wM cy h) G inlX5 tyX5 tyX5_ok nmX5 hK hW 0 6 rfl rfl 4 (by decide) q_8_2 rfl (by decide +kernel) (Nat.le_of_ble_eq_true rfl) rfl es1 dX5_eventCount_2 (fun H locs hW => ?_)
  refine lv_aload_n G.1 G.2.1 dX5_eventCount_5 rfl (lv_at hl 0 rfl) ?_
  refine k_get G inlX5 hK hW 0 rfl rfl 0 (by decide) q_4_6 rfl dX5_eventCount_6 ?_
  refine lv_iconst (v := (4 : Int32)) G.1 G.2.1 dX5_eventCount_9 (by decide) ?_
  obtain ⟨v2, ev2, hf⟩ := ob hf
  refine k_ald G hK hW 1 rfl ev2 dX5_eventCount_10 ?_
  cases hf
  exact k_iret G hr hlk hK hW dX5_eventCount_11

set_option maxHeartbeats 4000000 in
set_option maxRecDepth 100000 in
theorem mX5_event (l : Launch) (D : va_G) (cy : ClassId) (h : Nat → Nat) (sz n : Nat) (σ : St) (x1 : Int32) (x2 : Int32) {r : Int32} {σ' : St} (hf : fX5_event n σ x1 x2 = some (r, σ')) : Mi l yX5_event (ws_ yX5_event cX5_event 3 (some .int)) { frames := 1, cells := 0, slots := 0, locals := 22 } D cy (wM cy h σ) (wM cy h σ') sz [.ref (h 10), .int x1, .int x2] r := by
  refine Met.ofW (cc := cX5_event) (maxL := 3) (ret := (some .int)) (by decide) rfl ?_
  intro p e s m args below meth c s₁ B hml hv
  obtain ⟨rfl, hsz, hP, hK, hD0⟩ := hv
  subst hsz
  have hts := atoms_spec (ws := ws_ yX5_event cX5_event 3 (some .int)) B.pre
  have G : CallFix p m c cX5_event 3 s _ wA RX5 := ⟨B.exec, B.bytes, hml, findClass_of_methodNamed B.named, fun w h => hts w (List.mem_cons_of_mem _ h)⟩
  have hr := B.returns
  have hlk := B.notSynchronized
  have hW : KW D (va_A (wM cy h σ) s.heap.size) s.heap (wM cy h σ) s.heap [] := ⟨hP, hD0.self, va_S.rf⟩
  have hA : ∀ q, s.heap.size ≤ q → va_A (wM cy h σ) s.heap.size q := fun q h => Or.inr h
  have hl := lv_entry ([.ref (h 10), .int x1, .int x2]) (n := 3) (Nat.le_of_ble_eq_true rfl)
  rw [lg_entry_eq]
  generalize (lg_sl ([.ref (h 10), .int x1, .int x2]) ++ List.replicate (3 - (lg_sl ([.ref (h 10), .int x1, .int x2])).length) Slot.unset).toArray = ls at hl ⊢
  have hl : lv_has ls 3 [(0, .ref (h 10)), (1, .int x1), (2, .int x2)] := hl
  unfold fX5_event at hf
  refine lv_aload_n G.1 G.2.1 dX5_event_0 rfl (lv_at hl 0 rfl) ?_
  refine lv_iconst (v := (0 : Int32)) G.1 G.2.1 dX5_event_1 (by decide) ?_
  obtain ⟨s1, es1, hf⟩ := ob hf
  refine k_put (w := wM cy h) G inlX5 tyX5 tyX5_ok nmX5 hK hW 0 6 rfl rfl 4 (by decide) q_8_2 rfl (by decide +kernel) (Nat.le_of_ble_eq_true rfl) rfl es1 dX5_event_2 (fun H locs hW => ?_)
  refine lv_iload_n G.1 G.2.1 dX5_event_5 rfl (lv_at hl 1 rfl) ?_
  refine lv_iconst (v := (0 : Int32)) G.1 G.2.1 dX5_event_6 (by decide) ?_
  refine lv_aload_n G.1 G.2.1 dX5_event_7 rfl (lv_at hl 0 rfl) ?_
  refine k_get G inlX5 hK hW 0 rfl rfl 0 (by decide) q_4_6 rfl dX5_event_8 ?_
  refine lv_iconst (v := (4 : Int32)) G.1 G.2.1 dX5_event_11 (by decide) ?_
  obtain ⟨v2, ev2, hf⟩ := ob hf
  refine k_ald G hK hW 1 rfl ev2 dX5_event_12 ?_
  refine lv_iconst (v := (1 : Int32)) G.1 G.2.1 dX5_event_13 (by decide) ?_
  refine lv_isub G.1 G.2.1 dX5_event_14 ?_
  obtain ⟨v3, ev3, hf⟩ := ob hf
  refine kc_s (n := 3) (As := [.int x1, .int (0 : Int32), .int (v2 - (1 : Int32))]) G hW (mX5_in l n x1 (0 : Int32) (v2 - (1 : Int32)) ev3) (gS q_8_3 q_8_4 q_1_5 q_8_5) ⟨rfl, rfl⟩ (by decide +kernel) ⟨Nat.le_of_ble_eq_true rfl, Nat.le_of_ble_eq_true rfl⟩ rfl hl.1 rfl (Nat.le_of_ble_eq_true rfl) dX5_event_15 ⟨Nat.le_of_ble_eq_true rfl, Nat.le_of_ble_eq_true rfl⟩ (fun H locs hW => ?_)
  refine lv_if_eq (tgt := 47) G.1 G.2.1 dX5_event_18 (by decide) (fun c18 => ?_) (fun c18 => ?_)
  · replace hf := it c18 hf
    refine lv_aload_n G.1 G.2.1 dX5_event_47 rfl (lv_at hl 0 rfl) ?_
    refine lv_iconst (v := (1 : Int32)) G.1 G.2.1 dX5_event_48 (by decide) ?_
    obtain ⟨v4, s5, ev4, hf⟩ := ob2 hf
    refine kc_i (wr := []) (w := wM cy h s1) (w' := wM cy h s5) (n := 1) (As := [.int (1 : Int32)]) (C := RX5) G hK hA hW (mX5_raises l D cy h _ n s1 (1 : Int32) ev4) (gV q_8_6 q_8_7 q_8_8 q_1_5 q_8_9) ⟨rfl, rfl⟩ (by decide +kernel) ⟨Nat.le_of_ble_eq_true rfl, Nat.le_of_ble_eq_true rfl⟩ (va_recv hK.1 hW.1 (ci := 7) (q0 := 0) rfl rfl) rfl hl.1 rfl (Nat.le_of_ble_eq_true rfl) dX5_event_49 ⟨Nat.le_of_ble_eq_true rfl, Nat.le_of_ble_eq_true rfl⟩ (fun H locs hW => ?_)
    cases hf
    exact k_iret G hr hlk hK hW dX5_event_52
  · replace hf := ie c18 hf
    refine lv_iload_n G.1 G.2.1 dX5_event_21 rfl (lv_at hl 2 rfl) ?_
    refine lv_iconst (v := (0 : Int32)) G.1 G.2.1 dX5_event_22 (by decide) ?_
    refine lv_iconst (v := (2 : Int32)) G.1 G.2.1 dX5_event_23 (by decide) ?_
    obtain ⟨v6, ev6, hf⟩ := ob hf
    refine kc_s (n := 3) (As := [.int x2, .int (0 : Int32), .int (2 : Int32)]) G hW (mX5_in l n x2 (0 : Int32) (2 : Int32) ev6) (gS q_8_3 q_8_4 q_1_5 q_8_5) ⟨rfl, rfl⟩ (by decide +kernel) ⟨Nat.le_of_ble_eq_true rfl, Nat.le_of_ble_eq_true rfl⟩ rfl hl.1 rfl (Nat.le_of_ble_eq_true rfl) dX5_event_24 ⟨Nat.le_of_ble_eq_true rfl, Nat.le_of_ble_eq_true rfl⟩ (fun H locs hW => ?_)
    refine lv_if_eq (tgt := 47) G.1 G.2.1 dX5_event_27 (by decide) (fun c27 => ?_) (fun c27 => ?_)
    · replace hf := it c27 hf
      refine lv_aload_n G.1 G.2.1 dX5_event_47 rfl (lv_at hl 0 rfl) ?_
      refine lv_iconst (v := (1 : Int32)) G.1 G.2.1 dX5_event_48 (by decide) ?_
      obtain ⟨v7, s8, ev7, hf⟩ := ob2 hf
      refine kc_i (wr := []) (w := wM cy h s1) (w' := wM cy h s8) (n := 1) (As := [.int (1 : Int32)]) (C := RX5) G hK hA hW (mX5_raises l D cy h _ n s1 (1 : Int32) ev7) (gV q_8_6 q_8_7 q_8_8 q_1_5 q_8_9) ⟨rfl, rfl⟩ (by decide +kernel) ⟨Nat.le_of_ble_eq_true rfl, Nat.le_of_ble_eq_true rfl⟩ (va_recv hK.1 hW.1 (ci := 7) (q0 := 0) rfl rfl) rfl hl.1 rfl (Nat.le_of_ble_eq_true rfl) dX5_event_49 ⟨Nat.le_of_ble_eq_true rfl, Nat.le_of_ble_eq_true rfl⟩ (fun H locs hW => ?_)
      cases hf
      exact k_iret G hr hlk hK hW dX5_event_52
    · replace hf := ie c27 hf
      refine lv_aload_n G.1 G.2.1 dX5_event_30 rfl (lv_at hl 0 rfl) ?_
      refine k_get G inlX5 hK hW 0 rfl rfl 0 (by decide) q_4_6 rfl dX5_event_31 ?_
      refine lv_sipush (v := (365 : Int32)) G.1 G.2.1 dX5_event_34 (by decide) ?_
      refine lv_iconst (v := (3 : Int32)) G.1 G.2.1 dX5_event_37 (by decide) ?_
      refine lv_iload_n G.1 G.2.1 dX5_event_38 rfl (lv_at hl 1 rfl) ?_
      refine lv_imul G.1 G.2.1 dX5_event_39 ?_
      refine lv_iadd G.1 G.2.1 dX5_event_40 ?_
      refine lv_iload_n G.1 G.2.1 dX5_event_41 rfl (lv_at hl 2 rfl) ?_
      refine lv_iadd G.1 G.2.1 dX5_event_42 ?_
      obtain ⟨v9, ev9, hf⟩ := ob hf
      refine k_ald G hK hW 1 rfl ev9 dX5_event_43 ?_
      refine lv_goto (tgt := 52) G.1 G.2.1 dX5_event_44 (by decide) ?_
      cases hf
      exact k_iret G hr hlk hK hW dX5_event_52

set_option maxHeartbeats 4000000 in
set_option maxRecDepth 100000 in
theorem mX5_save (l : Launch) (D : va_G) (cy : ClassId) (h : Nat → Nat) (sz n : Nat) (σ : St) {σ' : St} (hf : fX5_save n σ = some σ') : Mv l yX5_save (ws_ yX5_save cX5_save 2 none) { frames := 0, cells := 0, slots := 0, locals := 0 } D cy (wM cy h σ) (wM cy h σ') sz [.ref (h 10)] := by
  refine Met.ofW (cc := cX5_save) (maxL := 2) (ret := none) (by decide) rfl ?_
  intro p e s m args below meth c s₁ B hml hv
  obtain ⟨rfl, hsz, hP, hK, hD0⟩ := hv
  subst hsz
  have hts := atoms_spec (ws := ws_ yX5_save cX5_save 2 none) B.pre
  have G : CallFix p m c cX5_save 2 s _ wA RX5 := ⟨B.exec, B.bytes, hml, findClass_of_methodNamed B.named, fun w h => hts w (List.mem_cons_of_mem _ h)⟩
  have hr := B.returns
  have hlk := B.notSynchronized
  have hW : KW D (va_A (wM cy h σ) s.heap.size) s.heap (wM cy h σ) s.heap [] := ⟨hP, hD0.self, va_S.rf⟩
  have hA : ∀ q, s.heap.size ≤ q → va_A (wM cy h σ) s.heap.size q := fun q h => Or.inr h
  have hl := lv_entry ([.ref (h 10)]) (n := 2) (Nat.le_of_ble_eq_true rfl)
  rw [lg_entry_eq]
  generalize (lg_sl ([.ref (h 10)]) ++ List.replicate (2 - (lg_sl ([.ref (h 10)])).length) Slot.unset).toArray = ls at hl ⊢
  have hl : lv_has ls 2 [(0, .ref (h 10))] := hl
  unfold fX5_save at hf
  refine lv_aload_n G.1 G.2.1 dX5_save_0 rfl (lv_at hl 0 rfl) ?_
  refine lv_iconst (v := (0 : Int32)) G.1 G.2.1 dX5_save_1 (by decide) ?_
  obtain ⟨s1, es1, hf⟩ := ob hf
  refine k_put (w := wM cy h) G inlX5 tyX5 tyX5_ok nmX5 hK hW 0 6 rfl rfl 4 (by decide) q_8_2 rfl (by decide +kernel) (Nat.le_of_ble_eq_true rfl) rfl es1 dX5_save_2 (fun H locs hW => ?_)
  refine lv_aload_n G.1 G.2.1 dX5_save_5 rfl (lv_at hl 0 rfl) ?_
  refine lv_iconst (v := (1 : Int32)) G.1 G.2.1 dX5_save_6 (by decide) ?_
  obtain ⟨s2, es2, hf⟩ := ob hf
  refine k_putz (w := wM cy h) G inlX5 tyX5 tyX5_ok nmX5 hK hW 0 4 rfl rfl 2 (by decide) q_35_3 rfl (by decide +kernel) (Nat.le_of_ble_eq_true rfl) rfl es2 dX5_save_7 (fun H locs hW => ?_)
  refine lv_iconst (v := (0 : Int32)) G.1 G.2.1 dX5_save_10 (by decide) ?_
  refine lv_istore_n (lv' := [(1, .int (0 : Int32)), (0, .ref (h 10))]) G.1 G.2.1 dX5_save_11 rfl hl (by decide) rfl (fun ls hl => ?_)
  have L12 : ∀ (fu : Nat) (y3 : Int32) (s4 : St) (H : Heap) (locs : List Loc) (ls : Array Slot), lz2 (fX5_save_b12) fu y3 s4 = some σ' → KW D (va_A (wM cy h σ) s.heap.size) s.heap (wM cy h s4) H locs → lv_has ls 2 [(1, .int y3), (0, .ref (h 10))] → W p l e (headSpec (ws_ yX5_save cX5_save 2 none) { frames := 0, cells := 0, slots := 0, locals := 0 }).room s m (([.ref (h 10)] : List Value).toArray) below meth c H locs 0 0 (MQ below (va_Qv (fun (_ : Unit) => True) (fun _ => KB D (va_A (wM cy h σ) s.heap.size) (wM cy h σ')) (va_A (wM cy h σ) s.heap.size)) (([.ref (h 10)] : List Value).toArray) s 0 0 (va_A (wM cy h σ) s.heap.size)) (F0 m 12 ls []) := by
    intro fu12
    induction fu12 with
    | zero => intro y3 s4 H locs ls hf; cases hf
    | succ fu12 ih12 =>
      intro y3 s4 H locs ls hf hW hl
      rw [lz2_s] at hf
      unfold fX5_save_b12 at hf
      refine lv_iload_n G.1 G.2.1 dX5_save_12 rfl (lv_at hl 0 rfl) ?_
      refine lv_sipush (v := (609 : Int32)) G.1 G.2.1 dX5_save_13 (by decide) ?_
      refine lv_icmp_ge (tgt := 37) G.1 G.2.1 dX5_save_16 (by decide) (fun c16 => ?_) (fun c16 => ?_)
      · replace hf := it c16 hf
        cases hf
        exact k_vret G hr hlk hK hW dX5_save_37
      · replace hf := ie c16 hf
        refine lv_aload_n G.1 G.2.1 dX5_save_19 rfl (lv_at hl 1 rfl) ?_
        refine k_get G inlX5 hK hW 0 rfl rfl 1 (by decide) q_4_7 rfl dX5_save_20 ?_
        refine lv_iload_n G.1 G.2.1 dX5_save_23 rfl (lv_at hl 0 rfl) ?_
        refine lv_aload_n G.1 G.2.1 dX5_save_24 rfl (lv_at hl 1 rfl) ?_
        refine k_get G inlX5 hK hW 0 rfl rfl 0 (by decide) q_4_6 rfl dX5_save_25 ?_
        refine lv_iload_n G.1 G.2.1 dX5_save_28 rfl (lv_at hl 0 rfl) ?_
        obtain ⟨v6, ev6, hf⟩ := ob hf
        refine k_ald G hK hW 1 rfl ev6 dX5_save_29 ?_
        obtain ⟨s7, es7, hf⟩ := ob hf
        refine k_ast (w := wM cy h) G hK hW 2 1 609 rfl (fun _ => rfl) es7 dX5_save_30 (fun H locs hW => ?_)
        refine lv_iinc (v := (y3 + (1 : Int32))) (lv' := [(1, .int (y3 + (1 : Int32))), (0, .ref (h 10))]) G.1 G.2.1 dX5_save_31 hl (k := 0) rfl (congrArg (y3 + ·) (by decide)) (by decide) rfl (fun ls hl => ?_)
        refine lv_goto (tgt := 12) G.1 G.2.1 dX5_save_34 (by decide) ?_
        exact ih12 _ _ _ _ _ hf hW (lv_sub hl [0, 1] rfl)
  exact L12 _ _ _ _ _ _ hf hW (lv_sub hl [0, 1] rfl)

set_option maxHeartbeats 4000000 in
set_option maxRecDepth 100000 in
theorem mX5_restore (l : Launch) (D : va_G) (cy : ClassId) (h : Nat → Nat) (sz n : Nat) (σ : St) {r : Int32} {σ' : St} (hf : fX5_restore n σ = some (r, σ')) : Mi l yX5_restore (ws_ yX5_restore cX5_restore 2 (some .int)) { frames := 1, cells := 0, slots := 0, locals := 21 } D cy (wM cy h σ) (wM cy h σ') sz [.ref (h 10)] r := by
  refine Met.ofW (cc := cX5_restore) (maxL := 2) (ret := (some .int)) (by decide) rfl ?_
  intro p e s m args below meth c s₁ B hml hv
  obtain ⟨rfl, hsz, hP, hK, hD0⟩ := hv
  subst hsz
  have hts := atoms_spec (ws := ws_ yX5_restore cX5_restore 2 (some .int)) B.pre
  have G : CallFix p m c cX5_restore 2 s _ wA RX5 := ⟨B.exec, B.bytes, hml, findClass_of_methodNamed B.named, fun w h => hts w (List.mem_cons_of_mem _ h)⟩
  have hr := B.returns
  have hlk := B.notSynchronized
  have hW : KW D (va_A (wM cy h σ) s.heap.size) s.heap (wM cy h σ) s.heap [] := ⟨hP, hD0.self, va_S.rf⟩
  have hA : ∀ q, s.heap.size ≤ q → va_A (wM cy h σ) s.heap.size q := fun q h => Or.inr h
  have hl := lv_entry ([.ref (h 10)]) (n := 2) (Nat.le_of_ble_eq_true rfl)
  rw [lg_entry_eq]
  generalize (lg_sl ([.ref (h 10)]) ++ List.replicate (2 - (lg_sl ([.ref (h 10)])).length) Slot.unset).toArray = ls at hl ⊢
  have hl : lv_has ls 2 [(0, .ref (h 10))] := hl
  unfold fX5_restore at hf
  refine lv_aload_n G.1 G.2.1 dX5_restore_0 rfl (lv_at hl 0 rfl) ?_
  refine lv_iconst (v := (0 : Int32)) G.1 G.2.1 dX5_restore_1 (by decide) ?_
  obtain ⟨s1, es1, hf⟩ := ob hf
  refine k_put (w := wM cy h) G inlX5 tyX5 tyX5_ok nmX5 hK hW 0 6 rfl rfl 4 (by decide) q_8_2 rfl (by decide +kernel) (Nat.le_of_ble_eq_true rfl) rfl es1 dX5_restore_2 (fun H locs hW => ?_)
  refine lv_aload_n G.1 G.2.1 dX5_restore_5 rfl (lv_at hl 0 rfl) ?_
  refine k_get G inlX5 hK hW 0 rfl rfl 2 (by decide) q_35_3 rfl dX5_restore_6 ?_
  refine lv_if_ne (tgt := 18) G.1 G.2.1 dX5_restore_9 (by decide) (fun c9 => ?_) (fun c9 => ?_)
  · replace hf := ie c9 hf
    refine lv_iconst (v := (0 : Int32)) G.1 G.2.1 dX5_restore_18 (by decide) ?_
    refine lv_istore_n (lv' := [(1, .int (0 : Int32)), (0, .ref (h 10))]) G.1 G.2.1 dX5_restore_19 rfl hl (by decide) rfl (fun ls hl => ?_)
    have L20 : ∀ (fu : Nat) (y2 : Int32) (s3 : St) (H : Heap) (locs : List Loc) (ls : Array Slot), lz2 (fX5_restore_b20) fu y2 s3 = some (r, σ') → KW D (va_A (wM cy h σ) s.heap.size) s.heap (wM cy h s3) H locs → lv_has ls 2 [(1, .int y2), (0, .ref (h 10))] → W p l e (headSpec (ws_ yX5_restore cX5_restore 2 (some .int)) { frames := 1, cells := 0, slots := 0, locals := 21 }).room s m (([.ref (h 10)] : List Value).toArray) below meth c H locs 0 0 (MQ below (va_Qi (fun (r' : Int32) (_ : Unit) => r' = r) (fun _ => KB D (va_A (wM cy h σ) s.heap.size) (wM cy h σ')) (va_A (wM cy h σ) s.heap.size)) (([.ref (h 10)] : List Value).toArray) s 0 0 (va_A (wM cy h σ) s.heap.size)) (F0 m 20 ls []) := by
      intro fu20
      induction fu20 with
      | zero => intro y2 s3 H locs ls hf; cases hf
      | succ fu20 ih20 =>
        intro y2 s3 H locs ls hf hW hl
        rw [lz2_s] at hf
        unfold fX5_restore_b20 at hf
        refine lv_iload_n G.1 G.2.1 dX5_restore_20 rfl (lv_at hl 0 rfl) ?_
        refine lv_sipush (v := (609 : Int32)) G.1 G.2.1 dX5_restore_21 (by decide) ?_
        refine lv_icmp_ge (tgt := 45) G.1 G.2.1 dX5_restore_24 (by decide) (fun c24 => ?_) (fun c24 => ?_)
        · replace hf := it c24 hf
          refine lv_aload_n G.1 G.2.1 dX5_restore_45 rfl (lv_at hl 1 rfl) ?_
          refine k_get G inlX5 hK hW 0 rfl rfl 0 (by decide) q_4_6 rfl dX5_restore_46 ?_
          refine lv_iconst (v := (0 : Int32)) G.1 G.2.1 dX5_restore_49 (by decide) ?_
          obtain ⟨v5, ev5, hf⟩ := ob hf
          refine k_ald G hK hW 1 rfl ev5 dX5_restore_50 ?_
          cases hf
          exact k_iret G hr hlk hK hW dX5_restore_51
        · replace hf := ie c24 hf
          refine lv_aload_n G.1 G.2.1 dX5_restore_27 rfl (lv_at hl 1 rfl) ?_
          refine k_get G inlX5 hK hW 0 rfl rfl 0 (by decide) q_4_6 rfl dX5_restore_28 ?_
          refine lv_iload_n G.1 G.2.1 dX5_restore_31 rfl (lv_at hl 0 rfl) ?_
          refine lv_aload_n G.1 G.2.1 dX5_restore_32 rfl (lv_at hl 1 rfl) ?_
          refine k_get G inlX5 hK hW 0 rfl rfl 1 (by decide) q_4_7 rfl dX5_restore_33 ?_
          refine lv_iload_n G.1 G.2.1 dX5_restore_36 rfl (lv_at hl 0 rfl) ?_
          obtain ⟨v6, ev6, hf⟩ := ob hf
          refine k_ald G hK hW 2 rfl ev6 dX5_restore_37 ?_
          obtain ⟨s7, es7, hf⟩ := ob hf
          refine k_ast (w := wM cy h) G hK hW 1 0 609 rfl (fun _ => rfl) es7 dX5_restore_38 (fun H locs hW => ?_)
          refine lv_iinc (v := (y2 + (1 : Int32))) (lv' := [(1, .int (y2 + (1 : Int32))), (0, .ref (h 10))]) G.1 G.2.1 dX5_restore_39 hl (k := 0) rfl (congrArg (y2 + ·) (by decide)) (by decide) rfl (fun ls hl => ?_)
          refine lv_goto (tgt := 20) G.1 G.2.1 dX5_restore_42 (by decide) ?_
          exact ih20 _ _ _ _ _ hf hW (lv_sub hl [0, 1] rfl)
    exact L20 _ _ _ _ _ _ hf hW (lv_sub hl [0, 1] rfl)
  · replace hf := it c9 hf
    refine lv_aload_n G.1 G.2.1 dX5_restore_12 rfl (lv_at hl 0 rfl) ?_
    refine lv_iconst (v := (1 : Int32)) G.1 G.2.1 dX5_restore_13 (by decide) ?_
    obtain ⟨v8, s9, ev8, hf⟩ := ob2 hf
    refine kc_i (wr := []) (w := wM cy h s1) (w' := wM cy h s9) (n := 1) (As := [.int (1 : Int32)]) (C := RX5) G hK hA hW (mX5_raises l D cy h _ n s1 (1 : Int32) ev8) (gV q_8_6 q_8_7 q_8_8 q_1_5 q_8_9) ⟨rfl, rfl⟩ (by decide +kernel) ⟨Nat.le_of_ble_eq_true rfl, Nat.le_of_ble_eq_true rfl⟩ (va_recv hK.1 hW.1 (ci := 7) (q0 := 0) rfl rfl) rfl hl.1 rfl (Nat.le_of_ble_eq_true rfl) dX5_restore_14 ⟨Nat.le_of_ble_eq_true rfl, Nat.le_of_ble_eq_true rfl⟩ (fun H locs hW => ?_)
    cases hf
    exact k_iret G hr hlk hK hW dX5_restore_17
