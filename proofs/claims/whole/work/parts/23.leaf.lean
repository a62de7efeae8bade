set_option maxHeartbeats 4000000 in
set_option maxRecDepth 100000 in
theorem mX4_isUser (l : Launch) (n : Nat) (x1 : Int32) {r : Int32} (hf : fX4_isUser n x1 = some r) : Ms l yX4_isUser (ws_ yX4_isUser cX4_isUser 1 (some .boolean)) { frames := 0, cells := 0, slots := 0, locals := 0 } [.int x1] r := by
  refine Met.ofW (cc := cX4_isUser) (maxL := 1) (ret := (some .boolean)) (by decide) rfl ?_
  intro p e s m args below meth c s₁ B hml hv
  obtain ⟨rfl, -⟩ := hv
  have hts := atoms_spec (ws := ws_ yX4_isUser cX4_isUser 1 (some .boolean)) B.pre
  have G : CallFix p m c cX4_isUser 1 s _ wA RX4 := ⟨B.exec, B.bytes, hml, findClass_of_methodNamed B.named, fun w h => hts w (List.mem_cons_of_mem _ h)⟩
  have hr := B.returns
  have hlk := B.notSynchronized
  have hW : KW k_D0 (fun _ => False) s.heap [] s.heap [] := k_W0
  have hl := lv_entry ([.int x1]) (n := 1) (Nat.le_of_ble_eq_true rfl)
  rw [lg_entry_eq]
  generalize (lg_sl ([.int x1]) ++ List.replicate (1 - (lg_sl ([.int x1])).length) Slot.unset).toArray = ls at hl ⊢
  have hl : lv_has ls 1 [(0, .int x1)] := hl
  unfold fX4_isUser at hf
  refine lv_iload_n G.1 G.2.1 dX4_isUser_0 rfl (lv_at hl 0 rfl) ?_
  refine lv_if_lt (tgt := 13) G.1 G.2.1 dX4_isUser_1 (by decide) (fun c1 => ?_) (fun c1 => ?_)
  · replace hf := it c1 hf
    refine lv_iconst (v := (0 : Int32)) G.1 G.2.1 dX4_isUser_13 (by decide) ?_
    cases hf
    exact k_szret G hr hlk hW.2.2 rfl dX4_isUser_14
  · replace hf := ie c1 hf
    refine lv_iload_n G.1 G.2.1 dX4_isUser_4 rfl (lv_at hl 0 rfl) ?_
    refine lv_iconst (v := (4 : Int32)) G.1 G.2.1 dX4_isUser_5 (by decide) ?_
    refine lv_icmp_ge (tgt := 13) G.1 G.2.1 dX4_isUser_6 (by decide) (fun c6 => ?_) (fun c6 => ?_)
    · replace hf := it c6 hf
      refine lv_iconst (v := (0 : Int32)) G.1 G.2.1 dX4_isUser_13 (by decide) ?_
      cases hf
      exact k_szret G hr hlk hW.2.2 rfl dX4_isUser_14
    · replace hf := ie c6 hf
      refine lv_iconst (v := (1 : Int32)) G.1 G.2.1 dX4_isUser_9 (by decide) ?_
      refine lv_goto (tgt := 14) G.1 G.2.1 dX4_isUser_10 (by decide) ?_
      cases hf
      exact k_szret G hr hlk hW.2.2 rfl dX4_isUser_14

set_option maxHeartbeats 4000000 in
set_option maxRecDepth 100000 in
theorem mX4_isOrder (l : Launch) (n : Nat) (x1 : Int32) {r : Int32} (hf : fX4_isOrder n x1 = some r) : Ms l yX4_isOrder (ws_ yX4_isOrder cX4_isOrder 1 (some .boolean)) { frames := 0, cells := 0, slots := 0, locals := 0 } [.int x1] r := by
  refine Met.ofW (cc := cX4_isOrder) (maxL := 1) (ret := (some .boolean)) (by decide) rfl ?_
  intro p e s m args below meth c s₁ B hml hv
  obtain ⟨rfl, -⟩ := hv
  have hts := atoms_spec (ws := ws_ yX4_isOrder cX4_isOrder 1 (some .boolean)) B.pre
  have G : CallFix p m c cX4_isOrder 1 s _ wA RX4 := ⟨B.exec, B.bytes, hml, findClass_of_methodNamed B.named, fun w h => hts w (List.mem_cons_of_mem _ h)⟩
  have hr := B.returns
  have hlk := B.notSynchronized
  have hW : KW k_D0 (fun _ => False) s.heap [] s.heap [] := k_W0
  have hl := lv_entry ([.int x1]) (n := 1) (Nat.le_of_ble_eq_true rfl)
  rw [lg_entry_eq]
  generalize (lg_sl ([.int x1]) ++ List.replicate (1 - (lg_sl ([.int x1])).length) Slot.unset).toArray = ls at hl ⊢
  have hl : lv_has ls 1 [(0, .int x1)] := hl
  unfold fX4_isOrder at hf
  refine lv_iload_n G.1 G.2.1 dX4_isOrder_0 rfl (lv_at hl 0 rfl) ?_
  refine lv_if_lt (tgt := 13) G.1 G.2.1 dX4_isOrder_1 (by decide) (fun c1 => ?_) (fun c1 => ?_)
  · replace hf := it c1 hf
    refine lv_iconst (v := (0 : Int32)) G.1 G.2.1 dX4_isOrder_13 (by decide) ?_
    cases hf
    exact k_szret G hr hlk hW.2.2 rfl dX4_isOrder_14
  · replace hf := ie c1 hf
    refine lv_iload_n G.1 G.2.1 dX4_isOrder_4 rfl (lv_at hl 0 rfl) ?_
    refine lv_iconst (v := (5 : Int32)) G.1 G.2.1 dX4_isOrder_5 (by decide) ?_
    refine lv_icmp_gt (tgt := 13) G.1 G.2.1 dX4_isOrder_6 (by decide) (fun c6 => ?_) (fun c6 => ?_)
    · replace hf := it c6 hf
      refine lv_iconst (v := (0 : Int32)) G.1 G.2.1 dX4_isOrder_13 (by decide) ?_
      cases hf
      exact k_szret G hr hlk hW.2.2 rfl dX4_isOrder_14
    · replace hf := ie c6 hf
      refine lv_iconst (v := (1 : Int32)) G.1 G.2.1 dX4_isOrder_9 (by decide) ?_
      refine lv_goto (tgt := 14) G.1 G.2.1 dX4_isOrder_10 (by decide) ?_
      cases hf
      exact k_szret G hr hlk hW.2.2 rfl dX4_isOrder_14

set_option maxHeartbeats 4000000 in
set_option maxRecDepth 100000 in
theorem mX4_isLength (l : Launch) (n : Nat) (x1 : Int32) {r : Int32} (hf : fX4_isLength n x1 = some r) : Ms l yX4_isLength (ws_ yX4_isLength cX4_isLength 1 (some .boolean)) { frames := 0, cells := 0, slots := 0, locals := 0 } [.int x1] r := by
  refine Met.ofW (cc := cX4_isLength) (maxL := 1) (ret := (some .boolean)) (by decide) rfl ?_
  intro p e s m args below meth c s₁ B hml hv
  obtain ⟨rfl, -⟩ := hv
  have hts := atoms_spec (ws := ws_ yX4_isLength cX4_isLength 1 (some .boolean)) B.pre
  have G : CallFix p m c cX4_isLength 1 s _ wA RX4 := ⟨B.exec, B.bytes, hml, findClass_of_methodNamed B.named, fun w h => hts w (List.mem_cons_of_mem _ h)⟩
  have hr := B.returns
  have hlk := B.notSynchronized
  have hW : KW k_D0 (fun _ => False) s.heap [] s.heap [] := k_W0
  have hl := lv_entry ([.int x1]) (n := 1) (Nat.le_of_ble_eq_true rfl)
  rw [lg_entry_eq]
  generalize (lg_sl ([.int x1]) ++ List.replicate (1 - (lg_sl ([.int x1])).length) Slot.unset).toArray = ls at hl ⊢
  have hl : lv_has ls 1 [(0, .int x1)] := hl
  unfold fX4_isLength at hf
  refine lv_iload_n G.1 G.2.1 dX4_isLength_0 rfl (lv_at hl 0 rfl) ?_
  refine lv_iconst (v := (1 : Int32)) G.1 G.2.1 dX4_isLength_1 (by decide) ?_
  refine lv_icmp_lt (tgt := 15) G.1 G.2.1 dX4_isLength_2 (by decide) (fun c2 => ?_) (fun c2 => ?_)
  · replace hf := it c2 hf
    refine lv_iconst (v := (0 : Int32)) G.1 G.2.1 dX4_isLength_15 (by decide) ?_
    cases hf
    exact k_szret G hr hlk hW.2.2 rfl dX4_isLength_16
  · replace hf := ie c2 hf
    refine lv_iload_n G.1 G.2.1 dX4_isLength_5 rfl (lv_at hl 0 rfl) ?_
    refine lv_bipush (v := (40 : Int32)) G.1 G.2.1 dX4_isLength_6 (by decide) ?_
    refine lv_icmp_gt (tgt := 15) G.1 G.2.1 dX4_isLength_8 (by decide) (fun c8 => ?_) (fun c8 => ?_)
    · replace hf := it c8 hf
      refine lv_iconst (v := (0 : Int32)) G.1 G.2.1 dX4_isLength_15 (by decide) ?_
      cases hf
      exact k_szret G hr hlk hW.2.2 rfl dX4_isLength_16
    · replace hf := ie c8 hf
      refine lv_iconst (v := (1 : Int32)) G.1 G.2.1 dX4_isLength_11 (by decide) ?_
      refine lv_goto (tgt := 16) G.1 G.2.1 dX4_isLength_12 (by decide) ?_
      cases hf
      exact k_szret G hr hlk hW.2.2 rfl dX4_isLength_16

set_option maxHeartbeats 4000000 in
set_option maxRecDepth 100000 in
theorem mX4_isBlock (l : Launch) (n : Nat) (x1 : Int32) (x2 : Int32) {r : Int32} (hf : fX4_isBlock n x1 x2 = some r) : Ms l yX4_isBlock (ws_ yX4_isBlock cX4_isBlock 2 (some .boolean)) { frames := 1, cells := 0, slots := 0, locals := 20 } [.int x1, .int x2] r := by
  refine Met.ofW (cc := cX4_isBlock) (maxL := 2) (ret := (some .boolean)) (by decide) rfl ?_
  intro p e s m args below meth c s₁ B hml hv
  obtain ⟨rfl, -⟩ := hv
  have hts := atoms_spec (ws := ws_ yX4_isBlock cX4_isBlock 2 (some .boolean)) B.pre
  have G : CallFix p m c cX4_isBlock 2 s _ wA RX4 := ⟨B.exec, B.bytes, hml, findClass_of_methodNamed B.named, fun w h => hts w (List.mem_cons_of_mem _ h)⟩
  have hr := B.returns
  have hlk := B.notSynchronized
  have hW : KW k_D0 (fun _ => False) s.heap [] s.heap [] := k_W0
  have hl := lv_entry ([.int x1, .int x2]) (n := 2) (Nat.le_of_ble_eq_true rfl)
  rw [lg_entry_eq]
  generalize (lg_sl ([.int x1, .int x2]) ++ List.replicate (2 - (lg_sl ([.int x1, .int x2])).length) Slot.unset).toArray = ls at hl ⊢
  have hl : lv_has ls 2 [(0, .int x1), (1, .int x2)] := hl
  unfold fX4_isBlock at hf
  refine lv_iload_n G.1 G.2.1 dX4_isBlock_0 rfl (lv_at hl 0 rfl) ?_
  obtain ⟨v1, ev1, hf⟩ := ob hf
  refine kc_s (n := 1) (As := [.int x1]) G hW (mX4_isOrder l n x1 ev1) (gS q_5_5 q_5_6 q_1_2 q_5_7) ⟨rfl, rfl⟩ (by decide +kernel) ⟨Nat.le_of_ble_eq_true rfl, Nat.le_of_ble_eq_true rfl⟩ rfl hl.1 rfl (Nat.le_of_ble_eq_true rfl) dX4_isBlock_1 ⟨Nat.le_of_ble_eq_true rfl, Nat.le_of_ble_eq_true rfl⟩ (fun H locs hW => ?_)
  refine lv_if_eq (tgt := 31) G.1 G.2.1 dX4_isBlock_4 (by decide) (fun c4 => ?_) (fun c4 => ?_)
  · replace hf := it c4 hf
    refine lv_iconst (v := (0 : Int32)) G.1 G.2.1 dX4_isBlock_31 (by decide) ?_
    cases hf
    exact k_szret G hr hlk hW.2.2 rfl dX4_isBlock_32
  · replace hf := ie c4 hf
    refine lv_iload_n G.1 G.2.1 dX4_isBlock_7 rfl (lv_at hl 1 rfl) ?_
    refine lv_if_lt (tgt := 31) G.1 G.2.1 dX4_isBlock_8 (by decide) (fun c8 => ?_) (fun c8 => ?_)
    · replace hf := it c8 hf
      refine lv_iconst (v := (0 : Int32)) G.1 G.2.1 dX4_isBlock_31 (by decide) ?_
      cases hf
      exact k_szret G hr hlk hW.2.2 rfl dX4_isBlock_32
    · replace hf := ie c8 hf
      refine lv_iload_n G.1 G.2.1 dX4_isBlock_11 rfl (lv_at hl 1 rfl) ?_
      refine lv_bipush (v := (32 : Int32)) G.1 G.2.1 dX4_isBlock_12 (by decide) ?_
      refine lv_icmp_ge (tgt := 31) G.1 G.2.1 dX4_isBlock_14 (by decide) (fun c14 => ?_) (fun c14 => ?_)
      · replace hf := it c14 hf
        refine lv_iconst (v := (0 : Int32)) G.1 G.2.1 dX4_isBlock_31 (by decide) ?_
        cases hf
        exact k_szret G hr hlk hW.2.2 rfl dX4_isBlock_32
      · replace hf := ie c14 hf
        refine lv_iload_n G.1 G.2.1 dX4_isBlock_17 rfl (lv_at hl 1 rfl) ?_
        refine lv_iconst (v := (1 : Int32)) G.1 G.2.1 dX4_isBlock_18 (by decide) ?_
        refine lv_iload_n G.1 G.2.1 dX4_isBlock_19 rfl (lv_at hl 0 rfl) ?_
        refine lv_ishl G.1 G.2.1 dX4_isBlock_20 ?_
        refine lv_iconst (v := (1 : Int32)) G.1 G.2.1 dX4_isBlock_21 (by decide) ?_
        refine lv_isub G.1 G.2.1 dX4_isBlock_22 ?_
        refine lv_iand G.1 G.2.1 dX4_isBlock_23 ?_
        refine lv_if_ne (tgt := 31) G.1 G.2.1 dX4_isBlock_24 (by decide) (fun c24 => ?_) (fun c24 => ?_)
        · replace hf := ie c24 hf
          refine lv_iconst (v := (0 : Int32)) G.1 G.2.1 dX4_isBlock_31 (by decide) ?_
          cases hf
          exact k_szret G hr hlk hW.2.2 rfl dX4_isBlock_32
        · replace hf := it c24 hf
          refine lv_iconst (v := (1 : Int32)) G.1 G.2.1 dX4_isBlock_27 (by decide) ?_
          refine lv_goto (tgt := 32) G.1 G.2.1 dX4_isBlock_28 (by decide) ?_
          cases hf
          exact k_szret G hr hlk hW.2.2 rfl dX4_isBlock_32

set_option maxHeartbeats 4000000 in
set_option maxRecDepth 100000 in
theorem mX4_blockMask (l : Launch) (n : Nat) (x1 : Int32) (x2 : Int32) {r : Int32} (hf : fX4_blockMask n x1 x2 = some r) : Ms l yX4_blockMask (ws_ yX4_blockMask cX4_blockMask 2 (some .int)) { frames := 0, cells := 0, slots := 0, locals := 0 } [.int x1, .int x2] r := by
  refine Met.ofW (cc := cX4_blockMask) (maxL := 2) (ret := (some .int)) (by decide) rfl ?_
  intro p e s m args below meth c s₁ B hml hv
  obtain ⟨rfl, -⟩ := hv
  have hts := atoms_spec (ws := ws_ yX4_blockMask cX4_blockMask 2 (some .int)) B.pre
  have G : CallFix p m c cX4_blockMask 2 s _ wA RX4 := ⟨B.exec, B.bytes, hml, findClass_of_methodNamed B.named, fun w h => hts w (List.mem_cons_of_mem _ h)⟩
  have hr := B.returns
  have hlk := B.notSynchronized
  have hW : KW k_D0 (fun _ => False) s.heap [] s.heap [] := k_W0
  have hl := lv_entry ([.int x1, .int x2]) (n := 2) (Nat.le_of_ble_eq_true rfl)
  rw [lg_entry_eq]
  generalize (lg_sl ([.int x1, .int x2]) ++ List.replicate (2 - (lg_sl ([.int x1, .int x2])).length) Slot.unset).toArray = ls at hl ⊢
  have hl : lv_has ls 2 [(0, .int x1), (1, .int x2)] := hl
  unfold fX4_blockMask at hf
  refine lv_iconst (v := (-1 : Int32)) G.1 G.2.1 dX4_blockMask_0 (by decide) ?_
  refine lv_bipush (v := (32 : Int32)) G.1 G.2.1 dX4_blockMask_1 (by decide) ?_
  refine lv_iconst (v := (1 : Int32)) G.1 G.2.1 dX4_blockMask_3 (by decide) ?_
  refine lv_iload_n G.1 G.2.1 dX4_blockMask_4 rfl (lv_at hl 0 rfl) ?_
  refine lv_ishl G.1 G.2.1 dX4_blockMask_5 ?_
  refine lv_isub G.1 G.2.1 dX4_blockMask_6 ?_
  refine lv_iushr (v := (ush (-1 : Int32) ((32 : Int32) - ((1 : Int32) <<< (x1 &&& 31))))) G.1 G.2.1 dX4_blockMask_7 rfl ?_
  refine lv_iload_n G.1 G.2.1 dX4_blockMask_8 rfl (lv_at hl 1 rfl) ?_
  refine lv_ishl G.1 G.2.1 dX4_blockMask_9 ?_
  cases hf
  exact k_siret G hr hlk hW.2.2 dX4_blockMask_10

set_option maxHeartbeats 4000000 in
set_option maxRecDepth 100000 in
theorem mX4_blockIndex (l : Launch) (n : Nat) (x1 : Int32) (x2 : Int32) {r : Int32} (hf : fX4_blockIndex n x1 x2 = some r) : Ms l yX4_blockIndex (ws_ yX4_blockIndex cX4_blockIndex 2 (some .int)) { frames := 0, cells := 0, slots := 0, locals := 0 } [.int x1, .int x2] r := by
  refine Met.ofW (cc := cX4_blockIndex) (maxL := 2) (ret := (some .int)) (by decide) rfl ?_
  intro p e s m args below meth c s₁ B hml hv
  obtain ⟨rfl, -⟩ := hv
  have hts := atoms_spec (ws := ws_ yX4_blockIndex cX4_blockIndex 2 (some .int)) B.pre
  have G : CallFix p m c cX4_blockIndex 2 s _ wA RX4 := ⟨B.exec, B.bytes, hml, findClass_of_methodNamed B.named, fun w h => hts w (List.mem_cons_of_mem _ h)⟩
  have hr := B.returns
  have hlk := B.notSynchronized
  have hW : KW k_D0 (fun _ => False) s.heap [] s.heap [] := k_W0
  have hl := lv_entry ([.int x1, .int x2]) (n := 2) (Nat.le_of_ble_eq_true rfl)
  rw [lg_entry_eq]
  generalize (lg_sl ([.int x1, .int x2]) ++ List.replicate (2 - (lg_sl ([.int x1, .int x2])).length) Slot.unset).toArray = ls at hl ⊢
  have hl : lv_has ls 2 [(0, .int x1), (1, .int x2)] := hl
  unfold fX4_blockIndex at hf
  refine lv_bipush (v := (32 : Int32)) G.1 G.2.1 dX4_blockIndex_0 (by decide) ?_
  refine lv_iload_n G.1 G.2.1 dX4_blockIndex_2 rfl (lv_at hl 1 rfl) ?_
  refine lv_iadd G.1 G.2.1 dX4_blockIndex_3 ?_
  refine lv_iload_n G.1 G.2.1 dX4_blockIndex_4 rfl (lv_at hl 0 rfl) ?_
  refine lv_ishr G.1 G.2.1 dX4_blockIndex_5 ?_
  cases hf
  exact k_siret G hr hlk hW.2.2 dX4_blockIndex_6

set_option maxHeartbeats 4000000 in
set_option maxRecDepth 100000 in
theorem mX4_isClear (l : Launch) (n : Nat) (x1 : Int32) (x2 : Int32) (x3 : Int32) {r : Int32} (hf : fX4_isClear n x1 x2 x3 = some r) : Ms l yX4_isClear (ws_ yX4_isClear cX4_isClear 3 (some .boolean)) { frames := 1, cells := 0, slots := 0, locals := 21 } [.int x1, .int x2, .int x3] r := by
  refine Met.ofW (cc := cX4_isClear) (maxL := 3) (ret := (some .boolean)) (by decide) rfl ?_
  intro p e s m args below meth c s₁ B hml hv
  obtain ⟨rfl, -⟩ := hv
  have hts := atoms_spec (ws := ws_ yX4_isClear cX4_isClear 3 (some .boolean)) B.pre
  have G : CallFix p m c cX4_isClear 3 s _ wA RX4 := ⟨B.exec, B.bytes, hml, findClass_of_methodNamed B.named, fun w h => hts w (List.mem_cons_of_mem _ h)⟩
  have hr := B.returns
  have hlk := B.notSynchronized
  have hW : KW k_D0 (fun _ => False) s.heap [] s.heap [] := k_W0
  have hl := lv_entry ([.int x1, .int x2, .int x3]) (n := 3) (Nat.le_of_ble_eq_true rfl)
  rw [lg_entry_eq]
  generalize (lg_sl ([.int x1, .int x2, .int x3]) ++ List.replicate (3 - (lg_sl ([.int x1, .int x2, .int x3])).length) Slot.unset).toArray = ls at hl ⊢
  have hl : lv_has ls 3 [(0, .int x1), (1, .int x2), (2, .int x3)] := hl
  unfold fX4_isClear at hf
  refine lv_iload_n G.1 G.2.1 dX4_isClear_0 rfl (lv_at hl 0 rfl) ?_
  refine lv_iload_n G.1 G.2.1 dX4_isClear_1 rfl (lv_at hl 1 rfl) ?_
  refine lv_iload_n G.1 G.2.1 dX4_isClear_2 rfl (lv_at hl 2 rfl) ?_
  refine lv_iload_n G.1 G.2.1 dX4_isClear_3 rfl (lv_at hl 1 rfl) ?_
  refine lv_ishl G.1 G.2.1 dX4_isClear_4 ?_
  obtain ⟨v1, ev1, hf⟩ := ob hf
  refine kc_s (n := 2) (As := [.int x2, .int (x3 <<< (x2 &&& 31))]) G hW (mX4_blockMask l n x2 (x3 <<< (x2 &&& 31)) ev1) (gS q_6_16 q_6_17 q_1_2 q_6_18) ⟨rfl, rfl⟩ (by decide +kernel) ⟨Nat.le_of_ble_eq_true rfl, Nat.le_of_ble_eq_true rfl⟩ rfl hl.1 rfl (Nat.le_of_ble_eq_true rfl) dX4_isClear_5 ⟨Nat.le_of_ble_eq_true rfl, Nat.le_of_ble_eq_true rfl⟩ (fun H locs hW => ?_)
  refine lv_iand G.1 G.2.1 dX4_isClear_8 ?_
  refine lv_if_ne (tgt := 16) G.1 G.2.1 dX4_isClear_9 (by decide) (fun c9 => ?_) (fun c9 => ?_)
  · replace hf := ie c9 hf
    refine lv_iconst (v := (0 : Int32)) G.1 G.2.1 dX4_isClear_16 (by decide) ?_
    cases hf
    exact k_szret G hr hlk hW.2.2 rfl dX4_isClear_17
  · replace hf := it c9 hf
    refine lv_iconst (v := (1 : Int32)) G.1 G.2.1 dX4_isClear_12 (by decide) ?_
    refine lv_goto (tgt := 17) G.1 G.2.1 dX4_isClear_13 (by decide) ?_
    cases hf
    exact k_szret G hr hlk hW.2.2 rfl dX4_isClear_17

set_option maxHeartbeats 4000000 in
set_option maxRecDepth 100000 in
theorem mX4_lowestClear (l : Launch) (n : Nat) (x1 : Int32) (x2 : Int32) {r : Int32} (hf : fX4_lowestClear n x1 x2 = some r) : Ms l yX4_lowestClear (ws_ yX4_lowestClear cX4_lowestClear 5 (some .int)) { frames := 1, cells := 0, slots := 0, locals := 21 } [.int x1, .int x2] r := by
  refine Met.ofW (cc := cX4_lowestClear) (maxL := 5) (ret := (some .int)) (by decide) rfl ?_
  intro p e s m args below meth c s₁ B hml hv
  obtain ⟨rfl, -⟩ := hv
  have hts := atoms_spec (ws := ws_ yX4_lowestClear cX4_lowestClear 5 (some .int)) B.pre
  have G : CallFix p m c cX4_lowestClear 5 s _ wA RX4 := ⟨B.exec, B.bytes, hml, findClass_of_methodNamed B.named, fun w h => hts w (List.mem_cons_of_mem _ h)⟩
  have hr := B.returns
  have hlk := B.notSynchronized
  have hW : KW k_D0 (fun _ => False) s.heap [] s.heap [] := k_W0
  have hl := lv_entry ([.int x1, .int x2]) (n := 5) (Nat.le_of_ble_eq_true rfl)
  rw [lg_entry_eq]
  generalize (lg_sl ([.int x1, .int x2]) ++ List.replicate (5 - (lg_sl ([.int x1, .int x2])).length) Slot.unset).toArray = ls at hl ⊢
  have hl : lv_has ls 5 [(0, .int x1), (1, .int x2)] := hl
  unfold fX4_lowestClear at hf
  refine lv_iload_n G.1 G.2.1 dX4_lowestClear_0 rfl (lv_at hl 1 rfl) ?_
  refine lv_iconst (v := (0 : Int32)) G.1 G.2.1 dX4_lowestClear_1 (by decide) ?_
  obtain ⟨v1, ev1, hf⟩ := ob hf
  refine kc_s (n := 2) (As := [.int x2, .int (0 : Int32)]) G hW (mX4_blockMask l n x2 (0 : Int32) ev1) (gS q_6_16 q_6_17 q_1_2 q_6_18) ⟨rfl, rfl⟩ (by decide +kernel) ⟨Nat.le_of_ble_eq_true rfl, Nat.le_of_ble_eq_true rfl⟩ rfl hl.1 rfl (Nat.le_of_ble_eq_true rfl) dX4_lowestClear_2 ⟨Nat.le_of_ble_eq_true rfl, Nat.le_of_ble_eq_true rfl⟩ (fun H locs hW => ?_)
  refine lv_istore_n (lv' := [(2, .int v1), (0, .int x1), (1, .int x2)]) G.1 G.2.1 dX4_lowestClear_5 rfl hl (by decide) rfl (fun ls hl => ?_)
  refine lv_iconst (v := (0 : Int32)) G.1 G.2.1 dX4_lowestClear_6 (by decide) ?_
  refine lv_istore_n (lv' := [(3, .int (0 : Int32)), (2, .int v1), (0, .int x1), (1, .int x2)]) G.1 G.2.1 dX4_lowestClear_7 rfl hl (by decide) rfl (fun ls hl => ?_)
  have L8 : ∀ (fu : Nat) (y2 : Int32) (H : Heap) (locs : List Loc) (ls : Array Slot), lz1 (fX4_lowestClear_b8 x1 x2 v1) fu y2 = some r → KW k_D0 (fun _ => False) s.heap [] H locs → lv_has ls 5 [(3, .int y2), (2, .int v1), (0, .int x1), (1, .int x2)] → W p l e (headSpec (ws_ yX4_lowestClear cX4_lowestClear 5 (some .int)) { frames := 1, cells := 0, slots := 0, locals := 21 }).room s m (([.int x1, .int x2] : List Value).toArray) below meth c H locs 0 0 (MQ below (va_Qi (fun (r' : Int32) (_ : Unit) => r' = r) (fun _ _ => True) (fun _ => False)) (([.int x1, .int x2] : List Value).toArray) s 0 0 (fun _ => False)) (F0 m 8 ls []) := by
    intro fu8
    induction fu8 with
    | zero => intro y2 H locs ls hf; cases hf
    | succ fu8 ih8 =>
      intro y2 H locs ls hf hW hl
      rw [lz1_s] at hf
      unfold fX4_lowestClear_b8 at hf
      refine lv_iload_n G.1 G.2.1 dX4_lowestClear_8 rfl (lv_at hl 0 rfl) ?_
      refine lv_bipush (v := (32 : Int32)) G.1 G.2.1 dX4_lowestClear_9 (by decide) ?_
      refine lv_iload_n G.1 G.2.1 dX4_lowestClear_11 rfl (lv_at hl 3 rfl) ?_
      refine lv_ishr G.1 G.2.1 dX4_lowestClear_12 ?_
      refine lv_icmp_ge (tgt := 39) G.1 G.2.1 dX4_lowestClear_13 (by decide) (fun c13 => ?_) (fun c13 => ?_)
      · replace hf := it c13 hf
        refine lv_iconst (v := (-1 : Int32)) G.1 G.2.1 dX4_lowestClear_39 (by decide) ?_
        cases hf
        exact k_siret G hr hlk hW.2.2 dX4_lowestClear_40
      · replace hf := ie c13 hf
        refine lv_iload_n G.1 G.2.1 dX4_lowestClear_16 rfl (lv_at hl 0 rfl) ?_
        refine lv_iload_n G.1 G.2.1 dX4_lowestClear_17 rfl (lv_at hl 3 rfl) ?_
        refine lv_ishl G.1 G.2.1 dX4_lowestClear_18 ?_
        refine lv_istore (lv' := [(4, .int (y2 <<< (x2 &&& 31))), (3, .int y2), (2, .int v1), (0, .int x1), (1, .int x2)]) G.1 G.2.1 dX4_lowestClear_19 hl (by decide) rfl (fun ls hl => ?_)
        refine lv_iload_n G.1 G.2.1 dX4_lowestClear_21 rfl (lv_at hl 3 rfl) ?_
        refine lv_iload_n G.1 G.2.1 dX4_lowestClear_22 rfl (lv_at hl 2 rfl) ?_
        refine lv_iload G.1 G.2.1 dX4_lowestClear_23 (lv_at hl 0 rfl) ?_
        refine lv_ishl G.1 G.2.1 dX4_lowestClear_25 ?_
        refine lv_iand G.1 G.2.1 dX4_lowestClear_26 ?_
        refine lv_if_ne (tgt := 33) G.1 G.2.1 dX4_lowestClear_27 (by decide) (fun c27 => ?_) (fun c27 => ?_)
        · replace hf := ie c27 hf
          refine lv_iinc (v := (y2 + (1 : Int32))) (lv' := [(3, .int (y2 + (1 : Int32))), (4, .int (y2 <<< (x2 &&& 31))), (2, .int v1), (0, .int x1), (1, .int x2)]) G.1 G.2.1 dX4_lowestClear_33 hl (k := 1) rfl (congrArg (y2 + ·) (by decide)) (by decide) rfl (fun ls hl => ?_)
          refine lv_goto (tgt := 8) G.1 G.2.1 dX4_lowestClear_36 (by decide) ?_
          exact ih8 _ _ _ _ hf hW (lv_sub hl [0, 2, 3, 4] rfl)
        · replace hf := it c27 hf
          refine lv_iload G.1 G.2.1 dX4_lowestClear_30 (lv_at hl 0 rfl) ?_
          cases hf
          exact k_siret G hr hlk hW.2.2 dX4_lowestClear_32
  exact L8 _ _ _ _ _ hf hW (lv_sub hl [0, 1, 2, 3] rfl)

set_option maxHeartbeats 4000000 in
set_option maxRecDepth 100000 in
theorem mX4_largestClearOrder (l : Launch) (n : Nat) (x1 : Int32) {r : Int32} (hf : fX4_largestClearOrder n x1 = some r) : Ms l yX4_largestClearOrder (ws_ yX4_largestClearOrder cX4_largestClearOrder 2 (some .int)) { frames := 2, cells := 0, slots := 0, locals := 45 } [.int x1] r := by
  refine Met.ofW (cc := cX4_largestClearOrder) (maxL := 2) (ret := (some .int)) (by decide) rfl ?_
  intro p e s m args below meth c s₁ B hml hv
  obtain ⟨rfl, -⟩ := hv
  have hts := atoms_spec (ws := ws_ yX4_largestClearOrder cX4_largestClearOrder 2 (some .int)) B.pre
  have G : CallFix p m c cX4_largestClearOrder 2 s _ wA RX4 := ⟨B.exec, B.bytes, hml, findClass_of_methodNamed B.named, fun w h => hts w (List.mem_cons_of_mem _ h)⟩
  have hr := B.returns
  have hlk := B.notSynchronized
  have hW : KW k_D0 (fun _ => False) s.heap [] s.heap [] := k_W0
  have hl := lv_entry ([.int x1]) (n := 2) (Nat.le_of_ble_eq_true rfl)
  rw [lg_entry_eq]
  generalize (lg_sl ([.int x1]) ++ List.replicate (2 - (lg_sl ([.int x1])).length) Slot.unset).toArray = ls at hl ⊢
  have hl : lv_has ls 2 [(0, .int x1)] := hl
  unfold fX4_largestClearOrder at hf
  refine lv_iconst (v := (5 : Int32)) G.1 G.2.1 dX4_largestClearOrder_0 (by decide) ?_
  refine lv_istore_n (lv' := [(1, .int (5 : Int32)), (0, .int x1)]) G.1 G.2.1 dX4_largestClearOrder_1 rfl hl (by decide) rfl (fun ls hl => ?_)
  have L2 : ∀ (fu : Nat) (y1 : Int32) (H : Heap) (locs : List Loc) (ls : Array Slot), lz1 (fX4_largestClearOrder_b2 n x1) fu y1 = some r → KW k_D0 (fun _ => False) s.heap [] H locs → lv_has ls 2 [(1, .int y1), (0, .int x1)] → W p l e (headSpec (ws_ yX4_largestClearOrder cX4_largestClearOrder 2 (some .int)) { frames := 2, cells := 0, slots := 0, locals := 45 }).room s m (([.int x1] : List Value).toArray) below meth c H locs 0 0 (MQ below (va_Qi (fun (r' : Int32) (_ : Unit) => r' = r) (fun _ _ => True) (fun _ => False)) (([.int x1] : List Value).toArray) s 0 0 (fun _ => False)) (F0 m 2 ls []) := by
    intro fu2
    induction fu2 with
    | zero => intro y1 H locs ls hf; cases hf
    | succ fu2 ih2 =>
      intro y1 H locs ls hf hW hl
      rw [lz1_s] at hf
      unfold fX4_largestClearOrder_b2 at hf
      refine lv_iload_n G.1 G.2.1 dX4_largestClearOrder_2 rfl (lv_at hl 0 rfl) ?_
      refine lv_if_lt (tgt := 23) G.1 G.2.1 dX4_largestClearOrder_3 (by decide) (fun c3 => ?_) (fun c3 => ?_)
      · replace hf := it c3 hf
        refine lv_iconst (v := (-1 : Int32)) G.1 G.2.1 dX4_largestClearOrder_23 (by decide) ?_
        cases hf
        exact k_siret G hr hlk hW.2.2 dX4_largestClearOrder_24
      · replace hf := ie c3 hf
        refine lv_iload_n G.1 G.2.1 dX4_largestClearOrder_6 rfl (lv_at hl 1 rfl) ?_
        refine lv_iload_n G.1 G.2.1 dX4_largestClearOrder_7 rfl (lv_at hl 0 rfl) ?_
        obtain ⟨v3, ev3, hf⟩ := ob hf
        refine kc_s (n := 2) (As := [.int x1, .int y1]) G hW (mX4_lowestClear l n x1 y1 ev3) (gS q_29_21 q_6_14 q_1_2 q_6_15) ⟨rfl, rfl⟩ (by decide +kernel) ⟨Nat.le_of_ble_eq_true rfl, Nat.le_of_ble_eq_true rfl⟩ rfl hl.1 rfl (Nat.le_of_ble_eq_true rfl) dX4_largestClearOrder_8 ⟨Nat.le_of_ble_eq_true rfl, Nat.le_of_ble_eq_true rfl⟩ (fun H locs hW => ?_)
        refine lv_iconst (v := (-1 : Int32)) G.1 G.2.1 dX4_largestClearOrder_11 (by decide) ?_
        refine lv_icmp_eq (tgt := 17) G.1 G.2.1 dX4_largestClearOrder_12 (by decide) (fun c12 => ?_) (fun c12 => ?_)
        · replace hf := it c12 hf
          refine lv_iinc (v := (y1 + (-1 : Int32))) (lv' := [(1, .int (y1 + (-1 : Int32))), (0, .int x1)]) G.1 G.2.1 dX4_largestClearOrder_17 hl (k := 0) rfl (congrArg (y1 + ·) (by decide)) (by decide) rfl (fun ls hl => ?_)
          refine lv_goto (tgt := 2) G.1 G.2.1 dX4_largestClearOrder_20 (by decide) ?_
          exact ih2 _ _ _ _ hf hW (lv_sub hl [0, 1] rfl)
        · replace hf := ie c12 hf
          refine lv_iload_n G.1 G.2.1 dX4_largestClearOrder_15 rfl (lv_at hl 0 rfl) ?_
          cases hf
          exact k_siret G hr hlk hW.2.2 dX4_largestClearOrder_16
  exact L2 _ _ _ _ _ hf hW (lv_sub hl [0, 1] rfl)

set_option maxHeartbeats 4000000 in
set_option maxRecDepth 100000 in
theorem mJ6_bitCount_0f7a4 (l : Launch) (n : Nat) (x1 : Int32) {r : Int32} (hf : fJ6_bitCount_0f7a4 n x1 = some r) : Ms l yJ6_bitCount_0f7a4 (ws_ yJ6_bitCount_0f7a4 cJ6_bitCount_0f7a4 1 (some .int)) { frames := 0, cells := 0, slots := 0, locals := 0 } [.int x1] r := by
  refine Met.ofW (cc := cJ6_bitCount_0f7a4) (maxL := 1) (ret := (some .int)) (by decide) rfl ?_
  intro p e s m args below meth c s₁ B hml hv
  obtain ⟨rfl, -⟩ := hv
  have hts := atoms_spec (ws := ws_ yJ6_bitCount_0f7a4 cJ6_bitCount_0f7a4 1 (some .int)) B.pre
  have G : CallFix p m c cJ6_bitCount_0f7a4 1 s _ wA RJ6 := ⟨B.exec, B.bytes, hml, findClass_of_methodNamed B.named, fun w h => hts w (List.mem_cons_of_mem _ h)⟩
  have hr := B.returns
  have hlk := B.notSynchronized
  have hW : KW k_D0 (fun _ => False) s.heap [] s.heap [] := k_W0
  have hl := lv_entry ([.int x1]) (n := 1) (Nat.le_of_ble_eq_true rfl)
  rw [lg_entry_eq]
  generalize (lg_sl ([.int x1]) ++ List.replicate (1 - (lg_sl ([.int x1])).length) Slot.unset).toArray = ls at hl ⊢
  have hl : lv_has ls 1 [(0, .int x1)] := hl
  unfold fJ6_bitCount_0f7a4 at hf
  refine lv_iload_n G.1 G.2.1 dJ6_bitCount_0f7a4_0 rfl (lv_at hl 0 rfl) ?_
  refine lv_iload_n G.1 G.2.1 dJ6_bitCount_0f7a4_1 rfl (lv_at hl 0 rfl) ?_
  refine lv_iconst (v := (1 : Int32)) G.1 G.2.1 dJ6_bitCount_0f7a4_2 (by decide) ?_
  refine lv_iushr (v := (ush x1 (1 : Int32))) G.1 G.2.1 dJ6_bitCount_0f7a4_3 rfl ?_
  refine lv_ldcw G.1 G.2.1 G.2.2.2.1 (G.2.2.2.2 _ q_27_23) dJ6_bitCount_0f7a4_4 ?_
  refine lv_iand G.1 G.2.1 dJ6_bitCount_0f7a4_7 ?_
  refine lv_isub G.1 G.2.1 dJ6_bitCount_0f7a4_8 ?_
  refine lv_istore_n (lv' := [(0, .int (x1 - ((ush x1 (1 : Int32)) &&& (1431655765 : Int32))))]) G.1 G.2.1 dJ6_bitCount_0f7a4_9 rfl hl (by decide) rfl (fun ls hl => ?_)
  refine lv_iload_n G.1 G.2.1 dJ6_bitCount_0f7a4_10 rfl (lv_at hl 0 rfl) ?_
  refine lv_ldcw G.1 G.2.1 G.2.2.2.1 (G.2.2.2.2 _ q_28_0) dJ6_bitCount_0f7a4_11 ?_
  refine lv_iand G.1 G.2.1 dJ6_bitCount_0f7a4_14 ?_
  refine lv_iload_n G.1 G.2.1 dJ6_bitCount_0f7a4_15 rfl (lv_at hl 0 rfl) ?_
  refine lv_iconst (v := (2 : Int32)) G.1 G.2.1 dJ6_bitCount_0f7a4_16 (by decide) ?_
  refine lv_iushr (v := (ush (x1 - ((ush x1 (1 : Int32)) &&& (1431655765 : Int32))) (2 : Int32))) G.1 G.2.1 dJ6_bitCount_0f7a4_17 rfl ?_
  refine lv_ldcw G.1 G.2.1 G.2.2.2.1 (G.2.2.2.2 _ q_28_0) dJ6_bitCount_0f7a4_18 ?_
  refine lv_iand G.1 G.2.1 dJ6_bitCount_0f7a4_21 ?_
  refine lv_iadd G.1 G.2.1 dJ6_bitCount_0f7a4_22 ?_
  refine lv_istore_n (lv' := [(0, .int (((x1 - ((ush x1 (1 : Int32)) &&& (1431655765 : Int32))) &&& (858993459 : Int32)) + ((ush (x1 - ((ush x1 (1 : Int32)) &&& (1431655765 : Int32))) (2 : Int32)) &&& (858993459 : Int32))))]) G.1 G.2.1 dJ6_bitCount_0f7a4_23 rfl hl (by decide) rfl (fun ls hl => ?_)
  refine lv_iload_n G.1 G.2.1 dJ6_bitCount_0f7a4_24 rfl (lv_at hl 0 rfl) ?_
  refine lv_iload_n G.1 G.2.1 dJ6_bitCount_0f7a4_25 rfl (lv_at hl 0 rfl) ?_
  refine lv_iconst (v := (4 : Int32)) G.1 G.2.1 dJ6_bitCount_0f7a4_26 (by decide) ?_
  refine lv_iushr (v := (ush (((x1 - ((ush x1 (1 : Int32)) &&& (1431655765 : Int32))) &&& (858993459 : Int32)) + ((ush (x1 - ((ush x1 (1 : Int32)) &&& (1431655765 : Int32))) (2 : Int32)) &&& (858993459 : Int32))) (4 : Int32))) G.1 G.2.1 dJ6_bitCount_0f7a4_27 rfl ?_
  refine lv_iadd G.1 G.2.1 dJ6_bitCount_0f7a4_28 ?_
  refine lv_ldcw G.1 G.2.1 G.2.2.2.1 (G.2.2.2.2 _ q_28_1) dJ6_bitCount_0f7a4_29 ?_
  refine lv_iand G.1 G.2.1 dJ6_bitCount_0f7a4_32 ?_
  refine lv_istore_n (lv' := [(0, .int (((((x1 - ((ush x1 (1 : Int32)) &&& (1431655765 : Int32))) &&& (858993459 : Int32)) + ((ush (x1 - ((ush x1 (1 : Int32)) &&& (1431655765 : Int32))) (2 : Int32)) &&& (858993459 : Int32))) + (ush (((x1 - ((ush x1 (1 : Int32)) &&& (1431655765 : Int32))) &&& (858993459 : Int32)) + ((ush (x1 - ((ush x1 (1 : Int32)) &&& (1431655765 : Int32))) (2 : Int32)) &&& (858993459 : Int32))) (4 : Int32))) &&& (252645135 : Int32)))]) G.1 G.2.1 dJ6_bitCount_0f7a4_33 rfl hl (by decide) rfl (fun ls hl => ?_)
  refine lv_iload_n G.1 G.2.1 dJ6_bitCount_0f7a4_34 rfl (lv_at hl 0 rfl) ?_
  refine lv_iload_n G.1 G.2.1 dJ6_bitCount_0f7a4_35 rfl (lv_at hl 0 rfl) ?_
  refine lv_bipush (v := (8 : Int32)) G.1 G.2.1 dJ6_bitCount_0f7a4_36 (by decide) ?_
  refine lv_iushr (v := (ush (((((x1 - ((ush x1 (1 : Int32)) &&& (1431655765 : Int32))) &&& (858993459 : Int32)) + ((ush (x1 - ((ush x1 (1 : Int32)) &&& (1431655765 : Int32))) (2 : Int32)) &&& (858993459 : Int32))) + (ush (((x1 - ((ush x1 (1 : Int32)) &&& (1431655765 : Int32))) &&& (858993459 : Int32)) + ((ush (x1 - ((ush x1 (1 : Int32)) &&& (1431655765 : Int32))) (2 : Int32)) &&& (858993459 : Int32))) (4 : Int32))) &&& (252645135 : Int32)) (8 : Int32))) G.1 G.2.1 dJ6_bitCount_0f7a4_38 rfl ?_
  refine lv_iadd G.1 G.2.1 dJ6_bitCount_0f7a4_39 ?_
  refine lv_istore_n (lv' := [(0, .int ((((((x1 - ((ush x1 (1 : Int32)) &&& (1431655765 : Int32))) &&& (858993459 : Int32)) + ((ush (x1 - ((ush x1 (1 : Int32)) &&& (1431655765 : Int32))) (2 : Int32)) &&& (858993459 : Int32))) + (ush (((x1 - ((ush x1 (1 : Int32)) &&& (1431655765 : Int32))) &&& (858993459 : Int32)) + ((ush (x1 - ((ush x1 (1 : Int32)) &&& (1431655765 : Int32))) (2 : Int32)) &&& (858993459 : Int32))) (4 : Int32))) &&& (252645135 : Int32)) + (ush (((((x1 - ((ush x1 (1 : Int32)) &&& (1431655765 : Int32))) &&& (858993459 : Int32)) + ((ush (x1 - ((ush x1 (1 : Int32)) &&& (1431655765 : Int32))) (2 : Int32)) &&& (858993459 : Int32))) + (ush (((x1 - ((ush x1 (1 : Int32)) &&& (1431655765 : Int32))) &&& (858993459 : Int32)) + ((ush (x1 - ((ush x1 (1 : Int32)) &&& (1431655765 : Int32))) (2 : Int32)) &&& (858993459 : Int32))) (4 : Int32))) &&& (252645135 : Int32)) (8 : Int32))))]) G.1 G.2.1 dJ6_bitCount_0f7a4_40 rfl hl (by decide) rfl (fun ls hl => ?_)
  refine lv_iload_n G.1 G.2.1 dJ6_bitCount_0f7a4_41 rfl (lv_at hl 0 rfl) ?_
  refine lv_iload_n G.1 G.2.1 dJ6_bitCount_0f7a4_42 rfl (lv_at hl 0 rfl) ?_
  refine lv_bipush (v := (16 : Int32)) G.1 G.2.1 dJ6_bitCount_0f7a4_43 (by decide) ?_
  refine lv_iushr (v := (ush ((((((x1 - ((ush x1 (1 : Int32)) &&& (1431655765 : Int32))) &&& (858993459 : Int32)) + ((ush (x1 - ((ush x1 (1 : Int32)) &&& (1431655765 : Int32))) (2 : Int32)) &&& (858993459 : Int32))) + (ush (((x1 - ((ush x1 (1 : Int32)) &&& (1431655765 : Int32))) &&& (858993459 : Int32)) + ((ush (x1 - ((ush x1 (1 : Int32)) &&& (1431655765 : Int32))) (2 : Int32)) &&& (858993459 : Int32))) (4 : Int32))) &&& (252645135 : Int32)) + (ush (((((x1 - ((ush x1 (1 : Int32)) &&& (1431655765 : Int32))) &&& (858993459 : Int32)) + ((ush (x1 - ((ush x1 (1 : Int32)) &&& (1431655765 : Int32))) (2 : Int32)) &&& (858993459 : Int32))) + (ush (((x1 - ((ush x1 (1 : Int32)) &&& (1431655765 : Int32))) &&& (858993459 : Int32)) + ((ush (x1 - ((ush x1 (1 : Int32)) &&& (1431655765 : Int32))) (2 : Int32)) &&& (858993459 : Int32))) (4 : Int32))) &&& (252645135 : Int32)) (8 : Int32))) (16 : Int32))) G.1 G.2.1 dJ6_bitCount_0f7a4_45 rfl ?_
  refine lv_iadd G.1 G.2.1 dJ6_bitCount_0f7a4_46 ?_
  refine lv_istore_n (lv' := [(0, .int (((((((x1 - ((ush x1 (1 : Int32)) &&& (1431655765 : Int32))) &&& (858993459 : Int32)) + ((ush (x1 - ((ush x1 (1 : Int32)) &&& (1431655765 : Int32))) (2 : Int32)) &&& (858993459 : Int32))) + (ush (((x1 - ((ush x1 (1 : Int32)) &&& (1431655765 : Int32))) &&& (858993459 : Int32)) + ((ush (x1 - ((ush x1 (1 : Int32)) &&& (1431655765 : Int32))) (2 : Int32)) &&& (858993459 : Int32))) (4 : Int32))) &&& (252645135 : Int32)) + (ush (((((x1 - ((ush x1 (1 : Int32)) &&& (1431655765 : Int32))) &&& (858993459 : Int32)) + ((ush (x1 - ((ush x1 (1 : Int32)) &&& (1431655765 : Int32))) (2 : Int32)) &&& (858993459 : Int32))) + (ush (((x1 - ((ush x1 (1 : Int32)) &&& (1431655765 : Int32))) &&& (858993459 : Int32)) + ((ush (x1 - ((ush x1 (1 : Int32)) &&& (1431655765 : Int32))) (2 : Int32)) &&& (858993459 : Int32))) (4 : Int32))) &&& (252645135 : Int32)) (8 : Int32))) + (ush ((((((x1 - ((ush x1 (1 : Int32)) &&& (1431655765 : Int32))) &&& (858993459 : Int32)) + ((ush (x1 - ((ush x1 (1 : Int32)) &&& (1431655765 : Int32))) (2 : Int32)) &&& (858993459 : Int32))) + (ush (((x1 - ((ush x1 (1 : Int32)) &&& (1431655765 : Int32))) &&& (858993459 : Int32)) + ((ush (x1 - ((ush x1 (1 : Int32)) &&& (1431655765 : Int32))) (2 : Int32)) &&& (858993459 : Int32))) (4 : Int32))) &&& (252645135 : Int32)) + (ush (((((x1 - ((ush x1 (1 : Int32)) &&& (1431655765 : Int32))) &&& (858993459 : Int32)) + ((ush (x1 - ((ush x1 (1 : Int32)) &&& (1431655765 : Int32))) (2 : Int32)) &&& (858993459 : Int32))) + (ush (((x1 - ((ush x1 (1 : Int32)) &&& (1431655765 : Int32))) &&& (858993459 : Int32)) + ((ush (x1 - ((ush x1 (1 : Int32)) &&& (1431655765 : Int32))) (2 : Int32)) &&& (858993459 : Int32))) (4 : Int32))) &&& (252645135 : Int32)) (8 : Int32))) (16 : Int32))))]) G.1 G.2.1 dJ6_bitCount_0f7a4_47 rfl hl (by decide) rfl (fun ls hl => ?_)
  refine lv_iload_n G.1 G.2.1 dJ6_bitCount_0f7a4_48 rfl (lv_at hl 0 rfl) ?_
  refine lv_bipush (v := (63 : Int32)) G.1 G.2.1 dJ6_bitCount_0f7a4_49 (by decide) ?_
  refine lv_iand G.1 G.2.1 dJ6_bitCount_0f7a4_51 ?_
  cases hf
  exact k_siret G hr hlk hW.2.2 dJ6_bitCount_0f7a4_52

set_option maxHeartbeats 4000000 in
set_option maxRecDepth 100000 in
theorem mX1_note (l : Launch) (D : va_G) (cy : ClassId) (h : Nat → Nat) (sz n : Nat) (σ : St) (x1 : Int32) (x2 : Int32) (x3 : Int32) {σ' : St} (hf : fX1_note n σ x1 x2 x3 = some σ') : Mv l yX1_note (ws_ yX1_note cX1_note 5 none) { frames := 0, cells := 0, slots := 0, locals := 0 } D cy (wC cy h σ) (wC cy h σ') sz [.ref (h 102), .int x1, .int x2, .int x3] := by
  refine Met.ofW (cc := cX1_note) (maxL := 5) (ret := none) (by decide) rfl ?_
  intro p e s m args below meth c s₁ B hml hv
  obtain ⟨rfl, hsz, hP, hK, hD0⟩ := hv
  subst hsz
  have hts := atoms_spec (ws := ws_ yX1_note cX1_note 5 none) B.pre
  have G : CallFix p m c cX1_note 5 s _ wA RX1 := ⟨B.exec, B.bytes, hml, findClass_of_methodNamed B.named, fun w h => hts w (List.mem_cons_of_mem _ h)⟩
  have hr := B.returns
  have hlk := B.notSynchronized
  have hW : KW D (va_A (wC cy h σ) s.heap.size) s.heap (wC cy h σ) s.heap [] := ⟨hP, hD0.self, va_S.rf⟩
  have hA : ∀ q, s.heap.size ≤ q → va_A (wC cy h σ) s.heap.size q := fun q h => Or.inr h
  have hl := lv_entry ([.ref (h 102), .int x1, .int x2, .int x3]) (n := 5) (Nat.le_of_ble_eq_true rfl)
  rw [lg_entry_eq]
  generalize (lg_sl ([.ref (h 102), .int x1, .int x2, .int x3]) ++ List.replicate (5 - (lg_sl ([.ref (h 102), .int x1, .int x2, .int x3])).length) Slot.unset).toArray = ls at hl ⊢
  have hl : lv_has ls 5 [(0, .ref (h 102)), (1, .int x1), (2, .int x2), (3, .int x3)] := hl
  unfold fX1_note at hf
  refine lv_aload_n G.1 G.2.1 dX1_note_0 rfl (lv_at hl 0 rfl) ?_
  refine k_get G inlX1 hK hW 22 rfl rfl 1 (by decide) q_3_22 rfl dX1_note_1 ?_
  refine lv_aload_n G.1 G.2.1 dX1_note_4 rfl (lv_at hl 0 rfl) ?_
  refine k_get G inlX1 hK hW 22 rfl rfl 0 (by decide) q_3_21 rfl dX1_note_5 ?_
  refine lv_iadd G.1 G.2.1 dX1_note_8 ?_
  refine lv_bipush (v := (60 : Int32)) G.1 G.2.1 dX1_note_9 (by decide) ?_
  obtain ⟨v1, ev1, hf⟩ := ob hf
  obtain ⟨zv1, ev1⟩ := orem_s ev1
  refine lv_irem G.1 G.2.1 dX1_note_11 zv1 ?_
  rw [← ev1]
  refine lv_istore (lv' := [(4, .int v1), (0, .ref (h 102)), (1, .int x1), (2, .int x2), (3, .int x3)]) G.1 G.2.1 dX1_note_12 hl (by decide) rfl (fun ls hl => ?_)
  refine lv_aload_n G.1 G.2.1 dX1_note_14 rfl (lv_at hl 1 rfl) ?_
  refine k_get G inlX1 hK hW 22 rfl rfl 2 (by decide) q_3_23 rfl dX1_note_15 ?_
  refine lv_iload G.1 G.2.1 dX1_note_18 (lv_at hl 0 rfl) ?_
  refine lv_iload_n G.1 G.2.1 dX1_note_20 rfl (lv_at hl 2 rfl) ?_
  obtain ⟨s2, es2, hf⟩ := ob hf
  refine k_ast (w := wC cy h) G hK hW 23 17 60 rfl (fun _ => rfl) es2 dX1_note_21 (fun H locs hW => ?_)
  refine lv_aload_n G.1 G.2.1 dX1_note_22 rfl (lv_at hl 1 rfl) ?_
  refine k_get G inlX1 hK hW 22 rfl rfl 3 (by decide) q_4_0 rfl dX1_note_23 ?_
  refine lv_iload G.1 G.2.1 dX1_note_26 (lv_at hl 0 rfl) ?_
  refine lv_iload_n G.1 G.2.1 dX1_note_28 rfl (lv_at hl 3 rfl) ?_
  obtain ⟨s3, es3, hf⟩ := ob hf
  refine k_ast (w := wC cy h) G hK hW 24 18 60 rfl (fun _ => rfl) es3 dX1_note_29 (fun H locs hW => ?_)
  refine lv_aload_n G.1 G.2.1 dX1_note_30 rfl (lv_at hl 1 rfl) ?_
  refine k_get G inlX1 hK hW 22 rfl rfl 4 (by decide) q_4_1 rfl dX1_note_31 ?_
  refine lv_iload G.1 G.2.1 dX1_note_34 (lv_at hl 0 rfl) ?_
  refine lv_iload_n G.1 G.2.1 dX1_note_36 rfl (lv_at hl 4 rfl) ?_
  obtain ⟨s4, es4, hf⟩ := ob hf
  refine k_ast (w := wC cy h) G hK hW 25 19 60 rfl (fun _ => rfl) es4 dX1_note_37 (fun H locs hW => ?_)
  refine lv_aload_n G.1 G.2.1 dX1_note_38 rfl (lv_at hl 1 rfl) ?_
  refine k_get G inlX1 hK hW 22 rfl rfl 0 (by decide) q_3_21 rfl dX1_note_39 ?_
  refine lv_bipush (v := (60 : Int32)) G.1 G.2.1 dX1_note_42 (by decide) ?_
  refine lv_icmp_ge (tgt := 60) G.1 G.2.1 dX1_note_44 (by decide) (fun c44 => ?_) (fun c44 => ?_)
  · replace hf := it c44 hf
    refine lv_aload_n G.1 G.2.1 dX1_note_60 rfl (lv_at hl 1 rfl) ?_
    refine lv_aload_n G.1 G.2.1 dX1_note_61 rfl (lv_at hl 1 rfl) ?_
    refine k_get G inlX1 hK hW 22 rfl rfl 1 (by decide) q_3_22 rfl dX1_note_62 ?_
    refine lv_iconst (v := (1 : Int32)) G.1 G.2.1 dX1_note_65 (by decide) ?_
    refine lv_iadd G.1 G.2.1 dX1_note_66 ?_
    refine lv_bipush (v := (60 : Int32)) G.1 G.2.1 dX1_note_67 (by decide) ?_
    obtain ⟨v5, ev5, hf⟩ := ob hf
    obtain ⟨zv5, ev5⟩ := orem_s ev5
    refine lv_irem G.1 G.2.1 dX1_note_69 zv5 ?_
    rw [← ev5]
    obtain ⟨s6, es6, hf⟩ := ob hf
    refine k_put (w := wC cy h) G inlX1 tyX1 tyX1_ok nmX1 hK hW 22 21 rfl rfl 1 (by decide) q_3_22 rfl (by decide +kernel) (Nat.le_of_ble_eq_true rfl) rfl es6 dX1_note_70 (fun H locs hW => ?_)
    cases hf
    exact k_vret G hr hlk hK hW dX1_note_73
  · replace hf := ie c44 hf
    refine lv_aload_n G.1 G.2.1 dX1_note_47 rfl (lv_at hl 1 rfl) ?_
    refine lv_dup G.1 G.2.1 dX1_note_48 rfl ?_
    refine k_get G inlX1 hK hW 22 rfl rfl 0 (by decide) q_3_21 rfl dX1_note_49 ?_
    refine lv_iconst (v := (1 : Int32)) G.1 G.2.1 dX1_note_52 (by decide) ?_
    refine lv_iadd G.1 G.2.1 dX1_note_53 ?_
    obtain ⟨s7, es7, hf⟩ := ob hf
    refine k_put (w := wC cy h) G inlX1 tyX1 tyX1_ok nmX1 hK hW 22 20 rfl rfl 0 (by decide) q_3_21 rfl (by decide +kernel) (Nat.le_of_ble_eq_true rfl) rfl es7 dX1_note_54 (fun H locs hW => ?_)
    refine lv_goto (tgt := 73) G.1 G.2.1 dX1_note_57 (by decide) ?_
    cases hf
    exact k_vret G hr hlk hK hW dX1_note_73

set_option maxHeartbeats 4000000 in
set_option maxRecDepth 100000 in
theorem mX1_entry (l : Launch) (D : va_G) (cy : ClassId) (h : Nat → Nat) (sz n : Nat) (σ : St) (x1 : Int32) (x2 : Int32) {r : Int32} (hf : fX1_entry n σ x1 x2 = some r) : Mi l yX1_entry (ws_ yX1_entry cX1_entry 4 (some .int)) { frames := 0, cells := 0, slots := 0, locals := 0 } D cy (wC cy h σ) (wC cy h σ) sz [.ref (h 102), .int x1, .int x2] r := by
  refine Met.ofW (cc := cX1_entry) (maxL := 4) (ret := (some .int)) (by decide) rfl ?_
  intro p e s m args below meth c s₁ B hml hv
  obtain ⟨rfl, hsz, hP, hK, hD0⟩ := hv
  subst hsz
  have hts := atoms_spec (ws := ws_ yX1_entry cX1_entry 4 (some .int)) B.pre
  have G : CallFix p m c cX1_entry 4 s _ wA RX1 := ⟨B.exec, B.bytes, hml, findClass_of_methodNamed B.named, fun w h => hts w (List.mem_cons_of_mem _ h)⟩
  have hr := B.returns
  have hlk := B.notSynchronized
  have hW : KW D (va_A (wC cy h σ) s.heap.size) s.heap (wC cy h σ) s.heap [] := ⟨hP, hD0.self, va_S.rf⟩
  have hA : ∀ q, s.heap.size ≤ q → va_A (wC cy h σ) s.heap.size q := fun q h => Or.inr h
  have hl := lv_entry ([.ref (h 102), .int x1, .int x2]) (n := 4) (Nat.le_of_ble_eq_true rfl)
  rw [lg_entry_eq]
  generalize (lg_sl ([.ref (h 102), .int x1, .int x2]) ++ List.replicate (4 - (lg_sl ([.ref (h 102), .int x1, .int x2])).length) Slot.unset).toArray = ls at hl ⊢
  have hl : lv_has ls 4 [(0, .ref (h 102)), (1, .int x1), (2, .int x2)] := hl
  unfold fX1_entry at hf
  refine lv_aload_n G.1 G.2.1 dX1_entry_0 rfl (lv_at hl 0 rfl) ?_
  refine k_get G inlX1 hK hW 22 rfl rfl 1 (by decide) q_3_22 rfl dX1_entry_1 ?_
  refine lv_iload_n G.1 G.2.1 dX1_entry_4 rfl (lv_at hl 1 rfl) ?_
  refine lv_iadd G.1 G.2.1 dX1_entry_5 ?_
  refine lv_bipush (v := (60 : Int32)) G.1 G.2.1 dX1_entry_6 (by decide) ?_
  obtain ⟨v1, ev1, hf⟩ := ob hf
  obtain ⟨zv1, ev1⟩ := orem_s ev1
  refine lv_irem G.1 G.2.1 dX1_entry_8 zv1 ?_
  rw [← ev1]
  refine lv_istore_n (lv' := [(3, .int v1), (0, .ref (h 102)), (1, .int x1), (2, .int x2)]) G.1 G.2.1 dX1_entry_9 rfl hl (by decide) rfl (fun ls hl => ?_)
  refine lv_iload_n G.1 G.2.1 dX1_entry_10 rfl (lv_at hl 3 rfl) ?_
  refine lv_if_ne (tgt := 21) G.1 G.2.1 dX1_entry_11 (by decide) (fun c11 => ?_) (fun c11 => ?_)
  · replace hf := ie c11 hf
    refine lv_iload_n G.1 G.2.1 dX1_entry_21 rfl (lv_at hl 3 rfl) ?_
    refine lv_iconst (v := (1 : Int32)) G.1 G.2.1 dX1_entry_22 (by decide) ?_
    refine lv_icmp_ne (tgt := 35) G.1 G.2.1 dX1_entry_23 (by decide) (fun c23 => ?_) (fun c23 => ?_)
    · replace hf := ie c23 hf
      refine lv_aload_n G.1 G.2.1 dX1_entry_35 rfl (lv_at hl 1 rfl) ?_
      refine k_get G inlX1 hK hW 22 rfl rfl 4 (by decide) q_4_1 rfl dX1_entry_36 ?_
      refine lv_iload_n G.1 G.2.1 dX1_entry_39 rfl (lv_at hl 0 rfl) ?_
      obtain ⟨v2, ev2, hf⟩ := ob hf
      refine k_ald G hK hW 25 rfl ev2 dX1_entry_40 ?_
      cases hf
      exact k_iret G hr hlk hK hW dX1_entry_41
    · replace hf := it c23 hf
      refine lv_aload_n G.1 G.2.1 dX1_entry_26 rfl (lv_at hl 1 rfl) ?_
      refine k_get G inlX1 hK hW 22 rfl rfl 3 (by decide) q_4_0 rfl dX1_entry_27 ?_
      refine lv_iload_n G.1 G.2.1 dX1_entry_30 rfl (lv_at hl 0 rfl) ?_
      obtain ⟨v3, ev3, hf⟩ := ob hf
      refine k_ald G hK hW 24 rfl ev3 dX1_entry_31 ?_
      refine lv_goto (tgt := 41) G.1 G.2.1 dX1_entry_32 (by decide) ?_
      cases hf
      exact k_iret G hr hlk hK hW dX1_entry_41
  · replace hf := it c11 hf
    refine lv_aload_n G.1 G.2.1 dX1_entry_14 rfl (lv_at hl 1 rfl) ?_
    refine k_get G inlX1 hK hW 22 rfl rfl 2 (by decide) q_3_23 rfl dX1_entry_15 ?_
    refine lv_iload_n G.1 G.2.1 dX1_entry_18 rfl (lv_at hl 0 rfl) ?_
    obtain ⟨v4, ev4, hf⟩ := ob hf
    refine k_ald G hK hW 23 rfl ev4 dX1_entry_19 ?_
    cases hf
    exact k_iret G hr hlk hK hW dX1_entry_20

set_option maxHeartbeats 4000000 in
set_option maxRecDepth 100000 in
theorem mX1_copyFrom (l : Launch) (D : va_G) (cy : ClassId) (h : Nat → Nat) (h2 : Nat → Nat) (sz n : Nat) (σ2 : St) (σ : St) {σ' : St} (hf : fX1_copyFrom n σ2 σ = some σ') : Mv l yX1_copyFrom (ws_ yX1_copyFrom cX1_copyFrom 2 none) { frames := 1, cells := 0, slots := 0, locals := 60 } D cy (wCC cy h h2 σ2 σ) (wCC cy h h2 σ2 σ') sz [.ref (h 102), .ref (h2 102)] := by
  refine Met.ofW (cc := cX1_copyFrom) (maxL := 2) (ret := none) (by decide) rfl ?_
  intro p e s m args below meth c s₁ B hml hv
  obtain ⟨rfl, hsz, hP, hK, hD0⟩ := hv
  subst hsz
  have hts := atoms_spec (ws := ws_ yX1_copyFrom cX1_copyFrom 2 none) B.pre
  have G : CallFix p m c cX1_copyFrom 2 s _ wA RX1 := ⟨B.exec, B.bytes, hml, findClass_of_methodNamed B.named, fun w h => hts w (List.mem_cons_of_mem _ h)⟩
  have hr := B.returns
  have hlk := B.notSynchronized
  have hW : KW D (va_A (wCC cy h h2 σ2 σ) s.heap.size) s.heap (wCC cy h h2 σ2 σ) s.heap [] := ⟨hP, hD0.self, va_S.rf⟩
  have hA : ∀ q, s.heap.size ≤ q → va_A (wCC cy h h2 σ2 σ) s.heap.size q := fun q h => Or.inr h
  have hl := lv_entry ([.ref (h 102), .ref (h2 102)]) (n := 2) (Nat.le_of_ble_eq_true rfl)
  rw [lg_entry_eq]
  generalize (lg_sl ([.ref (h 102), .ref (h2 102)]) ++ List.replicate (2 - (lg_sl ([.ref (h 102), .ref (h2 102)])).length) Slot.unset).toArray = ls at hl ⊢
  have hl : lv_has ls 2 [(0, .ref (h 102)), (1, .ref (h2 102))] := hl
  unfold fX1_copyFrom at hf
  refine lv_aload_n G.1 G.2.1 dX1_copyFrom_0 rfl (lv_at hl 0 rfl) ?_
  refine lv_aload_n G.1 G.2.1 dX1_copyFrom_1 rfl (lv_at hl 1 rfl) ?_
  refine k_get G inlX1 hK hW 48 rfl rfl 0 (by decide) q_3_21 rfl dX1_copyFrom_2 ?_
  obtain ⟨s1, es1, hf⟩ := ob hf
  refine k_put (w := wCC cy h h2 σ2) G inlX1 tyX1 tyX1_ok nmX1 hK hW 22 20 rfl rfl 0 (by decide) q_3_21 rfl (by decide +kernel) (Nat.le_of_ble_eq_true rfl) rfl es1 dX1_copyFrom_5 (fun H locs hW => ?_)
  refine lv_aload_n G.1 G.2.1 dX1_copyFrom_8 rfl (lv_at hl 0 rfl) ?_
  refine lv_aload_n G.1 G.2.1 dX1_copyFrom_9 rfl (lv_at hl 1 rfl) ?_
  refine k_get G inlX1 hK hW 48 rfl rfl 1 (by decide) q_3_22 rfl dX1_copyFrom_10 ?_
  obtain ⟨s2, es2, hf⟩ := ob hf
  refine k_put (w := wCC cy h h2 σ2) G inlX1 tyX1 tyX1_ok nmX1 hK hW 22 21 rfl rfl 1 (by decide) q_3_22 rfl (by decide +kernel) (Nat.le_of_ble_eq_true rfl) rfl es2 dX1_copyFrom_13 (fun H locs hW => ?_)
  refine lv_aload_n G.1 G.2.1 dX1_copyFrom_16 rfl (lv_at hl 1 rfl) ?_
  refine k_get G inlX1 hK hW 48 rfl rfl 2 (by decide) q_3_23 rfl dX1_copyFrom_17 ?_
  refine lv_iconst (v := (0 : Int32)) G.1 G.2.1 dX1_copyFrom_20 (by decide) ?_
  refine lv_aload_n G.1 G.2.1 dX1_copyFrom_21 rfl (lv_at hl 0 rfl) ?_
  refine k_get G inlX1 hK hW 22 rfl rfl 2 (by decide) q_3_23 rfl dX1_copyFrom_22 ?_
  refine lv_iconst (v := (0 : Int32)) G.1 G.2.1 dX1_copyFrom_25 (by decide) ?_
  refine lv_bipush (v := (60 : Int32)) G.1 G.2.1 dX1_copyFrom_26 (by decide) ?_
  obtain ⟨s3, es3, hf⟩ := ob hf
  refine k_cpy (w := wCC cy h h2 σ2) G hK hW 49 23 17 60 60 rfl rfl (fun _ => rfl) q_34_22 q_34_5 q_34_6 q_34_7 es3 hl.1 (Nat.le_of_ble_eq_true rfl) (Nat.le_of_ble_eq_true rfl) dX1_copyFrom_28 (fun H locs hW => ?_)
  refine lv_aload_n G.1 G.2.1 dX1_copyFrom_31 rfl (lv_at hl 1 rfl) ?_
  refine k_get G inlX1 hK hW 48 rfl rfl 3 (by decide) q_4_0 rfl dX1_copyFrom_32 ?_
  refine lv_iconst (v := (0 : Int32)) G.1 G.2.1 dX1_copyFrom_35 (by decide) ?_
  refine lv_aload_n G.1 G.2.1 dX1_copyFrom_36 rfl (lv_at hl 0 rfl) ?_
  refine k_get G inlX1 hK hW 22 rfl rfl 3 (by decide) q_4_0 rfl dX1_copyFrom_37 ?_
  refine lv_iconst (v := (0 : Int32)) G.1 G.2.1 dX1_copyFrom_40 (by decide) ?_
  refine lv_bipush (v := (60 : Int32)) G.1 G.2.1 dX1_copyFrom_41 (by decide) ?_
  obtain ⟨s4, es4, hf⟩ := ob hf
  refine k_cpy (w := wCC cy h h2 σ2) G hK hW 50 24 18 60 60 rfl rfl (fun _ => rfl) q_34_22 q_34_5 q_34_6 q_34_7 es4 hl.1 (Nat.le_of_ble_eq_true rfl) (Nat.le_of_ble_eq_true rfl) dX1_copyFrom_43 (fun H locs hW => ?_)
  refine lv_aload_n G.1 G.2.1 dX1_copyFrom_46 rfl (lv_at hl 1 rfl) ?_
  refine k_get G inlX1 hK hW 48 rfl rfl 4 (by decide) q_4_1 rfl dX1_copyFrom_47 ?_
  refine lv_iconst (v := (0 : Int32)) G.1 G.2.1 dX1_copyFrom_50 (by decide) ?_
  refine lv_aload_n G.1 G.2.1 dX1_copyFrom_51 rfl (lv_at hl 0 rfl) ?_
  refine k_get G inlX1 hK hW 22 rfl rfl 4 (by decide) q_4_1 rfl dX1_copyFrom_52 ?_
  refine lv_iconst (v := (0 : Int32)) G.1 G.2.1 dX1_copyFrom_55 (by decide) ?_
  refine lv_bipush (v := (60 : Int32)) G.1 G.2.1 dX1_copyFrom_56 (by decide) ?_
  obtain ⟨s5, es5, hf⟩ := ob hf
  refine k_cpy (w := wCC cy h h2 σ2) G hK hW 51 25 19 60 60 rfl rfl (fun _ => rfl) q_34_22 q_34_5 q_34_6 q_34_7 es5 hl.1 (Nat.le_of_ble_eq_true rfl) (Nat.le_of_ble_eq_true rfl) dX1_copyFrom_58 (fun H locs hW => ?_)
  cases hf
  exact k_vret G hr hlk hK hW dX1_copyFrom_61

set_option maxHeartbeats 4000000 in
set_option maxRecDepth 100000 in
theorem mX2_wasStarted (l : Launch) (D : va_G) (cy : ClassId) (h : Nat → Nat) (sz n : Nat) (σ : St) (x1 : Int32) {r : Int32} (hf : fX2_wasStarted n σ x1 = some r) : Mi l yX2_wasStarted (ws_ yX2_wasStarted cX2_wasStarted 2 (some .boolean)) { frames := 0, cells := 0, slots := 0, locals := 0 } D cy (wC cy h σ) (wC cy h σ) sz [.ref (h 101), .int x1] r := by
  refine Met.ofW (cc := cX2_wasStarted) (maxL := 2) (ret := (some .boolean)) (by decide) rfl ?_
  intro p e s m args below meth c s₁ B hml hv
  obtain ⟨rfl, hsz, hP, hK, hD0⟩ := hv
  subst hsz
  have hts := atoms_spec (ws := ws_ yX2_wasStarted cX2_wasStarted 2 (some .boolean)) B.pre
  have G : CallFix p m c cX2_wasStarted 2 s _ wA RX2 := ⟨B.exec, B.bytes, hml, findClass_of_methodNamed B.named, fun w h => hts w (List.mem_cons_of_mem _ h)⟩
  have hr := B.returns
  have hlk := B.notSynchronized
  have hW : KW D (va_A (wC cy h σ) s.heap.size) s.heap (wC cy h σ) s.heap [] := ⟨hP, hD0.self, va_S.rf⟩
  have hA : ∀ q, s.heap.size ≤ q → va_A (wC cy h σ) s.heap.size q := fun q h => Or.inr h
  have hl := lv_entry ([.ref (h 101), .int x1]) (n := 2) (Nat.le_of_ble_eq_true rfl)
  rw [lg_entry_eq]
  generalize (lg_sl ([.ref (h 101), .int x1]) ++ List.replicate (2 - (lg_sl ([.ref (h 101), .int x1])).length) Slot.unset).toArray = ls at hl ⊢
  have hl : lv_has ls 2 [(0, .ref (h 101)), (1, .int x1)] := hl
  unfold fX2_wasStarted at hf
  refine lv_aload_n G.1 G.2.1 dX2_wasStarted_0 rfl (lv_at hl 0 rfl) ?_
  refine k_get G inlX2 hK hW 9 rfl rfl 9 (by decide) q_3_14 rfl dX2_wasStarted_1 ?_
  refine lv_iload_n G.1 G.2.1 dX2_wasStarted_4 rfl (lv_at hl 1 rfl) ?_
  obtain ⟨v1, ev1, hf⟩ := ob hf
  refine k_ald G hK hW 18 rfl ev1 dX2_wasStarted_5 ?_
  refine lv_iconst (v := (-1 : Int32)) G.1 G.2.1 dX2_wasStarted_6 (by decide) ?_
  refine lv_icmp_eq (tgt := 14) G.1 G.2.1 dX2_wasStarted_7 (by decide) (fun c7 => ?_) (fun c7 => ?_)
  · replace hf := it c7 hf
    refine lv_iconst (v := (0 : Int32)) G.1 G.2.1 dX2_wasStarted_14 (by decide) ?_
    cases hf
    exact k_zret G hr hlk hK hW rfl dX2_wasStarted_15
  · replace hf := ie c7 hf
    refine lv_iconst (v := (1 : Int32)) G.1 G.2.1 dX2_wasStarted_10 (by decide) ?_
    refine lv_goto (tgt := 15) G.1 G.2.1 dX2_wasStarted_11 (by decide) ?_
    cases hf
    exact k_zret G hr hlk hK hW rfl dX2_wasStarted_15

set_option maxHeartbeats 4000000 in
set_option maxRecDepth 100000 in
theorem mX2_waited (l : Launch) (D : va_G) (cy : ClassId) (h : Nat → Nat) (sz n : Nat) (σ : St) (x1 : Int32) {r : Int32} (hf : fX2_waited n σ x1 = some r) : Mi l yX2_waited (ws_ yX2_waited cX2_waited 2 (some .int)) { frames := 0, cells := 0, slots := 0, locals := 0 } D cy (wC cy h σ) (wC cy h σ) sz [.ref (h 101), .int x1] r := by
  refine Met.ofW (cc := cX2_waited) (maxL := 2) (ret := (some .int)) (by decide) rfl ?_
  intro p e s m args below meth c s₁ B hml hv
  obtain ⟨rfl, hsz, hP, hK, hD0⟩ := hv
  subst hsz
  have hts := atoms_spec (ws := ws_ yX2_waited cX2_waited 2 (some .int)) B.pre
  have G : CallFix p m c cX2_waited 2 s _ wA RX2 := ⟨B.exec, B.bytes, hml, findClass_of_methodNamed B.named, fun w h => hts w (List.mem_cons_of_mem _ h)⟩
  have hr := B.returns
  have hlk := B.notSynchronized
  have hW : KW D (va_A (wC cy h σ) s.heap.size) s.heap (wC cy h σ) s.heap [] := ⟨hP, hD0.self, va_S.rf⟩
  have hA : ∀ q, s.heap.size ≤ q → va_A (wC cy h σ) s.heap.size q := fun q h => Or.inr h
  have hl := lv_entry ([.ref (h 101), .int x1]) (n := 2) (Nat.le_of_ble_eq_true rfl)
  rw [lg_entry_eq]
  generalize (lg_sl ([.ref (h 101), .int x1]) ++ List.replicate (2 - (lg_sl ([.ref (h 101), .int x1])).length) Slot.unset).toArray = ls at hl ⊢
  have hl : lv_has ls 2 [(0, .ref (h 101)), (1, .int x1)] := hl
  unfold fX2_waited at hf
  refine lv_aload_n G.1 G.2.1 dX2_waited_0 rfl (lv_at hl 0 rfl) ?_
  refine k_get G inlX2 hK hW 9 rfl rfl 9 (by decide) q_3_14 rfl dX2_waited_1 ?_
  refine lv_iload_n G.1 G.2.1 dX2_waited_4 rfl (lv_at hl 1 rfl) ?_
  obtain ⟨v1, ev1, hf⟩ := ob hf
  refine k_ald G hK hW 18 rfl ev1 dX2_waited_5 ?_
  refine lv_aload_n G.1 G.2.1 dX2_waited_6 rfl (lv_at hl 0 rfl) ?_
  refine k_get G inlX2 hK hW 9 rfl rfl 7 (by decide) q_3_12 rfl dX2_waited_7 ?_
  refine lv_iload_n G.1 G.2.1 dX2_waited_10 rfl (lv_at hl 1 rfl) ?_
  obtain ⟨v2, ev2, hf⟩ := ob hf
  refine k_ald G hK hW 16 rfl ev2 dX2_waited_11 ?_
  refine lv_isub G.1 G.2.1 dX2_waited_12 ?_
  cases hf
  exact k_iret G hr hlk hK hW dX2_waited_13

set_option maxHeartbeats 4000000 in
set_option maxRecDepth 100000 in
theorem mX2_append (l : Launch) (D : va_G) (cy : ClassId) (h : Nat → Nat) (sz n : Nat) (σ : St) (x1 : Int32) (x2 : Int32) (x3 : Int32) (x4 : Int32) (x5 : Int32) {r : Int32} {σ' : St} (hf : fX2_append n σ x1 x2 x3 x4 x5 = some (r, σ')) : Mi l yX2_append (ws_ yX2_append cX2_append 7 (some .int)) { frames := 0, cells := 0, slots := 0, locals := 0 } D cy (wC cy h σ) (wC cy h σ') sz [.ref (h 101), .int x1, .int x2, .int x3, .int x4, .int x5] r := by
  refine Met.ofW (cc := cX2_append) (maxL := 7) (ret := (some .int)) (by decide) rfl ?_
  intro p e s m args below meth c s₁ B hml hv
  obtain ⟨rfl, hsz, hP, hK, hD0⟩ := hv
  subst hsz
  have hts := atoms_spec (ws := ws_ yX2_append cX2_append 7 (some .int)) B.pre
  have G : CallFix p m c cX2_append 7 s _ wA RX2 := ⟨B.exec, B.bytes, hml, findClass_of_methodNamed B.named, fun w h => hts w (List.mem_cons_of_mem _ h)⟩
  have hr := B.returns
  have hlk := B.notSynchronized
  have hW : KW D (va_A (wC cy h σ) s.heap.size) s.heap (wC cy h σ) s.heap [] := ⟨hP, hD0.self, va_S.rf⟩
  have hA : ∀ q, s.heap.size ≤ q → va_A (wC cy h σ) s.heap.size q := fun q h => Or.inr h
  have hl := lv_entry ([.ref (h 101), .int x1, .int x2, .int x3, .int x4, .int x5]) (n := 7) (Nat.le_of_ble_eq_true rfl)
  rw [lg_entry_eq]
  generalize (lg_sl ([.ref (h 101), .int x1, .int x2, .int x3, .int x4, .int x5]) ++ List.replicate (7 - (lg_sl ([.ref (h 101), .int x1, .int x2, .int x3, .int x4, .int x5])).length) Slot.unset).toArray = ls at hl ⊢
  have hl : lv_has ls 7 [(0, .ref (h 101)), (1, .int x1), (2, .int x2), (3, .int x3), (4, .int x4), (5, .int x5)] := hl
  unfold fX2_append at hf
  refine lv_aload_n G.1 G.2.1 dX2_append_0 rfl (lv_at hl 0 rfl) ?_
  refine k_get G inlX2 hK hW 9 rfl rfl 0 (by decide) q_3_5 rfl dX2_append_1 ?_
  refine lv_istore (lv' := [(6, .int (σ 16 0)), (0, .ref (h 101)), (1, .int x1), (2, .int x2), (3, .int x3), (4, .int x4), (5, .int x5)]) G.1 G.2.1 dX2_append_4 hl (by decide) rfl (fun ls hl => ?_)
  refine lv_aload_n G.1 G.2.1 dX2_append_6 rfl (lv_at hl 1 rfl) ?_
  refine k_get G inlX2 hK hW 9 rfl rfl 1 (by decide) q_3_6 rfl dX2_append_7 ?_
  refine lv_iload G.1 G.2.1 dX2_append_10 (lv_at hl 0 rfl) ?_
  refine lv_iload_n G.1 G.2.1 dX2_append_12 rfl (lv_at hl 2 rfl) ?_
  obtain ⟨s1, es1, hf⟩ := ob hf
  refine k_ast (w := wC cy h) G hK hW 10 4 24 rfl (fun _ => rfl) es1 dX2_append_13 (fun H locs hW => ?_)
  refine lv_aload_n G.1 G.2.1 dX2_append_14 rfl (lv_at hl 1 rfl) ?_
  refine k_get G inlX2 hK hW 9 rfl rfl 2 (by decide) q_3_7 rfl dX2_append_15 ?_
  refine lv_iload G.1 G.2.1 dX2_append_18 (lv_at hl 0 rfl) ?_
  refine lv_iload_n G.1 G.2.1 dX2_append_20 rfl (lv_at hl 3 rfl) ?_
  obtain ⟨s2, es2, hf⟩ := ob hf
  refine k_ast (w := wC cy h) G hK hW 11 5 24 rfl (fun _ => rfl) es2 dX2_append_21 (fun H locs hW => ?_)
  refine lv_aload_n G.1 G.2.1 dX2_append_22 rfl (lv_at hl 1 rfl) ?_
  refine k_get G inlX2 hK hW 9 rfl rfl 3 (by decide) q_3_8 rfl dX2_append_23 ?_
  refine lv_iload G.1 G.2.1 dX2_append_26 (lv_at hl 0 rfl) ?_
  refine lv_iload_n G.1 G.2.1 dX2_append_28 rfl (lv_at hl 4 rfl) ?_
  obtain ⟨s3, es3, hf⟩ := ob hf
  refine k_ast (w := wC cy h) G hK hW 12 6 24 rfl (fun _ => rfl) es3 dX2_append_29 (fun H locs hW => ?_)
  refine lv_aload_n G.1 G.2.1 dX2_append_30 rfl (lv_at hl 1 rfl) ?_
  refine k_get G inlX2 hK hW 9 rfl rfl 4 (by decide) q_3_9 rfl dX2_append_31 ?_
  refine lv_iload G.1 G.2.1 dX2_append_34 (lv_at hl 0 rfl) ?_
  refine lv_iload G.1 G.2.1 dX2_append_36 (lv_at hl 5 rfl) ?_
  obtain ⟨s4, es4, hf⟩ := ob hf
  refine k_ast (w := wC cy h) G hK hW 13 7 24 rfl (fun _ => rfl) es4 dX2_append_38 (fun H locs hW => ?_)
  refine lv_aload_n G.1 G.2.1 dX2_append_39 rfl (lv_at hl 1 rfl) ?_
  refine k_get G inlX2 hK hW 9 rfl rfl 5 (by decide) q_3_10 rfl dX2_append_40 ?_
  refine lv_iload G.1 G.2.1 dX2_append_43 (lv_at hl 0 rfl) ?_
  refine lv_iconst (v := (0 : Int32)) G.1 G.2.1 dX2_append_45 (by decide) ?_
  obtain ⟨s5, es5, hf⟩ := ob hf
  refine k_ast (w := wC cy h) G hK hW 14 8 24 rfl (fun _ => rfl) es5 dX2_append_46 (fun H locs hW => ?_)
  refine lv_aload_n G.1 G.2.1 dX2_append_47 rfl (lv_at hl 1 rfl) ?_
  refine k_get G inlX2 hK hW 9 rfl rfl 6 (by decide) q_3_11 rfl dX2_append_48 ?_
  refine lv_iload G.1 G.2.1 dX2_append_51 (lv_at hl 0 rfl) ?_
  refine lv_iload G.1 G.2.1 dX2_append_53 (lv_at hl 5 rfl) ?_
  obtain ⟨s6, es6, hf⟩ := ob hf
  refine k_ast (w := wC cy h) G hK hW 15 9 24 rfl (fun _ => rfl) es6 dX2_append_55 (fun H locs hW => ?_)
  refine lv_aload_n G.1 G.2.1 dX2_append_56 rfl (lv_at hl 1 rfl) ?_
  refine k_get G inlX2 hK hW 9 rfl rfl 7 (by decide) q_3_12 rfl dX2_append_57 ?_
  refine lv_iload G.1 G.2.1 dX2_append_60 (lv_at hl 0 rfl) ?_
  refine lv_iload G.1 G.2.1 dX2_append_62 (lv_at hl 6 rfl) ?_
  obtain ⟨s7, es7, hf⟩ := ob hf
  refine k_ast (w := wC cy h) G hK hW 16 10 24 rfl (fun _ => rfl) es7 dX2_append_64 (fun H locs hW => ?_)
  refine lv_aload_n G.1 G.2.1 dX2_append_65 rfl (lv_at hl 1 rfl) ?_
  refine k_get G inlX2 hK hW 9 rfl rfl 8 (by decide) q_3_13 rfl dX2_append_66 ?_
  refine lv_iload G.1 G.2.1 dX2_append_69 (lv_at hl 0 rfl) ?_
  refine lv_iconst (v := (-1 : Int32)) G.1 G.2.1 dX2_append_71 (by decide) ?_
  obtain ⟨s8, es8, hf⟩ := ob hf
  refine k_ast (w := wC cy h) G hK hW 17 11 24 rfl (fun _ => rfl) es8 dX2_append_72 (fun H locs hW => ?_)
  refine lv_aload_n G.1 G.2.1 dX2_append_73 rfl (lv_at hl 1 rfl) ?_
  refine k_get G inlX2 hK hW 9 rfl rfl 9 (by decide) q_3_14 rfl dX2_append_74 ?_
  refine lv_iload G.1 G.2.1 dX2_append_77 (lv_at hl 0 rfl) ?_
  refine lv_iconst (v := (-1 : Int32)) G.1 G.2.1 dX2_append_79 (by decide) ?_
  obtain ⟨s9, es9, hf⟩ := ob hf
  refine k_ast (w := wC cy h) G hK hW 18 12 24 rfl (fun _ => rfl) es9 dX2_append_80 (fun H locs hW => ?_)
  refine lv_aload_n G.1 G.2.1 dX2_append_81 rfl (lv_at hl 1 rfl) ?_
  refine k_get G inlX2 hK hW 9 rfl rfl 10 (by decide) q_3_15 rfl dX2_append_82 ?_
  refine lv_iload G.1 G.2.1 dX2_append_85 (lv_at hl 0 rfl) ?_
  refine lv_iconst (v := (-1 : Int32)) G.1 G.2.1 dX2_append_87 (by decide) ?_
  obtain ⟨s10, es10, hf⟩ := ob hf
  refine k_ast (w := wC cy h) G hK hW 19 13 24 rfl (fun _ => rfl) es10 dX2_append_88 (fun H locs hW => ?_)
  refine lv_aload_n G.1 G.2.1 dX2_append_89 rfl (lv_at hl 1 rfl) ?_
  refine k_get G inlX2 hK hW 9 rfl rfl 11 (by decide) q_3_16 rfl dX2_append_90 ?_
  refine lv_iload G.1 G.2.1 dX2_append_93 (lv_at hl 0 rfl) ?_
  refine lv_iconst (v := (0 : Int32)) G.1 G.2.1 dX2_append_95 (by decide) ?_
  obtain ⟨s11, es11, hf⟩ := ob hf
  refine k_ast (w := wC cy h) G hK hW 20 14 24 rfl (fun _ => rfl) es11 dX2_append_96 (fun H locs hW => ?_)
  refine lv_aload_n G.1 G.2.1 dX2_append_97 rfl (lv_at hl 1 rfl) ?_
  refine k_get G inlX2 hK hW 9 rfl rfl 12 (by decide) q_3_17 rfl dX2_append_98 ?_
  refine lv_iload G.1 G.2.1 dX2_append_101 (lv_at hl 0 rfl) ?_
  refine lv_iconst (v := (0 : Int32)) G.1 G.2.1 dX2_append_103 (by decide) ?_
  obtain ⟨s12, es12, hf⟩ := ob hf
  refine k_ast (w := wC cy h) G hK hW 21 15 24 rfl (fun _ => rfl) es12 dX2_append_104 (fun H locs hW => ?_)
  refine lv_aload_n G.1 G.2.1 dX2_append_105 rfl (lv_at hl 1 rfl) ?_
  refine lv_dup G.1 G.2.1 dX2_append_106 rfl ?_
  refine k_get G inlX2 hK hW 9 rfl rfl 0 (by decide) q_3_5 rfl dX2_append_107 ?_
  refine lv_iconst (v := (1 : Int32)) G.1 G.2.1 dX2_append_110 (by decide) ?_
  refine lv_iadd G.1 G.2.1 dX2_append_111 ?_
  obtain ⟨s13, es13, hf⟩ := ob hf
  refine k_put (w := wC cy h) G inlX2 tyX2 tyX2_ok nmX2 hK hW 9 16 rfl rfl 0 (by decide) q_3_5 rfl (by decide +kernel) (Nat.le_of_ble_eq_true rfl) rfl es13 dX2_append_112 (fun H locs hW => ?_)
  refine lv_iload G.1 G.2.1 dX2_append_115 (lv_at hl 0 rfl) ?_
  cases hf
  exact k_iret G hr hlk hK hW dX2_append_117

set_option maxHeartbeats 4000000 in
set_option maxRecDepth 100000 in
theorem mX2_copyFrom (l : Launch) (D : va_G) (cy : ClassId) (h : Nat → Nat) (h2 : Nat → Nat) (sz n : Nat) (σ2 : St) (σ : St) {σ' : St} (hf : fX2_copyFrom n σ2 σ = some σ') : Mv l yX2_copyFrom (ws_ yX2_copyFrom cX2_copyFrom 2 none) { frames := 1, cells := 0, slots := 0, locals := 60 } D cy (wCC cy h h2 σ2 σ) (wCC cy h h2 σ2 σ') sz [.ref (h 101), .ref (h2 101)] := by
  refine Met.ofW (cc := cX2_copyFrom) (maxL := 2) (ret := none) (by decide) rfl ?_
  intro p e s m args below meth c s₁ B hml hv
  obtain ⟨rfl, hsz, hP, hK, hD0⟩ := hv
  subst hsz
  have hts := atoms_spec (ws := ws_ yX2_copyFrom cX2_copyFrom 2 none) B.pre
  have G : CallFix p m c cX2_copyFrom 2 s _ wA RX2 := ⟨B.exec, B.bytes, hml, findClass_of_methodNamed B.named, fun w h => hts w (List.mem_cons_of_mem _ h)⟩
  have hr := B.returns
  have hlk := B.notSynchronized
  have hW : KW D (va_A (wCC cy h h2 σ2 σ) s.heap.size) s.heap (wCC cy h h2 σ2 σ) s.heap [] := ⟨hP, hD0.self, va_S.rf⟩
  have hA : ∀ q, s.heap.size ≤ q → va_A (wCC cy h h2 σ2 σ) s.heap.size q := fun q h => Or.inr h
  have hl := lv_entry ([.ref (h 101), .ref (h2 101)]) (n := 2) (Nat.le_of_ble_eq_true rfl)
  rw [lg_entry_eq]
  generalize (lg_sl ([.ref (h 101), .ref (h2 101)]) ++ List.replicate (2 - (lg_sl ([.ref (h 101), .ref (h2 101)])).length) Slot.unset).toArray = ls at hl ⊢
  have hl : lv_has ls 2 [(0, .ref (h 101)), (1, .ref (h2 101))] := hl
  unfold fX2_copyFrom at hf
  refine lv_aload_n G.1 G.2.1 dX2_copyFrom_0 rfl (lv_at hl 0 rfl) ?_
  refine lv_aload_n G.1 G.2.1 dX2_copyFrom_1 rfl (lv_at hl 1 rfl) ?_
  refine k_get G inlX2 hK hW 35 rfl rfl 0 (by decide) q_3_5 rfl dX2_copyFrom_2 ?_
  obtain ⟨s1, es1, hf⟩ := ob hf
  refine k_put (w := wCC cy h h2 σ2) G inlX2 tyX2 tyX2_ok nmX2 hK hW 9 16 rfl rfl 0 (by decide) q_3_5 rfl (by decide +kernel) (Nat.le_of_ble_eq_true rfl) rfl es1 dX2_copyFrom_5 (fun H locs hW => ?_)
  refine lv_aload_n G.1 G.2.1 dX2_copyFrom_8 rfl (lv_at hl 1 rfl) ?_
  refine k_get G inlX2 hK hW 35 rfl rfl 1 (by decide) q_3_6 rfl dX2_copyFrom_9 ?_
  refine lv_iconst (v := (0 : Int32)) G.1 G.2.1 dX2_copyFrom_12 (by decide) ?_
  refine lv_aload_n G.1 G.2.1 dX2_copyFrom_13 rfl (lv_at hl 0 rfl) ?_
  refine k_get G inlX2 hK hW 9 rfl rfl 1 (by decide) q_3_6 rfl dX2_copyFrom_14 ?_
  refine lv_iconst (v := (0 : Int32)) G.1 G.2.1 dX2_copyFrom_17 (by decide) ?_
  refine lv_bipush (v := (24 : Int32)) G.1 G.2.1 dX2_copyFrom_18 (by decide) ?_
  obtain ⟨s2, es2, hf⟩ := ob hf
  refine k_cpy (w := wCC cy h h2 σ2) G hK hW 36 10 4 24 24 rfl rfl (fun _ => rfl) q_34_17 q_34_5 q_34_6 q_34_7 es2 hl.1 (Nat.le_of_ble_eq_true rfl) (Nat.le_of_ble_eq_true rfl) dX2_copyFrom_20 (fun H locs hW => ?_)
  refine lv_aload_n G.1 G.2.1 dX2_copyFrom_23 rfl (lv_at hl 1 rfl) ?_
  refine k_get G inlX2 hK hW 35 rfl rfl 2 (by decide) q_3_7 rfl dX2_copyFrom_24 ?_
  refine lv_iconst (v := (0 : Int32)) G.1 G.2.1 dX2_copyFrom_27 (by decide) ?_
  refine lv_aload_n G.1 G.2.1 dX2_copyFrom_28 rfl (lv_at hl 0 rfl) ?_
  refine k_get G inlX2 hK hW 9 rfl rfl 2 (by decide) q_3_7 rfl dX2_copyFrom_29 ?_
  refine lv_iconst (v := (0 : Int32)) G.1 G.2.1 dX2_copyFrom_32 (by decide) ?_
  refine lv_bipush (v := (24 : Int32)) G.1 G.2.1 dX2_copyFrom_33 (by decide) ?_
  obtain ⟨s3, es3, hf⟩ := ob hf
  refine k_cpy (w := wCC cy h h2 σ2) G hK hW 37 11 5 24 24 rfl rfl (fun _ => rfl) q_34_17 q_34_5 q_34_6 q_34_7 es3 hl.1 (Nat.le_of_ble_eq_true rfl) (Nat.le_of_ble_eq_true rfl) dX2_copyFrom_35 (fun H locs hW => ?_)
  refine lv_aload_n G.1 G.2.1 dX2_copyFrom_38 rfl (lv_at hl 1 rfl) ?_
  refine k_get G inlX2 hK hW 35 rfl rfl 3 (by decide) q_3_8 rfl dX2_copyFrom_39 ?_
  refine lv_iconst (v := (0 : Int32)) G.1 G.2.1 dX2_copyFrom_42 (by decide) ?_
  refine lv_aload_n G.1 G.2.1 dX2_copyFrom_43 rfl (lv_at hl 0 rfl) ?_
  refine k_get G inlX2 hK hW 9 rfl rfl 3 (by decide) q_3_8 rfl dX2_copyFrom_44 ?_
  refine lv_iconst (v := (0 : Int32)) G.1 G.2.1 dX2_copyFrom_47 (by decide) ?_
  refine lv_bipush (v := (24 : Int32)) G.1 G.2.1 dX2_copyFrom_48 (by decide) ?_
  obtain ⟨s4, es4, hf⟩ := ob hf
  refine k_cpy (w := wCC cy h h2 σ2) G hK hW 38 12 6 24 24 rfl rfl (fun _ => rfl) q_34_17 q_34_5 q_34_6 q_34_7 es4 hl.1 (Nat.le_of_ble_eq_true rfl) (Nat.le_of_ble_eq_true rfl) dX2_copyFrom_50 (fun H locs hW => ?_)
  refine lv_aload_n G.1 G.2.1 dX2_copyFrom_53 rfl (lv_at hl 1 rfl) ?_
  refine k_get G inlX2 hK hW 35 rfl rfl 4 (by decide) q_3_9 rfl dX2_copyFrom_54 ?_
  refine lv_iconst (v := (0 : Int32)) G.1 G.2.1 dX2_copyFrom_57 (by decide) ?_
  refine lv_aload_n G.1 G.2.1 dX2_copyFrom_58 rfl (lv_at hl 0 rfl) ?_
  refine k_get G inlX2 hK hW 9 rfl rfl 4 (by decide) q_3_9 rfl dX2_copyFrom_59 ?_
  refine lv_iconst (v := (0 : Int32)) G.1 G.2.1 dX2_copyFrom_62 (by decide) ?_
  refine lv_bipush (v := (24 : Int32)) G.1 G.2.1 dX2_copyFrom_63 (by decide) ?_
  obtain ⟨s5, es5, hf⟩ := ob hf
  refine k_cpy (w := wCC cy h h2 σ2) G hK hW 39 13 7 24 24 rfl rfl (fun _ => rfl) q_34_17 q_34_5 q_34_6 q_34_7 es5 hl.1 (Nat.le_of_ble_eq_true rfl) (Nat.le_of_ble_eq_true rfl) dX2_copyFrom_65 (fun H locs hW => ?_)
  refine lv_aload_n G.1 G.2.1 dX2_copyFrom_68 rfl (lv_at hl 1 rfl) ?_
  refine k_get G inlX2 hK hW 35 rfl rfl 5 (by decide) q_3_10 rfl dX2_copyFrom_69 ?_
  refine lv_iconst (v := (0 : Int32)) G.1 G.2.1 dX2_copyFrom_72 (by decide) ?_
  refine lv_aload_n G.1 G.2.1 dX2_copyFrom_73 rfl (lv_at hl 0 rfl) ?_
  refine k_get G inlX2 hK hW 9 rfl rfl 5 (by decide) q_3_10 rfl dX2_copyFrom_74 ?_
  refine lv_iconst (v := (0 : Int32)) G.1 G.2.1 dX2_copyFrom_77 (by decide) ?_
  refine lv_bipush (v := (24 : Int32)) G.1 G.2.1 dX2_copyFrom_78 (by decide) ?_
  obtain ⟨s6, es6, hf⟩ := ob hf
  refine k_cpy (w := wCC cy h h2 σ2) G hK hW 40 14 8 24 24 rfl rfl (fun _ => rfl) q_34_17 q_34_5 q_34_6 q_34_7 es6 hl.1 (Nat.le_of_ble_eq_true rfl) (Nat.le_of_ble_eq_true rfl) dX2_copyFrom_80 (fun H locs hW => ?_)
  refine lv_aload_n G.1 G.2.1 dX2_copyFrom_83 rfl (lv_at hl 1 rfl) ?_
  refine k_get G inlX2 hK hW 35 rfl rfl 6 (by decide) q_3_11 rfl dX2_copyFrom_84 ?_
  refine lv_iconst (v := (0 : Int32)) G.1 G.2.1 dX2_copyFrom_87 (by decide) ?_
  refine lv_aload_n G.1 G.2.1 dX2_copyFrom_88 rfl (lv_at hl 0 rfl) ?_
  refine k_get G inlX2 hK hW 9 rfl rfl 6 (by decide) q_3_11 rfl dX2_copyFrom_89 ?_
  refine lv_iconst (v := (0 : Int32)) G.1 G.2.1 dX2_copyFrom_92 (by decide) ?_
  refine lv_bipush (v := (24 : Int32)) G.1 G.2.1 dX2_copyFrom_93 (by decide) ?_
  obtain ⟨s7, es7, hf⟩ := ob hf
  refine k_cpy (w := wCC cy h h2 σ2) G hK hW 41 15 9 24 24 rfl rfl (fun _ => rfl) q_34_17 q_34_5 q_34_6 q_34_7 es7 hl.1 (Nat.le_of_ble_eq_true rfl) (Nat.le_of_ble_eq_true rfl) dX2_copyFrom_95 (fun H locs hW => ?_)
  refine lv_aload_n G.1 G.2.1 dX2_copyFrom_98 rfl (lv_at hl 1 rfl) ?_
  refine k_get G inlX2 hK hW 35 rfl rfl 7 (by decide) q_3_12 rfl dX2_copyFrom_99 ?_
  refine lv_iconst (v := (0 : Int32)) G.1 G.2.1 dX2_copyFrom_102 (by decide) ?_
  refine lv_aload_n G.1 G.2.1 dX2_copyFrom_103 rfl (lv_at hl 0 rfl) ?_
  refine k_get G inlX2 hK hW 9 rfl rfl 7 (by decide) q_3_12 rfl dX2_copyFrom_104 ?_
  refine lv_iconst (v := (0 : Int32)) G.1 G.2.1 dX2_copyFrom_107 (by decide) ?_
  refine lv_bipush (v := (24 : Int32)) G.1 G.2.1 dX2_copyFrom_108 (by decide) ?_
  obtain ⟨s8, es8, hf⟩ := ob hf
  refine k_cpy (w := wCC cy h h2 σ2) G hK hW 42 16 10 24 24 rfl rfl (fun _ => rfl) q_34_17 q_34_5 q_34_6 q_34_7 es8 hl.1 (Nat.le_of_ble_eq_true rfl) (Nat.le_of_ble_eq_true rfl) dX2_copyFrom_110 (fun H locs hW => ?_)
  refine lv_aload_n G.1 G.2.1 dX2_copyFrom_113 rfl (lv_at hl 1 rfl) ?_
  refine k_get G inlX2 hK hW 35 rfl rfl 8 (by decide) q_3_13 rfl dX2_copyFrom_114 ?_
  refine lv_iconst (v := (0 : Int32)) G.1 G.2.1 dX2_copyFrom_117 (by decide) ?_
  refine lv_aload_n G.1 G.2.1 dX2_copyFrom_118 rfl (lv_at hl 0 rfl) ?_
  refine k_get G inlX2 hK hW 9 rfl rfl 8 (by decide) q_3_13 rfl dX2_copyFrom_119 ?_
  refine lv_iconst (v := (0 : Int32)) G.1 G.2.1 dX2_copyFrom_122 (by decide) ?_
  refine lv_bipush (v := (24 : Int32)) G.1 G.2.1 dX2_copyFrom_123 (by decide) ?_
  obtain ⟨s9, es9, hf⟩ := ob hf
  refine k_cpy (w := wCC cy h h2 σ2) G hK hW 43 17 11 24 24 rfl rfl (fun _ => rfl) q_34_17 q_34_5 q_34_6 q_34_7 es9 hl.1 (Nat.le_of_ble_eq_true rfl) (Nat.le_of_ble_eq_true rfl) dX2_copyFrom_125 (fun H locs hW => ?_)
  refine lv_aload_n G.1 G.2.1 dX2_copyFrom_128 rfl (lv_at hl 1 rfl) ?_
  refine k_get G inlX2 hK hW 35 rfl rfl 9 (by decide) q_3_14 rfl dX2_copyFrom_129 ?_
  refine lv_iconst (v := (0 : Int32)) G.1 G.2.1 dX2_copyFrom_132 (by decide) ?_
  refine lv_aload_n G.1 G.2.1 dX2_copyFrom_133 rfl (lv_at hl 0 rfl) ?_
  refine k_get G inlX2 hK hW 9 rfl rfl 9 (by decide) q_3_14 rfl dX2_copyFrom_134 ?_
  refine lv_iconst (v := (0 : Int32)) G.1 G.2.1 dX2_copyFrom_137 (by decide) ?_
  refine lv_bipush (v := (24 : Int32)) G.1 G.2.1 dX2_copyFrom_138 (by decide) ?_
  obtain ⟨s10, es10, hf⟩ := ob hf
  refine k_cpy (w := wCC cy h h2 σ2) G hK hW 44 18 12 24 24 rfl rfl (fun _ => rfl) q_34_17 q_34_5 q_34_6 q_34_7 es10 hl.1 (Nat.le_of_ble_eq_true rfl) (Nat.le_of_ble_eq_true rfl) dX2_copyFrom_140 (fun H locs hW => ?_)
  refine lv_aload_n G.1 G.2.1 dX2_copyFrom_143 rfl (lv_at hl 1 rfl) ?_
  refine k_get G inlX2 hK hW 35 rfl rfl 10 (by decide) q_3_15 rfl dX2_copyFrom_144 ?_
  refine lv_iconst (v := (0 : Int32)) G.1 G.2.1 dX2_copyFrom_147 (by decide) ?_
  refine lv_aload_n G.1 G.2.1 dX2_copyFrom_148 rfl (lv_at hl 0 rfl) ?_
  refine k_get G inlX2 hK hW 9 rfl rfl 10 (by decide) q_3_15 rfl dX2_copyFrom_149 ?_
  refine lv_iconst (v := (0 : Int32)) G.1 G.2.1 dX2_copyFrom_152 (by decide) ?_
  refine lv_bipush (v := (24 : Int32)) G.1 G.2.1 dX2_copyFrom_153 (by decide) ?_
  obtain ⟨s11, es11, hf⟩ := ob hf
  refine k_cpy (w := wCC cy h h2 σ2) G hK hW 45 19 13 24 24 rfl rfl (fun _ => rfl) q_34_17 q_34_5 q_34_6 q_34_7 es11 hl.1 (Nat.le_of_ble_eq_true rfl) (Nat.le_of_ble_eq_true rfl) dX2_copyFrom_155 (fun H locs hW => ?_)
  refine lv_aload_n G.1 G.2.1 dX2_copyFrom_158 rfl (lv_at hl 1 rfl) ?_
  refine k_get G inlX2 hK hW 35 rfl rfl 11 (by decide) q_3_16 rfl dX2_copyFrom_159 ?_
  refine lv_iconst (v := (0 : Int32)) G.1 G.2.1 dX2_copyFrom_162 (by decide) ?_
  refine lv_aload_n G.1 G.2.1 dX2_copyFrom_163 rfl (lv_at hl 0 rfl) ?_
  refine k_get G inlX2 hK hW 9 rfl rfl 11 (by decide) q_3_16 rfl dX2_copyFrom_164 ?_
  refine lv_iconst (v := (0 : Int32)) G.1 G.2.1 dX2_copyFrom_167 (by decide) ?_
  refine lv_bipush (v := (24 : Int32)) G.1 G.2.1 dX2_copyFrom_168 (by decide) ?_
  obtain ⟨s12, es12, hf⟩ := ob hf
  refine k_cpy (w := wCC cy h h2 σ2) G hK hW 46 20 14 24 24 rfl rfl (fun _ => rfl) q_34_17 q_34_5 q_34_6 q_34_7 es12 hl.1 (Nat.le_of_ble_eq_true rfl) (Nat.le_of_ble_eq_true rfl) dX2_copyFrom_170 (fun H locs hW => ?_)
  refine lv_aload_n G.1 G.2.1 dX2_copyFrom_173 rfl (lv_at hl 1 rfl) ?_
  refine k_get G inlX2 hK hW 35 rfl rfl 12 (by decide) q_3_17 rfl dX2_copyFrom_174 ?_
  refine lv_iconst (v := (0 : Int32)) G.1 G.2.1 dX2_copyFrom_177 (by decide) ?_
  refine lv_aload_n G.1 G.2.1 dX2_copyFrom_178 rfl (lv_at hl 0 rfl) ?_
  refine k_get G inlX2 hK hW 9 rfl rfl 12 (by decide) q_3_17 rfl dX2_copyFrom_179 ?_
  refine lv_iconst (v := (0 : Int32)) G.1 G.2.1 dX2_copyFrom_182 (by decide) ?_
  refine lv_bipush (v := (24 : Int32)) G.1 G.2.1 dX2_copyFrom_183 (by decide) ?_
  obtain ⟨s13, es13, hf⟩ := ob hf
  refine k_cpy (w := wCC cy h h2 σ2) G hK hW 47 21 15 24 24 rfl rfl (fun _ => rfl) q_34_17 q_34_5 q_34_6 q_34_7 es13 hl.1 (Nat.le_of_ble_eq_true rfl) (Nat.le_of_ble_eq_true rfl) dX2_copyFrom_185 (fun H locs hW => ?_)
  cases hf
  exact k_vret G hr hlk hK hW dX2_copyFrom_188

set_option maxHeartbeats 4000000 in
set_option maxRecDepth 100000 in
theorem mX3_give (l : Launch) (D : va_G) (cy : ClassId) (h : Nat → Nat) (sz n : Nat) (σ : St) (x1 : Int32) (x2 : Int32) (x3 : Int32) (x4 : Int32) (x5 : Int32) {σ' : St} (hf : fX3_give n σ x1 x2 x3 x4 x5 = some σ') : Mv l yX3_give (ws_ yX3_give cX3_give 6 none) { frames := 1, cells := 0, slots := 0, locals := 21 } D cy (wC cy h σ) (wC cy h σ') sz [.ref (h 100), .int x1, .int x2, .int x3, .int x4, .int x5] := by
  refine Met.ofW (cc := cX3_give) (maxL := 6) (ret := none) (by decide) rfl ?_
  intro p e s m args below meth c s₁ B hml hv
  obtain ⟨rfl, hsz, hP, hK, hD0⟩ := hv
  subst hsz
  have hts := atoms_spec (ws := ws_ yX3_give cX3_give 6 none) B.pre
  have G : CallFix p m c cX3_give 6 s _ wA RX3 := ⟨B.exec, B.bytes, hml, findClass_of_methodNamed B.named, fun w h => hts w (List.mem_cons_of_mem _ h)⟩
  have hr := B.returns
  have hlk := B.notSynchronized
  have hW : KW D (va_A (wC cy h σ) s.heap.size) s.heap (wC cy h σ) s.heap [] := ⟨hP, hD0.self, va_S.rf⟩
  have hA : ∀ q, s.heap.size ≤ q → va_A (wC cy h σ) s.heap.size q := fun q h => Or.inr h
  have hl := lv_entry ([.ref (h 100), .int x1, .int x2, .int x3, .int x4, .int x5]) (n := 6) (Nat.le_of_ble_eq_true rfl)
  rw [lg_entry_eq]
  generalize (lg_sl ([.ref (h 100), .int x1, .int x2, .int x3, .int x4, .int x5]) ++ List.replicate (6 - (lg_sl ([.ref (h 100), .int x1, .int x2, .int x3, .int x4, .int x5])).length) Slot.unset).toArray = ls at hl ⊢
  have hl : lv_has ls 6 [(0, .ref (h 100)), (1, .int x1), (2, .int x2), (3, .int x3), (4, .int x4), (5, .int x5)] := hl
  unfold fX3_give at hf
  refine lv_aload_n G.1 G.2.1 dX3_give_0 rfl (lv_at hl 0 rfl) ?_
  refine k_get G inlX3 hK hW 4 rfl rfl 0 (by decide) q_2_22 rfl dX3_give_1 ?_
  refine lv_iload_n G.1 G.2.1 dX3_give_4 rfl (lv_at hl 1 rfl) ?_
  refine lv_iload_n G.1 G.2.1 dX3_give_5 rfl (lv_at hl 2 rfl) ?_
  refine lv_iload_n G.1 G.2.1 dX3_give_6 rfl (lv_at hl 3 rfl) ?_
  obtain ⟨v1, ev1, hf⟩ := ob hf
  refine kc_sN (n := 2) (As := [.int x2, .int x3]) G hW (mX4_blockMask l n x2 x3 ev1) (hK.2.2.2.2.2.2.1) q_6_17 q_1_2 q_6_18 ⟨rfl, rfl⟩ (by decide +kernel) ⟨Nat.le_of_ble_eq_true rfl, Nat.le_of_ble_eq_true rfl⟩ rfl hl.1 rfl (Nat.le_of_ble_eq_true rfl) dX3_give_7 ⟨Nat.le_of_ble_eq_true rfl, Nat.le_of_ble_eq_true rfl⟩ (fun H locs hW => ?_)
  obtain ⟨s2, es2, hf⟩ := ob hf
  refine k_ast (w := wC cy h) G hK hW 5 0 30 rfl (fun _ => rfl) es2 dX3_give_10 (fun H locs hW => ?_)
  refine lv_aload_n G.1 G.2.1 dX3_give_11 rfl (lv_at hl 0 rfl) ?_
  refine k_get G inlX3 hK hW 4 rfl rfl 1 (by decide) q_2_23 rfl dX3_give_12 ?_
  refine lv_iload_n G.1 G.2.1 dX3_give_15 rfl (lv_at hl 1 rfl) ?_
  refine lv_iload_n G.1 G.2.1 dX3_give_16 rfl (lv_at hl 3 rfl) ?_
  obtain ⟨s3, es3, hf⟩ := ob hf
  refine k_ast (w := wC cy h) G hK hW 6 1 30 rfl (fun _ => rfl) es3 dX3_give_17 (fun H locs hW => ?_)
  refine lv_aload_n G.1 G.2.1 dX3_give_18 rfl (lv_at hl 0 rfl) ?_
  refine k_get G inlX3 hK hW 4 rfl rfl 2 (by decide) q_3_0 rfl dX3_give_19 ?_
  refine lv_iload_n G.1 G.2.1 dX3_give_22 rfl (lv_at hl 1 rfl) ?_
  refine lv_iload G.1 G.2.1 dX3_give_23 (lv_at hl 4 rfl) ?_
  obtain ⟨s4, es4, hf⟩ := ob hf
  refine k_ast (w := wC cy h) G hK hW 7 2 30 rfl (fun _ => rfl) es4 dX3_give_25 (fun H locs hW => ?_)
  refine lv_aload_n G.1 G.2.1 dX3_give_26 rfl (lv_at hl 0 rfl) ?_
  refine k_get G inlX3 hK hW 4 rfl rfl 3 (by decide) q_3_1 rfl dX3_give_27 ?_
  refine lv_iload_n G.1 G.2.1 dX3_give_30 rfl (lv_at hl 1 rfl) ?_
  refine lv_iload G.1 G.2.1 dX3_give_31 (lv_at hl 4 rfl) ?_
  refine lv_iload G.1 G.2.1 dX3_give_33 (lv_at hl 5 rfl) ?_
  refine lv_iadd G.1 G.2.1 dX3_give_35 ?_
  obtain ⟨s5, es5, hf⟩ := ob hf
  refine k_ast (w := wC cy h) G hK hW 8 3 30 rfl (fun _ => rfl) es5 dX3_give_36 (fun H locs hW => ?_)
  cases hf
  exact k_vret G hr hlk hK hW dX3_give_37

set_option maxHeartbeats 4000000 in
set_option maxRecDepth 100000 in
theorem mX3_clearSlot (l : Launch) (D : va_G) (cy : ClassId) (h : Nat → Nat) (sz n : Nat) (σ : St) (x1 : Int32) {σ' : St} (hf : fX3_clearSlot n σ x1 = some σ') : Mv l yX3_clearSlot (ws_ yX3_clearSlot cX3_clearSlot 2 none) { frames := 0, cells := 0, slots := 0, locals := 0 } D cy (wC cy h σ) (wC cy h σ') sz [.ref (h 100), .int x1] := by
  refine Met.ofW (cc := cX3_clearSlot) (maxL := 2) (ret := none) (by decide) rfl ?_
  intro p e s m args below meth c s₁ B hml hv
  obtain ⟨rfl, hsz, hP, hK, hD0⟩ := hv
  subst hsz
  have hts := atoms_spec (ws := ws_ yX3_clearSlot cX3_clearSlot 2 none) B.pre
  have G : CallFix p m c cX3_clearSlot 2 s _ wA RX3 := ⟨B.exec, B.bytes, hml, findClass_of_methodNamed B.named, fun w h => hts w (List.mem_cons_of_mem _ h)⟩
  have hr := B.returns
  have hlk := B.notSynchronized
  have hW : KW D (va_A (wC cy h σ) s.heap.size) s.heap (wC cy h σ) s.heap [] := ⟨hP, hD0.self, va_S.rf⟩
  have hA : ∀ q, s.heap.size ≤ q → va_A (wC cy h σ) s.heap.size q := fun q h => Or.inr h
  have hl := lv_entry ([.ref (h 100), .int x1]) (n := 2) (Nat.le_of_ble_eq_true rfl)
  rw [lg_entry_eq]
  generalize (lg_sl ([.ref (h 100), .int x1]) ++ List.replicate (2 - (lg_sl ([.ref (h 100), .int x1])).length) Slot.unset).toArray = ls at hl ⊢
  have hl : lv_has ls 2 [(0, .ref (h 100)), (1, .int x1)] := hl
  unfold fX3_clearSlot at hf
  refine lv_aload_n G.1 G.2.1 dX3_clearSlot_0 rfl (lv_at hl 0 rfl) ?_
  refine k_get G inlX3 hK hW 4 rfl rfl 0 (by decide) q_2_22 rfl dX3_clearSlot_1 ?_
  refine lv_iload_n G.1 G.2.1 dX3_clearSlot_4 rfl (lv_at hl 1 rfl) ?_
  refine lv_iconst (v := (0 : Int32)) G.1 G.2.1 dX3_clearSlot_5 (by decide) ?_
  obtain ⟨s1, es1, hf⟩ := ob hf
  refine k_ast (w := wC cy h) G hK hW 5 0 30 rfl (fun _ => rfl) es1 dX3_clearSlot_6 (fun H locs hW => ?_)
  cases hf
  exact k_vret G hr hlk hK hW dX3_clearSlot_7

set_option maxHeartbeats 4000000 in
set_option maxRecDepth 100000 in
theorem mX3_isUsed (l : Launch) (D : va_G) (cy : ClassId) (h : Nat → Nat) (sz n : Nat) (σ : St) (x1 : Int32) {r : Int32} (hf : fX3_isUsed n σ x1 = some r) : Mi l yX3_isUsed (ws_ yX3_isUsed cX3_isUsed 2 (some .boolean)) { frames := 0, cells := 0, slots := 0, locals := 0 } D cy (wC cy h σ) (wC cy h σ) sz [.ref (h 100), .int x1] r := by
  refine Met.ofW (cc := cX3_isUsed) (maxL := 2) (ret := (some .boolean)) (by decide) rfl ?_
  intro p e s m args below meth c s₁ B hml hv
  obtain ⟨rfl, hsz, hP, hK, hD0⟩ := hv
  subst hsz
  have hts := atoms_spec (ws := ws_ yX3_isUsed cX3_isUsed 2 (some .boolean)) B.pre
  have G : CallFix p m c cX3_isUsed 2 s _ wA RX3 := ⟨B.exec, B.bytes, hml, findClass_of_methodNamed B.named, fun w h => hts w (List.mem_cons_of_mem _ h)⟩
  have hr := B.returns
  have hlk := B.notSynchronized
  have hW : KW D (va_A (wC cy h σ) s.heap.size) s.heap (wC cy h σ) s.heap [] := ⟨hP, hD0.self, va_S.rf⟩
  have hA : ∀ q, s.heap.size ≤ q → va_A (wC cy h σ) s.heap.size q := fun q h => Or.inr h
  have hl := lv_entry ([.ref (h 100), .int x1]) (n := 2) (Nat.le_of_ble_eq_true rfl)
  rw [lg_entry_eq]
  generalize (lg_sl ([.ref (h 100), .int x1]) ++ List.replicate (2 - (lg_sl ([.ref (h 100), .int x1])).length) Slot.unset).toArray = ls at hl ⊢
  have hl : lv_has ls 2 [(0, .ref (h 100)), (1, .int x1)] := hl
  unfold fX3_isUsed at hf
  refine lv_aload_n G.1 G.2.1 dX3_isUsed_0 rfl (lv_at hl 0 rfl) ?_
  refine k_get G inlX3 hK hW 4 rfl rfl 0 (by decide) q_2_22 rfl dX3_isUsed_1 ?_
  refine lv_iload_n G.1 G.2.1 dX3_isUsed_4 rfl (lv_at hl 1 rfl) ?_
  obtain ⟨v1, ev1, hf⟩ := ob hf
  refine k_ald G hK hW 5 rfl ev1 dX3_isUsed_5 ?_
  refine lv_if_eq (tgt := 13) G.1 G.2.1 dX3_isUsed_6 (by decide) (fun c6 => ?_) (fun c6 => ?_)
  · replace hf := it c6 hf
    refine lv_iconst (v := (0 : Int32)) G.1 G.2.1 dX3_isUsed_13 (by decide) ?_
    cases hf
    exact k_zret G hr hlk hK hW rfl dX3_isUsed_14
  · replace hf := ie c6 hf
    refine lv_iconst (v := (1 : Int32)) G.1 G.2.1 dX3_isUsed_9 (by decide) ?_
    refine lv_goto (tgt := 14) G.1 G.2.1 dX3_isUsed_10 (by decide) ?_
    cases hf
    exact k_zret G hr hlk hK hW rfl dX3_isUsed_14

set_option maxHeartbeats 4000000 in
set_option maxRecDepth 100000 in
theorem mX3_takenIn (l : Launch) (D : va_G) (cy : ClassId) (h : Nat → Nat) (sz n : Nat) (σ : St) (x1 : Int32) (x2 : Int32) {r : Int32} (hf : fX3_takenIn n σ x1 x2 = some r) : Mi l yX3_takenIn (ws_ yX3_takenIn cX3_takenIn 5 (some .int)) { frames := 0, cells := 0, slots := 0, locals := 0 } D cy (wC cy h σ) (wC cy h σ) sz [.ref (h 100), .int x1, .int x2] r := by
  refine Met.ofW (cc := cX3_takenIn) (maxL := 5) (ret := (some .int)) (by decide) rfl ?_
  intro p e s m args below meth c s₁ B hml hv
  obtain ⟨rfl, hsz, hP, hK, hD0⟩ := hv
  subst hsz
  have hts := atoms_spec (ws := ws_ yX3_takenIn cX3_takenIn 5 (some .int)) B.pre
  have G : CallFix p m c cX3_takenIn 5 s _ wA RX3 := ⟨B.exec, B.bytes, hml, findClass_of_methodNamed B.named, fun w h => hts w (List.mem_cons_of_mem _ h)⟩
  have hr := B.returns
  have hlk := B.notSynchronized
  have hW : KW D (va_A (wC cy h σ) s.heap.size) s.heap (wC cy h σ) s.heap [] := ⟨hP, hD0.self, va_S.rf⟩
  have hA : ∀ q, s.heap.size ≤ q → va_A (wC cy h σ) s.heap.size q := fun q h => Or.inr h
  have hl := lv_entry ([.ref (h 100), .int x1, .int x2]) (n := 5) (Nat.le_of_ble_eq_true rfl)
  rw [lg_entry_eq]
  generalize (lg_sl ([.ref (h 100), .int x1, .int x2]) ++ List.replicate (5 - (lg_sl ([.ref (h 100), .int x1, .int x2])).length) Slot.unset).toArray = ls at hl ⊢
  have hl : lv_has ls 5 [(0, .ref (h 100)), (1, .int x1), (2, .int x2)] := hl
  unfold fX3_takenIn at hf
  refine lv_iconst (v := (0 : Int32)) G.1 G.2.1 dX3_takenIn_0 (by decide) ?_
  refine lv_istore_n (lv' := [(3, .int (0 : Int32)), (0, .ref (h 100)), (1, .int x1), (2, .int x2)]) G.1 G.2.1 dX3_takenIn_1 rfl hl (by decide) rfl (fun ls hl => ?_)
  refine lv_iconst (v := (0 : Int32)) G.1 G.2.1 dX3_takenIn_2 (by decide) ?_
  refine lv_istore (lv' := [(4, .int (0 : Int32)), (3, .int (0 : Int32)), (0, .ref (h 100)), (1, .int x1), (2, .int x2)]) G.1 G.2.1 dX3_takenIn_3 hl (by decide) rfl (fun ls hl => ?_)
  have L5 : ∀ (fu : Nat) (y1 : Int32) (y2 : Int32) (H : Heap) (locs : List Loc) (ls : Array Slot), lz2 (fX3_takenIn_b5 σ x1 x2) fu y1 y2 = some r → KW D (va_A (wC cy h σ) s.heap.size) s.heap (wC cy h σ) H locs → lv_has ls 5 [(4, .int y1), (3, .int y2), (0, .ref (h 100)), (1, .int x1), (2, .int x2)] → W p l e (headSpec (ws_ yX3_takenIn cX3_takenIn 5 (some .int)) { frames := 0, cells := 0, slots := 0, locals := 0 }).room s m (([.ref (h 100), .int x1, .int x2] : List Value).toArray) below meth c H locs 0 0 (MQ below (va_Qi (fun (r' : Int32) (_ : Unit) => r' = r) (fun _ => KB D (va_A (wC cy h σ) s.heap.size) (wC cy h σ)) (va_A (wC cy h σ) s.heap.size)) (([.ref (h 100), .int x1, .int x2] : List Value).toArray) s 0 0 (va_A (wC cy h σ) s.heap.size)) (F0 m 5 ls []) := by
    intro fu5
    induction fu5 with
    | zero => intro y1 y2 H locs ls hf; cases hf
    | succ fu5 ih5 =>
      intro y1 y2 H locs ls hf hW hl
      rw [lz2_s] at hf
      unfold fX3_takenIn_b5 at hf
      refine lv_iload G.1 G.2.1 dX3_takenIn_5 (lv_at hl 0 rfl) ?_
      refine lv_bipush (v := (30 : Int32)) G.1 G.2.1 dX3_takenIn_7 (by decide) ?_
      refine lv_icmp_ge (tgt := 50) G.1 G.2.1 dX3_takenIn_9 (by decide) (fun c9 => ?_) (fun c9 => ?_)
      · replace hf := it c9 hf
        refine lv_iload_n G.1 G.2.1 dX3_takenIn_50 rfl (lv_at hl 1 rfl) ?_
        cases hf
        exact k_iret G hr hlk hK hW dX3_takenIn_51
      · replace hf := ie c9 hf
        refine lv_aload_n G.1 G.2.1 dX3_takenIn_12 rfl (lv_at hl 2 rfl) ?_
        refine k_get G inlX3 hK hW 4 rfl rfl 2 (by decide) q_3_0 rfl dX3_takenIn_13 ?_
        refine lv_iload G.1 G.2.1 dX3_takenIn_16 (lv_at hl 0 rfl) ?_
        obtain ⟨v4, ev4, hf⟩ := ob hf
        refine k_ald G hK hW 7 rfl ev4 dX3_takenIn_18 ?_
        refine lv_iload_n G.1 G.2.1 dX3_takenIn_19 rfl (lv_at hl 4 rfl) ?_
        refine lv_icmp_gt (tgt := 44) G.1 G.2.1 dX3_takenIn_20 (by decide) (fun c20 => ?_) (fun c20 => ?_)
        · replace hf := it c20 hf
          refine lv_iinc (v := (y1 + (1 : Int32))) (lv' := [(4, .int (y1 + (1 : Int32))), (3, .int y2), (0, .ref (h 100)), (1, .int x1), (2, .int x2)]) G.1 G.2.1 dX3_takenIn_44 hl (k := 0) rfl (congrArg (y1 + ·) (by decide)) (by decide) rfl (fun ls hl => ?_)
          refine lv_goto (tgt := 5) G.1 G.2.1 dX3_takenIn_47 (by decide) ?_
          exact ih5 _ _ _ _ _ hf hW (lv_sub hl [0, 1, 2, 3, 4] rfl)
        · replace hf := ie c20 hf
          refine lv_aload_n G.1 G.2.1 dX3_takenIn_23 rfl (lv_at hl 2 rfl) ?_
          refine k_get G inlX3 hK hW 4 rfl rfl 3 (by decide) q_3_1 rfl dX3_takenIn_24 ?_
          refine lv_iload G.1 G.2.1 dX3_takenIn_27 (lv_at hl 0 rfl) ?_
          obtain ⟨v5, ev5, hf⟩ := ob hf
          refine k_ald G hK hW 8 rfl ev5 dX3_takenIn_29 ?_
          refine lv_iload_n G.1 G.2.1 dX3_takenIn_30 rfl (lv_at hl 3 rfl) ?_
          refine lv_icmp_le (tgt := 44) G.1 G.2.1 dX3_takenIn_31 (by decide) (fun c31 => ?_) (fun c31 => ?_)
          · replace hf := it c31 hf
            refine lv_iinc (v := (y1 + (1 : Int32))) (lv' := [(4, .int (y1 + (1 : Int32))), (3, .int y2), (0, .ref (h 100)), (1, .int x1), (2, .int x2)]) G.1 G.2.1 dX3_takenIn_44 hl (k := 0) rfl (congrArg (y1 + ·) (by decide)) (by decide) rfl (fun ls hl => ?_)
            refine lv_goto (tgt := 5) G.1 G.2.1 dX3_takenIn_47 (by decide) ?_
            exact ih5 _ _ _ _ _ hf hW (lv_sub hl [0, 1, 2, 3, 4] rfl)
          · replace hf := ie c31 hf
            refine lv_iload_n G.1 G.2.1 dX3_takenIn_34 rfl (lv_at hl 1 rfl) ?_
            refine lv_aload_n G.1 G.2.1 dX3_takenIn_35 rfl (lv_at hl 2 rfl) ?_
            refine k_get G inlX3 hK hW 4 rfl rfl 0 (by decide) q_2_22 rfl dX3_takenIn_36 ?_
            refine lv_iload G.1 G.2.1 dX3_takenIn_39 (lv_at hl 0 rfl) ?_
            obtain ⟨v6, ev6, hf⟩ := ob hf
            refine k_ald G hK hW 5 rfl ev6 dX3_takenIn_41 ?_
            refine lv_ior G.1 G.2.1 dX3_takenIn_42 ?_
            refine lv_istore_n (lv' := [(3, .int (y2 ||| v6)), (4, .int y1), (0, .ref (h 100)), (1, .int x1), (2, .int x2)]) G.1 G.2.1 dX3_takenIn_43 rfl hl (by decide) rfl (fun ls hl => ?_)
            refine lv_iinc (v := (y1 + (1 : Int32))) (lv' := [(4, .int (y1 + (1 : Int32))), (3, .int (y2 ||| v6)), (0, .ref (h 100)), (1, .int x1), (2, .int x2)]) G.1 G.2.1 dX3_takenIn_44 hl (k := 1) rfl (congrArg (y1 + ·) (by decide)) (by decide) rfl (fun ls hl => ?_)
            refine lv_goto (tgt := 5) G.1 G.2.1 dX3_takenIn_47 (by decide) ?_
            exact ih5 _ _ _ _ _ hf hW (lv_sub hl [0, 1, 2, 3, 4] rfl)
  exact L5 _ _ _ _ _ _ hf hW (lv_sub hl [0, 1, 2, 3, 4] rfl)

set_option maxHeartbeats 4000000 in
set_option maxRecDepth 100000 in
theorem mX3_lowestFree (l : Launch) (D : va_G) (cy : ClassId) (h : Nat → Nat) (sz n : Nat) (σ : St) (x1 : Int32) (x2 : Int32) (x3 : Int32) {r : Int32} (hf : fX3_lowestFree n σ x1 x2 x3 = some r) : Mi l yX3_lowestFree (ws_ yX3_lowestFree cX3_lowestFree 4 (some .int)) { frames := 2, cells := 0, slots := 0, locals := 45 } D cy (wC cy h σ) (wC cy h σ) sz [.ref (h 100), .int x1, .int x2, .int x3] r := by
  refine Met.ofW (cc := cX3_lowestFree) (maxL := 4) (ret := (some .int)) (by decide) rfl ?_
  intro p e s m args below meth c s₁ B hml hv
  obtain ⟨rfl, hsz, hP, hK, hD0⟩ := hv
  subst hsz
  have hts := atoms_spec (ws := ws_ yX3_lowestFree cX3_lowestFree 4 (some .int)) B.pre
  have G : CallFix p m c cX3_lowestFree 4 s _ wA RX3 := ⟨B.exec, B.bytes, hml, findClass_of_methodNamed B.named, fun w h => hts w (List.mem_cons_of_mem _ h)⟩
  have hr := B.returns
  have hlk := B.notSynchronized
  have hW : KW D (va_A (wC cy h σ) s.heap.size) s.heap (wC cy h σ) s.heap [] := ⟨hP, hD0.self, va_S.rf⟩
  have hA : ∀ q, s.heap.size ≤ q → va_A (wC cy h σ) s.heap.size q := fun q h => Or.inr h
  have hl := lv_entry ([.ref (h 100), .int x1, .int x2, .int x3]) (n := 4) (Nat.le_of_ble_eq_true rfl)
  rw [lg_entry_eq]
  generalize (lg_sl ([.ref (h 100), .int x1, .int x2, .int x3]) ++ List.replicate (4 - (lg_sl ([.ref (h 100), .int x1, .int x2, .int x3])).length) Slot.unset).toArray = ls at hl ⊢
  have hl : lv_has ls 4 [(0, .ref (h 100)), (1, .int x1), (2, .int x2), (3, .int x3)] := hl
  unfold fX3_lowestFree at hf
  refine lv_aload_n G.1 G.2.1 dX3_lowestFree_0 rfl (lv_at hl 0 rfl) ?_
  refine lv_iload_n G.1 G.2.1 dX3_lowestFree_1 rfl (lv_at hl 2 rfl) ?_
  refine lv_iload_n G.1 G.2.1 dX3_lowestFree_2 rfl (lv_at hl 2 rfl) ?_
  refine lv_iload_n G.1 G.2.1 dX3_lowestFree_3 rfl (lv_at hl 3 rfl) ?_
  refine lv_iadd G.1 G.2.1 dX3_lowestFree_4 ?_
  refine lv_iconst (v := (1 : Int32)) G.1 G.2.1 dX3_lowestFree_5 (by decide) ?_
  refine lv_isub G.1 G.2.1 dX3_lowestFree_6 ?_
  obtain ⟨v1, ev1, hf⟩ := ob hf
  refine kc_i (wr := []) (w := wC cy h σ) (w' := wC cy h σ) (n := 2) (As := [.int x2, .int ((x2 + x3) - (1 : Int32))]) (C := RX3) G hK hA hW (mX3_takenIn l D cy h _ n σ x2 ((x2 + x3) - (1 : Int32)) ev1) (gV q_6_10 q_6_11 q_6_12 q_2_2 q_6_13) ⟨rfl, rfl⟩ (by decide +kernel) ⟨Nat.le_of_ble_eq_true rfl, Nat.le_of_ble_eq_true rfl⟩ (va_recv hK.1 hW.1 (ci := 5) (q0 := 4) rfl rfl) rfl hl.1 rfl (Nat.le_of_ble_eq_true rfl) dX3_lowestFree_7 ⟨Nat.le_of_ble_eq_true rfl, Nat.le_of_ble_eq_true rfl⟩ (fun H locs hW => ?_)
  refine lv_iload_n G.1 G.2.1 dX3_lowestFree_10 rfl (lv_at hl 1 rfl) ?_
  obtain ⟨v2, ev2, hf⟩ := ob hf
  refine kc_sN (n := 2) (As := [.int v1, .int x1]) G hW (mX4_lowestClear l n v1 x1 ev2) (hK.2.2.2.2.2.1) q_6_14 q_1_2 q_6_15 ⟨rfl, rfl⟩ (by decide +kernel) ⟨Nat.le_of_ble_eq_true rfl, Nat.le_of_ble_eq_true rfl⟩ rfl hl.1 rfl (Nat.le_of_ble_eq_true rfl) dX3_lowestFree_11 ⟨Nat.le_of_ble_eq_true rfl, Nat.le_of_ble_eq_true rfl⟩ (fun H locs hW => ?_)
  cases hf
  exact k_iret G hr hlk hK hW dX3_lowestFree_14

set_option maxHeartbeats 4000000 in
set_option maxRecDepth 100000 in
theorem mX3_nextEnd (l : Launch) (D : va_G) (cy : ClassId) (h : Nat → Nat) (sz n : Nat) (σ : St) (x1 : Int32) {r : Int32} (hf : fX3_nextEnd n σ x1 = some r) : Mi l yX3_nextEnd (ws_ yX3_nextEnd cX3_nextEnd 4 (some .int)) { frames := 0, cells := 0, slots := 0, locals := 0 } D cy (wC cy h σ) (wC cy h σ) sz [.ref (h 100), .int x1] r := by
  refine Met.ofW (cc := cX3_nextEnd) (maxL := 4) (ret := (some .int)) (by decide) rfl ?_
  intro p e s m args below meth c s₁ B hml hv
  obtain ⟨rfl, hsz, hP, hK, hD0⟩ := hv
  subst hsz
  have hts := atoms_spec (ws := ws_ yX3_nextEnd cX3_nextEnd 4 (some .int)) B.pre
  have G : CallFix p m c cX3_nextEnd 4 s _ wA RX3 := ⟨B.exec, B.bytes, hml, findClass_of_methodNamed B.named, fun w h => hts w (List.mem_cons_of_mem _ h)⟩
  have hr := B.returns
  have hlk := B.notSynchronized
  have hW : KW D (va_A (wC cy h σ) s.heap.size) s.heap (wC cy h σ) s.heap [] := ⟨hP, hD0.self, va_S.rf⟩
  have hA : ∀ q, s.heap.size ≤ q → va_A (wC cy h σ) s.heap.size q := fun q h => Or.inr h
  have hl := lv_entry ([.ref (h 100), .int x1]) (n := 4) (Nat.le_of_ble_eq_true rfl)
  rw [lg_entry_eq]
  generalize (lg_sl ([.ref (h 100), .int x1]) ++ List.replicate (4 - (lg_sl ([.ref (h 100), .int x1])).length) Slot.unset).toArray = ls at hl ⊢
  have hl : lv_has ls 4 [(0, .ref (h 100)), (1, .int x1)] := hl
  unfold fX3_nextEnd at hf
  refine lv_iload_n G.1 G.2.1 dX3_nextEnd_0 rfl (lv_at hl 1 rfl) ?_
  refine lv_istore_n (lv' := [(2, .int x1), (0, .ref (h 100)), (1, .int x1)]) G.1 G.2.1 dX3_nextEnd_1 rfl hl (by decide) rfl (fun ls hl => ?_)
  refine lv_iconst (v := (0 : Int32)) G.1 G.2.1 dX3_nextEnd_2 (by decide) ?_
  refine lv_istore_n (lv' := [(3, .int (0 : Int32)), (2, .int x1), (0, .ref (h 100)), (1, .int x1)]) G.1 G.2.1 dX3_nextEnd_3 rfl hl (by decide) rfl (fun ls hl => ?_)
  have L4 : ∀ (fu : Nat) (y1 : Int32) (y2 : Int32) (H : Heap) (locs : List Loc) (ls : Array Slot), lz2 (fX3_nextEnd_b4 σ x1) fu y1 y2 = some r → KW D (va_A (wC cy h σ) s.heap.size) s.heap (wC cy h σ) H locs → lv_has ls 4 [(3, .int y1), (2, .int y2), (0, .ref (h 100)), (1, .int x1)] → W p l e (headSpec (ws_ yX3_nextEnd cX3_nextEnd 4 (some .int)) { frames := 0, cells := 0, slots := 0, locals := 0 }).room s m (([.ref (h 100), .int x1] : List Value).toArray) below meth c H locs 0 0 (MQ below (va_Qi (fun (r' : Int32) (_ : Unit) => r' = r) (fun _ => KB D (va_A (wC cy h σ) s.heap.size) (wC cy h σ)) (va_A (wC cy h σ) s.heap.size)) (([.ref (h 100), .int x1] : List Value).toArray) s 0 0 (va_A (wC cy h σ) s.heap.size)) (F0 m 4 ls []) := by
    intro fu4
    induction fu4 with
    | zero => intro y1 y2 H locs ls hf; cases hf
    | succ fu4 ih4 =>
      intro y1 y2 H locs ls hf hW hl
      rw [lz2_s] at hf
      unfold fX3_nextEnd_b4 at hf
      refine lv_iload_n G.1 G.2.1 dX3_nextEnd_4 rfl (lv_at hl 0 rfl) ?_
      refine lv_bipush (v := (30 : Int32)) G.1 G.2.1 dX3_nextEnd_5 (by decide) ?_
      refine lv_icmp_ge (tgt := 57) G.1 G.2.1 dX3_nextEnd_7 (by decide) (fun c7 => ?_) (fun c7 => ?_)
      · replace hf := it c7 hf
        refine lv_iload_n G.1 G.2.1 dX3_nextEnd_57 rfl (lv_at hl 1 rfl) ?_
        cases hf
        exact k_iret G hr hlk hK hW dX3_nextEnd_58
      · replace hf := ie c7 hf
        refine lv_aload_n G.1 G.2.1 dX3_nextEnd_10 rfl (lv_at hl 2 rfl) ?_
        refine k_get G inlX3 hK hW 4 rfl rfl 0 (by decide) q_2_22 rfl dX3_nextEnd_11 ?_
        refine lv_iload_n G.1 G.2.1 dX3_nextEnd_14 rfl (lv_at hl 0 rfl) ?_
        obtain ⟨v4, ev4, hf⟩ := ob hf
        refine k_ald G hK hW 5 rfl ev4 dX3_nextEnd_15 ?_
        refine lv_if_eq (tgt := 51) G.1 G.2.1 dX3_nextEnd_16 (by decide) (fun c16 => ?_) (fun c16 => ?_)
        · replace hf := it c16 hf
          refine lv_iinc (v := (y1 + (1 : Int32))) (lv' := [(3, .int (y1 + (1 : Int32))), (2, .int y2), (0, .ref (h 100)), (1, .int x1)]) G.1 G.2.1 dX3_nextEnd_51 hl (k := 0) rfl (congrArg (y1 + ·) (by decide)) (by decide) rfl (fun ls hl => ?_)
          refine lv_goto (tgt := 4) G.1 G.2.1 dX3_nextEnd_54 (by decide) ?_
          exact ih4 _ _ _ _ _ hf hW (lv_sub hl [0, 1, 2, 3] rfl)
        · replace hf := ie c16 hf
          refine lv_aload_n G.1 G.2.1 dX3_nextEnd_19 rfl (lv_at hl 2 rfl) ?_
          refine k_get G inlX3 hK hW 4 rfl rfl 3 (by decide) q_3_1 rfl dX3_nextEnd_20 ?_
          refine lv_iload_n G.1 G.2.1 dX3_nextEnd_23 rfl (lv_at hl 0 rfl) ?_
          obtain ⟨v5, ev5, hf⟩ := ob hf
          refine k_ald G hK hW 8 rfl ev5 dX3_nextEnd_24 ?_
          refine lv_iload_n G.1 G.2.1 dX3_nextEnd_25 rfl (lv_at hl 3 rfl) ?_
          refine lv_icmp_le (tgt := 51) G.1 G.2.1 dX3_nextEnd_26 (by decide) (fun c26 => ?_) (fun c26 => ?_)
          · replace hf := it c26 hf
            refine lv_iinc (v := (y1 + (1 : Int32))) (lv' := [(3, .int (y1 + (1 : Int32))), (2, .int y2), (0, .ref (h 100)), (1, .int x1)]) G.1 G.2.1 dX3_nextEnd_51 hl (k := 0) rfl (congrArg (y1 + ·) (by decide)) (by decide) rfl (fun ls hl => ?_)
            refine lv_goto (tgt := 4) G.1 G.2.1 dX3_nextEnd_54 (by decide) ?_
            exact ih4 _ _ _ _ _ hf hW (lv_sub hl [0, 1, 2, 3] rfl)
          · replace hf := ie c26 hf
            refine lv_iload_n G.1 G.2.1 dX3_nextEnd_29 rfl (lv_at hl 1 rfl) ?_
            refine lv_iload_n G.1 G.2.1 dX3_nextEnd_30 rfl (lv_at hl 3 rfl) ?_
            refine lv_icmp_eq (tgt := 44) G.1 G.2.1 dX3_nextEnd_31 (by decide) (fun c31 => ?_) (fun c31 => ?_)
            · replace hf := it c31 hf
              refine lv_aload_n G.1 G.2.1 dX3_nextEnd_44 rfl (lv_at hl 2 rfl) ?_
              refine k_get G inlX3 hK hW 4 rfl rfl 3 (by decide) q_3_1 rfl dX3_nextEnd_45 ?_
              refine lv_iload_n G.1 G.2.1 dX3_nextEnd_48 rfl (lv_at hl 0 rfl) ?_
              obtain ⟨v6, ev6, hf⟩ := ob hf
              refine k_ald G hK hW 8 rfl ev6 dX3_nextEnd_49 ?_
              refine lv_istore_n (lv' := [(2, .int v6), (3, .int y1), (0, .ref (h 100)), (1, .int x1)]) G.1 G.2.1 dX3_nextEnd_50 rfl hl (by decide) rfl (fun ls hl => ?_)
              refine lv_iinc (v := (y1 + (1 : Int32))) (lv' := [(3, .int (y1 + (1 : Int32))), (2, .int v6), (0, .ref (h 100)), (1, .int x1)]) G.1 G.2.1 dX3_nextEnd_51 hl (k := 1) rfl (congrArg (y1 + ·) (by decide)) (by decide) rfl (fun ls hl => ?_)
              refine lv_goto (tgt := 4) G.1 G.2.1 dX3_nextEnd_54 (by decide) ?_
              exact ih4 _ _ _ _ _ hf hW (lv_sub hl [0, 1, 2, 3] rfl)
            · replace hf := ie c31 hf
              refine lv_aload_n G.1 G.2.1 dX3_nextEnd_34 rfl (lv_at hl 2 rfl) ?_
              refine k_get G inlX3 hK hW 4 rfl rfl 3 (by decide) q_3_1 rfl dX3_nextEnd_35 ?_
              refine lv_iload_n G.1 G.2.1 dX3_nextEnd_38 rfl (lv_at hl 0 rfl) ?_
              obtain ⟨v7, ev7, hf⟩ := ob hf
              refine k_ald G hK hW 8 rfl ev7 dX3_nextEnd_39 ?_
              refine lv_iload_n G.1 G.2.1 dX3_nextEnd_40 rfl (lv_at hl 1 rfl) ?_
              refine lv_icmp_ge (tgt := 51) G.1 G.2.1 dX3_nextEnd_41 (by decide) (fun c41 => ?_) (fun c41 => ?_)
              · replace hf := it c41 hf
                refine lv_iinc (v := (y1 + (1 : Int32))) (lv' := [(3, .int (y1 + (1 : Int32))), (2, .int y2), (0, .ref (h 100)), (1, .int x1)]) G.1 G.2.1 dX3_nextEnd_51 hl (k := 0) rfl (congrArg (y1 + ·) (by decide)) (by decide) rfl (fun ls hl => ?_)
                refine lv_goto (tgt := 4) G.1 G.2.1 dX3_nextEnd_54 (by decide) ?_
                exact ih4 _ _ _ _ _ hf hW (lv_sub hl [0, 1, 2, 3] rfl)
              · replace hf := ie c41 hf
                refine lv_aload_n G.1 G.2.1 dX3_nextEnd_44 rfl (lv_at hl 2 rfl) ?_
                refine k_get G inlX3 hK hW 4 rfl rfl 3 (by decide) q_3_1 rfl dX3_nextEnd_45 ?_
                refine lv_iload_n G.1 G.2.1 dX3_nextEnd_48 rfl (lv_at hl 0 rfl) ?_
                obtain ⟨v8, ev8, hf⟩ := ob hf
                refine k_ald G hK hW 8 rfl ev8 dX3_nextEnd_49 ?_
                refine lv_istore_n (lv' := [(2, .int v8), (3, .int y1), (0, .ref (h 100)), (1, .int x1)]) G.1 G.2.1 dX3_nextEnd_50 rfl hl (by decide) rfl (fun ls hl => ?_)
                refine lv_iinc (v := (y1 + (1 : Int32))) (lv' := [(3, .int (y1 + (1 : Int32))), (2, .int v8), (0, .ref (h 100)), (1, .int x1)]) G.1 G.2.1 dX3_nextEnd_51 hl (k := 1) rfl (congrArg (y1 + ·) (by decide)) (by decide) rfl (fun ls hl => ?_)
                refine lv_goto (tgt := 4) G.1 G.2.1 dX3_nextEnd_54 (by decide) ?_
                exact ih4 _ _ _ _ _ hf hW (lv_sub hl [0, 1, 2, 3] rfl)
  exact L4 _ _ _ _ _ _ hf hW (lv_sub hl [0, 1, 2, 3] rfl)

set_option maxHeartbeats 4000000 in
set_option maxRecDepth 100000 in
theorem mX3_earliest (l : Launch) (D : va_G) (cy : ClassId) (h : Nat → Nat) (sz n : Nat) (σ : St) (x1 : Int32) (x2 : Int32) (x3 : Int32) {r : Int32} (hf : fX3_earliest n σ x1 x2 x3 = some r) : Mi l yX3_earliest (ws_ yX3_earliest cX3_earliest 7 (some .int)) { frames := 2, cells := 0, slots := 0, locals := 45 } D cy (wC cy h σ) (wC cy h σ) sz [.ref (h 100), .int x1, .int x2, .int x3] r := by
  refine Met.ofW (cc := cX3_earliest) (maxL := 7) (ret := (some .int)) (by decide) rfl ?_
  intro p e s m args below meth c s₁ B hml hv
  obtain ⟨rfl, hsz, hP, hK, hD0⟩ := hv
  subst hsz
  have hts := atoms_spec (ws := ws_ yX3_earliest cX3_earliest 7 (some .int)) B.pre
  have G : CallFix p m c cX3_earliest 7 s _ wA RX3 := ⟨B.exec, B.bytes, hml, findClass_of_methodNamed B.named, fun w h => hts w (List.mem_cons_of_mem _ h)⟩
  have hr := B.returns
  have hlk := B.notSynchronized
  have hW : KW D (va_A (wC cy h σ) s.heap.size) s.heap (wC cy h σ) s.heap [] := ⟨hP, hD0.self, va_S.rf⟩
  have hA : ∀ q, s.heap.size ≤ q → va_A (wC cy h σ) s.heap.size q := fun q h => Or.inr h
  have hl := lv_entry ([.ref (h 100), .int x1, .int x2, .int x3]) (n := 7) (Nat.le_of_ble_eq_true rfl)
  rw [lg_entry_eq]
  generalize (lg_sl ([.ref (h 100), .int x1, .int x2, .int x3]) ++ List.replicate (7 - (lg_sl ([.ref (h 100), .int x1, .int x2, .int x3])).length) Slot.unset).toArray = ls at hl ⊢
  have hl : lv_has ls 7 [(0, .ref (h 100)), (1, .int x1), (2, .int x2), (3, .int x3)] := hl
  unfold fX3_earliest at hf
  refine lv_iload_n G.1 G.2.1 dX3_earliest_0 rfl (lv_at hl 2 rfl) ?_
  refine lv_istore (lv' := [(4, .int x2), (0, .ref (h 100)), (1, .int x1), (2, .int x2), (3, .int x3)]) G.1 G.2.1 dX3_earliest_1 hl (by decide) rfl (fun ls hl => ?_)
  refine lv_iconst (v := (0 : Int32)) G.1 G.2.1 dX3_earliest_3 (by decide) ?_
  refine lv_istore (lv' := [(5, .int (0 : Int32)), (4, .int x2), (0, .ref (h 100)), (1, .int x1), (2, .int x2), (3, .int x3)]) G.1 G.2.1 dX3_earliest_4 hl (by decide) rfl (fun ls hl => ?_)
  have L6 : ∀ (fu : Nat) (y1 : Int32) (y2 : Int32) (H : Heap) (locs : List Loc) (ls : Array Slot), lz2 (fX3_earliest_b6 n σ x1 x3) fu y1 y2 = some r → KW D (va_A (wC cy h σ) s.heap.size) s.heap (wC cy h σ) H locs → lv_has ls 7 [(5, .int y1), (4, .int y2), (0, .ref (h 100)), (1, .int x1), (2, .int x2), (3, .int x3)] → W p l e (headSpec (ws_ yX3_earliest cX3_earliest 7 (some .int)) { frames := 2, cells := 0, slots := 0, locals := 45 }).room s m (([.ref (h 100), .int x1, .int x2, .int x3] : List Value).toArray) below meth c H locs 0 0 (MQ below (va_Qi (fun (r' : Int32) (_ : Unit) => r' = r) (fun _ => KB D (va_A (wC cy h σ) s.heap.size) (wC cy h σ)) (va_A (wC cy h σ) s.heap.size)) (([.ref (h 100), .int x1, .int x2, .int x3] : List Value).toArray) s 0 0 (va_A (wC cy h σ) s.heap.size)) (F0 m 6 ls []) := by
    intro fu6
    induction fu6 with
    | zero => intro y1 y2 H locs ls hf; cases hf
    | succ fu6 ih6 =>
      intro y1 y2 H locs ls hf hW hl
      rw [lz2_s] at hf
      unfold fX3_earliest_b6 at hf
      refine lv_iload G.1 G.2.1 dX3_earliest_6 (lv_at hl 0 rfl) ?_
      refine lv_bipush (v := (30 : Int32)) G.1 G.2.1 dX3_earliest_8 (by decide) ?_
      refine lv_icmp_ge (tgt := 54) G.1 G.2.1 dX3_earliest_10 (by decide) (fun c10 => ?_) (fun c10 => ?_)
      · replace hf := it c10 hf
        refine lv_iload G.1 G.2.1 dX3_earliest_54 (lv_at hl 1 rfl) ?_
        cases hf
        exact k_iret G hr hlk hK hW dX3_earliest_56
      · replace hf := ie c10 hf
        refine lv_aload_n G.1 G.2.1 dX3_earliest_13 rfl (lv_at hl 2 rfl) ?_
        refine lv_iload G.1 G.2.1 dX3_earliest_14 (lv_at hl 1 rfl) ?_
        refine lv_iload G.1 G.2.1 dX3_earliest_16 (lv_at hl 1 rfl) ?_
        refine lv_iload_n G.1 G.2.1 dX3_earliest_18 rfl (lv_at hl 5 rfl) ?_
        refine lv_iadd G.1 G.2.1 dX3_earliest_19 ?_
        refine lv_iconst (v := (1 : Int32)) G.1 G.2.1 dX3_earliest_20 (by decide) ?_
        refine lv_isub G.1 G.2.1 dX3_earliest_21 ?_
        obtain ⟨v4, ev4, hf⟩ := ob hf
        refine kc_i (wr := []) (w := wC cy h σ) (w' := wC cy h σ) (n := 2) (As := [.int y2, .int ((y2 + x3) - (1 : Int32))]) (C := RX3) G hK hA hW (mX3_takenIn l D cy h _ n σ y2 ((y2 + x3) - (1 : Int32)) ev4) (gV q_6_10 q_6_11 q_6_12 q_2_2 q_6_13) ⟨rfl, rfl⟩ (by decide +kernel) ⟨Nat.le_of_ble_eq_true rfl, Nat.le_of_ble_eq_true rfl⟩ (va_recv hK.1 hW.1 (ci := 5) (q0 := 4) rfl rfl) rfl hl.1 rfl (Nat.le_of_ble_eq_true rfl) dX3_earliest_22 ⟨Nat.le_of_ble_eq_true rfl, Nat.le_of_ble_eq_true rfl⟩ (fun H locs hW => ?_)
        refine lv_istore (lv' := [(6, .int v4), (5, .int y1), (4, .int y2), (0, .ref (h 100)), (1, .int x1), (2, .int x2), (3, .int x3)]) G.1 G.2.1 dX3_earliest_25 hl (by decide) rfl (fun ls hl => ?_)
        refine lv_iload G.1 G.2.1 dX3_earliest_27 (lv_at hl 0 rfl) ?_
        refine lv_iload_n G.1 G.2.1 dX3_earliest_29 rfl (lv_at hl 4 rfl) ?_
        obtain ⟨v5, ev5, hf⟩ := ob hf
        refine kc_sN (n := 2) (As := [.int v4, .int x1]) G hW (mX4_lowestClear l n v4 x1 ev5) (hK.2.2.2.2.2.1) q_6_14 q_1_2 q_6_15 ⟨rfl, rfl⟩ (by decide +kernel) ⟨Nat.le_of_ble_eq_true rfl, Nat.le_of_ble_eq_true rfl⟩ rfl hl.1 rfl (Nat.le_of_ble_eq_true rfl) dX3_earliest_30 ⟨Nat.le_of_ble_eq_true rfl, Nat.le_of_ble_eq_true rfl⟩ (fun H locs hW => ?_)
        refine lv_iconst (v := (-1 : Int32)) G.1 G.2.1 dX3_earliest_33 (by decide) ?_
        refine lv_icmp_eq (tgt := 40) G.1 G.2.1 dX3_earliest_34 (by decide) (fun c34 => ?_) (fun c34 => ?_)
        · replace hf := it c34 hf
          refine lv_aload_n G.1 G.2.1 dX3_earliest_40 rfl (lv_at hl 3 rfl) ?_
          refine lv_iload G.1 G.2.1 dX3_earliest_41 (lv_at hl 2 rfl) ?_
          obtain ⟨v6, ev6, hf⟩ := ob hf
          refine kc_i (wr := []) (w := wC cy h σ) (w' := wC cy h σ) (n := 1) (As := [.int y2]) (C := RX3) G hK hA hW (mX3_nextEnd l D cy h _ n σ y2 ev6) (gV q_6_19 q_6_20 q_6_21 q_2_2 q_6_22) ⟨rfl, rfl⟩ (by decide +kernel) ⟨Nat.le_of_ble_eq_true rfl, Nat.le_of_ble_eq_true rfl⟩ (va_recv hK.1 hW.1 (ci := 5) (q0 := 4) rfl rfl) rfl hl.1 rfl (Nat.le_of_ble_eq_true rfl) dX3_earliest_43 ⟨Nat.le_of_ble_eq_true rfl, Nat.le_of_ble_eq_true rfl⟩ (fun H locs hW => ?_)
          refine lv_istore (lv' := [(4, .int v6), (6, .int v4), (5, .int y1), (0, .ref (h 100)), (1, .int x1), (2, .int x2), (3, .int x3)]) G.1 G.2.1 dX3_earliest_46 hl (by decide) rfl (fun ls hl => ?_)
          refine lv_iinc (v := (y1 + (1 : Int32))) (lv' := [(5, .int (y1 + (1 : Int32))), (4, .int v6), (6, .int v4), (0, .ref (h 100)), (1, .int x1), (2, .int x2), (3, .int x3)]) G.1 G.2.1 dX3_earliest_48 hl (k := 2) rfl (congrArg (y1 + ·) (by decide)) (by decide) rfl (fun ls hl => ?_)
          refine lv_goto (tgt := 6) G.1 G.2.1 dX3_earliest_51 (by decide) ?_
          exact ih6 _ _ _ _ _ hf hW (lv_sub hl [0, 1, 3, 4, 5, 6] rfl)
        · replace hf := ie c34 hf
          refine lv_iload G.1 G.2.1 dX3_earliest_37 (lv_at hl 2 rfl) ?_
          cases hf
          exact k_iret G hr hlk hK hW dX3_earliest_39
  exact L6 _ _ _ _ _ _ hf hW (lv_sub hl [0, 1, 2, 3, 4, 5] rfl)

set_option maxHeartbeats 4000000 in
set_option maxRecDepth 100000 in
theorem mX3_slotAt (l : Launch) (D : va_G) (cy : ClassId) (h : Nat → Nat) (sz n : Nat) (σ : St) (x1 : Int32) (x2 : Int32) {r : Int32} (hf : fX3_slotAt n σ x1 x2 = some r) : Mi l yX3_slotAt (ws_ yX3_slotAt cX3_slotAt 5 (some .int)) { frames := 0, cells := 0, slots := 0, locals := 0 } D cy (wC cy h σ) (wC cy h σ) sz [.ref (h 100), .int x1, .int x2] r := by
  refine Met.ofW (cc := cX3_slotAt) (maxL := 5) (ret := (some .int)) (by decide) rfl ?_
  intro p e s m args below meth c s₁ B hml hv
  obtain ⟨rfl, hsz, hP, hK, hD0⟩ := hv
  subst hsz
  have hts := atoms_spec (ws := ws_ yX3_slotAt cX3_slotAt 5 (some .int)) B.pre
  have G : CallFix p m c cX3_slotAt 5 s _ wA RX3 := ⟨B.exec, B.bytes, hml, findClass_of_methodNamed B.named, fun w h => hts w (List.mem_cons_of_mem _ h)⟩
  have hr := B.returns
  have hlk := B.notSynchronized
  have hW : KW D (va_A (wC cy h σ) s.heap.size) s.heap (wC cy h σ) s.heap [] := ⟨hP, hD0.self, va_S.rf⟩
  have hA : ∀ q, s.heap.size ≤ q → va_A (wC cy h σ) s.heap.size q := fun q h => Or.inr h
  have hl := lv_entry ([.ref (h 100), .int x1, .int x2]) (n := 5) (Nat.le_of_ble_eq_true rfl)
  rw [lg_entry_eq]
  generalize (lg_sl ([.ref (h 100), .int x1, .int x2]) ++ List.replicate (5 - (lg_sl ([.ref (h 100), .int x1, .int x2])).length) Slot.unset).toArray = ls at hl ⊢
  have hl : lv_has ls 5 [(0, .ref (h 100)), (1, .int x1), (2, .int x2)] := hl
  unfold fX3_slotAt at hf
  refine lv_iconst (v := (0 : Int32)) G.1 G.2.1 dX3_slotAt_0 (by decide) ?_
  refine lv_istore_n (lv' := [(3, .int (0 : Int32)), (0, .ref (h 100)), (1, .int x1), (2, .int x2)]) G.1 G.2.1 dX3_slotAt_1 rfl hl (by decide) rfl (fun ls hl => ?_)
  have L2 : ∀ (fu : Nat) (y1 : Int32) (H : Heap) (locs : List Loc) (ls : Array Slot), lz1 (fX3_slotAt_b2 σ x1 x2) fu y1 = some r → KW D (va_A (wC cy h σ) s.heap.size) s.heap (wC cy h σ) H locs → lv_has ls 5 [(3, .int y1), (0, .ref (h 100)), (1, .int x1), (2, .int x2)] → W p l e (headSpec (ws_ yX3_slotAt cX3_slotAt 5 (some .int)) { frames := 0, cells := 0, slots := 0, locals := 0 }).room s m (([.ref (h 100), .int x1, .int x2] : List Value).toArray) below meth c H locs 0 0 (MQ below (va_Qi (fun (r' : Int32) (_ : Unit) => r' = r) (fun _ => KB D (va_A (wC cy h σ) s.heap.size) (wC cy h σ)) (va_A (wC cy h σ) s.heap.size)) (([.ref (h 100), .int x1, .int x2] : List Value).toArray) s 0 0 (va_A (wC cy h σ) s.heap.size)) (F0 m 2 ls []) := by
    intro fu2
    induction fu2 with
    | zero => intro y1 H locs ls hf; cases hf
    | succ fu2 ih2 =>
      intro y1 H locs ls hf hW hl
      rw [lz1_s] at hf
      unfold fX3_slotAt_b2 at hf
      refine lv_iload_n G.1 G.2.1 dX3_slotAt_2 rfl (lv_at hl 0 rfl) ?_
      refine lv_bipush (v := (30 : Int32)) G.1 G.2.1 dX3_slotAt_3 (by decide) ?_
      refine lv_icmp_ge (tgt := 61) G.1 G.2.1 dX3_slotAt_5 (by decide) (fun c5 => ?_) (fun c5 => ?_)
      · replace hf := it c5 hf
        refine lv_iconst (v := (-1 : Int32)) G.1 G.2.1 dX3_slotAt_61 (by decide) ?_
        cases hf
        exact k_iret G hr hlk hK hW dX3_slotAt_62
      · replace hf := ie c5 hf
        refine lv_aload_n G.1 G.2.1 dX3_slotAt_8 rfl (lv_at hl 1 rfl) ?_
        refine k_get G inlX3 hK hW 4 rfl rfl 2 (by decide) q_3_0 rfl dX3_slotAt_9 ?_
        refine lv_iload_n G.1 G.2.1 dX3_slotAt_12 rfl (lv_at hl 0 rfl) ?_
        obtain ⟨v3, ev3, hf⟩ := ob hf
        refine k_ald G hK hW 7 rfl ev3 dX3_slotAt_13 ?_
        refine lv_iload_n G.1 G.2.1 dX3_slotAt_14 rfl (lv_at hl 3 rfl) ?_
        refine lv_icmp_gt (tgt := 32) G.1 G.2.1 dX3_slotAt_15 (by decide) (fun c15 => ?_) (fun c15 => ?_)
        · replace hf := it c15 hf
          refine lv_iconst (v := (0 : Int32)) G.1 G.2.1 dX3_slotAt_32 (by decide) ?_
          refine lv_istore (lv' := [(4, .int (0 : Int32)), (3, .int y1), (0, .ref (h 100)), (1, .int x1), (2, .int x2)]) G.1 G.2.1 dX3_slotAt_33 hl (by decide) rfl (fun ls hl => ?_)
          refine lv_iload G.1 G.2.1 dX3_slotAt_35 (lv_at hl 0 rfl) ?_
          refine lv_if_eq (tgt := 55) G.1 G.2.1 dX3_slotAt_37 (by decide) (fun c37 => ?_) (fun c37 => ?_)
          · replace hf := it c37 hf
            refine lv_iinc (v := (y1 + (1 : Int32))) (lv' := [(3, .int (y1 + (1 : Int32))), (4, .int (0 : Int32)), (0, .ref (h 100)), (1, .int x1), (2, .int x2)]) G.1 G.2.1 dX3_slotAt_55 hl (k := 1) rfl (congrArg (y1 + ·) (by decide)) (by decide) rfl (fun ls hl => ?_)
            refine lv_goto (tgt := 2) G.1 G.2.1 dX3_slotAt_58 (by decide) ?_
            exact ih2 _ _ _ _ hf hW (lv_sub hl [0, 2, 3, 4] rfl)
          · replace hf := ie c37 hf
            refine lv_aload_n G.1 G.2.1 dX3_slotAt_40 rfl (lv_at hl 2 rfl) ?_
            refine k_get G inlX3 hK hW 4 rfl rfl 0 (by decide) q_2_22 rfl dX3_slotAt_41 ?_
            refine lv_iload_n G.1 G.2.1 dX3_slotAt_44 rfl (lv_at hl 1 rfl) ?_
            obtain ⟨v4, ev4, hf⟩ := ob hf
            refine k_ald G hK hW 5 rfl ev4 dX3_slotAt_45 ?_
            refine lv_iload_n G.1 G.2.1 dX3_slotAt_46 rfl (lv_at hl 3 rfl) ?_
            refine lv_iushr (v := (ush v4 x1)) G.1 G.2.1 dX3_slotAt_47 rfl ?_
            refine lv_iconst (v := (1 : Int32)) G.1 G.2.1 dX3_slotAt_48 (by decide) ?_
            refine lv_iand G.1 G.2.1 dX3_slotAt_49 ?_
            refine lv_if_eq (tgt := 55) G.1 G.2.1 dX3_slotAt_50 (by decide) (fun c50 => ?_) (fun c50 => ?_)
            · replace hf := it c50 hf
              refine lv_iinc (v := (y1 + (1 : Int32))) (lv' := [(3, .int (y1 + (1 : Int32))), (4, .int (0 : Int32)), (0, .ref (h 100)), (1, .int x1), (2, .int x2)]) G.1 G.2.1 dX3_slotAt_55 hl (k := 1) rfl (congrArg (y1 + ·) (by decide)) (by decide) rfl (fun ls hl => ?_)
              refine lv_goto (tgt := 2) G.1 G.2.1 dX3_slotAt_58 (by decide) ?_
              exact ih2 _ _ _ _ hf hW (lv_sub hl [0, 2, 3, 4] rfl)
            · replace hf := ie c50 hf
              refine lv_iload_n G.1 G.2.1 dX3_slotAt_53 rfl (lv_at hl 1 rfl) ?_
              cases hf
              exact k_iret G hr hlk hK hW dX3_slotAt_54
        · replace hf := ie c15 hf
          refine lv_iload_n G.1 G.2.1 dX3_slotAt_18 rfl (lv_at hl 3 rfl) ?_
          refine lv_aload_n G.1 G.2.1 dX3_slotAt_19 rfl (lv_at hl 1 rfl) ?_
          refine k_get G inlX3 hK hW 4 rfl rfl 3 (by decide) q_3_1 rfl dX3_slotAt_20 ?_
          refine lv_iload_n G.1 G.2.1 dX3_slotAt_23 rfl (lv_at hl 0 rfl) ?_
          obtain ⟨v5, ev5, hf⟩ := ob hf
          refine k_ald G hK hW 8 rfl ev5 dX3_slotAt_24 ?_
          refine lv_icmp_ge (tgt := 32) G.1 G.2.1 dX3_slotAt_25 (by decide) (fun c25 => ?_) (fun c25 => ?_)
          · replace hf := it c25 hf
            refine lv_iconst (v := (0 : Int32)) G.1 G.2.1 dX3_slotAt_32 (by decide) ?_
            refine lv_istore (lv' := [(4, .int (0 : Int32)), (3, .int y1), (0, .ref (h 100)), (1, .int x1), (2, .int x2)]) G.1 G.2.1 dX3_slotAt_33 hl (by decide) rfl (fun ls hl => ?_)
            refine lv_iload G.1 G.2.1 dX3_slotAt_35 (lv_at hl 0 rfl) ?_
            refine lv_if_eq (tgt := 55) G.1 G.2.1 dX3_slotAt_37 (by decide) (fun c37 => ?_) (fun c37 => ?_)
            · replace hf := it c37 hf
              refine lv_iinc (v := (y1 + (1 : Int32))) (lv' := [(3, .int (y1 + (1 : Int32))), (4, .int (0 : Int32)), (0, .ref (h 100)), (1, .int x1), (2, .int x2)]) G.1 G.2.1 dX3_slotAt_55 hl (k := 1) rfl (congrArg (y1 + ·) (by decide)) (by decide) rfl (fun ls hl => ?_)
              refine lv_goto (tgt := 2) G.1 G.2.1 dX3_slotAt_58 (by decide) ?_
              exact ih2 _ _ _ _ hf hW (lv_sub hl [0, 2, 3, 4] rfl)
            · replace hf := ie c37 hf
              refine lv_aload_n G.1 G.2.1 dX3_slotAt_40 rfl (lv_at hl 2 rfl) ?_
              refine k_get G inlX3 hK hW 4 rfl rfl 0 (by decide) q_2_22 rfl dX3_slotAt_41 ?_
              refine lv_iload_n G.1 G.2.1 dX3_slotAt_44 rfl (lv_at hl 1 rfl) ?_
              obtain ⟨v6, ev6, hf⟩ := ob hf
              refine k_ald G hK hW 5 rfl ev6 dX3_slotAt_45 ?_
              refine lv_iload_n G.1 G.2.1 dX3_slotAt_46 rfl (lv_at hl 3 rfl) ?_
              refine lv_iushr (v := (ush v6 x1)) G.1 G.2.1 dX3_slotAt_47 rfl ?_
              refine lv_iconst (v := (1 : Int32)) G.1 G.2.1 dX3_slotAt_48 (by decide) ?_
              refine lv_iand G.1 G.2.1 dX3_slotAt_49 ?_
              refine lv_if_eq (tgt := 55) G.1 G.2.1 dX3_slotAt_50 (by decide) (fun c50 => ?_) (fun c50 => ?_)
              · replace hf := it c50 hf
                refine lv_iinc (v := (y1 + (1 : Int32))) (lv' := [(3, .int (y1 + (1 : Int32))), (4, .int (0 : Int32)), (0, .ref (h 100)), (1, .int x1), (2, .int x2)]) G.1 G.2.1 dX3_slotAt_55 hl (k := 1) rfl (congrArg (y1 + ·) (by decide)) (by decide) rfl (fun ls hl => ?_)
                refine lv_goto (tgt := 2) G.1 G.2.1 dX3_slotAt_58 (by decide) ?_
                exact ih2 _ _ _ _ hf hW (lv_sub hl [0, 2, 3, 4] rfl)
              · replace hf := ie c50 hf
                refine lv_iload_n G.1 G.2.1 dX3_slotAt_53 rfl (lv_at hl 1 rfl) ?_
                cases hf
                exact k_iret G hr hlk hK hW dX3_slotAt_54
          · replace hf := ie c25 hf
            refine lv_iconst (v := (1 : Int32)) G.1 G.2.1 dX3_slotAt_28 (by decide) ?_
            refine lv_goto (tgt := 33) G.1 G.2.1 dX3_slotAt_29 (by decide) ?_
            refine lv_istore (lv' := [(4, .int (1 : Int32)), (3, .int y1), (0, .ref (h 100)), (1, .int x1), (2, .int x2)]) G.1 G.2.1 dX3_slotAt_33 hl (by decide) rfl (fun ls hl => ?_)
            refine lv_iload G.1 G.2.1 dX3_slotAt_35 (lv_at hl 0 rfl) ?_
            refine lv_if_eq (tgt := 55) G.1 G.2.1 dX3_slotAt_37 (by decide) (fun c37 => ?_) (fun c37 => ?_)
            · replace hf := it c37 hf
              refine lv_iinc (v := (y1 + (1 : Int32))) (lv' := [(3, .int (y1 + (1 : Int32))), (4, .int (1 : Int32)), (0, .ref (h 100)), (1, .int x1), (2, .int x2)]) G.1 G.2.1 dX3_slotAt_55 hl (k := 1) rfl (congrArg (y1 + ·) (by decide)) (by decide) rfl (fun ls hl => ?_)
              refine lv_goto (tgt := 2) G.1 G.2.1 dX3_slotAt_58 (by decide) ?_
              exact ih2 _ _ _ _ hf hW (lv_sub hl [0, 2, 3, 4] rfl)
            · replace hf := ie c37 hf
              refine lv_aload_n G.1 G.2.1 dX3_slotAt_40 rfl (lv_at hl 2 rfl) ?_
              refine k_get G inlX3 hK hW 4 rfl rfl 0 (by decide) q_2_22 rfl dX3_slotAt_41 ?_
              refine lv_iload_n G.1 G.2.1 dX3_slotAt_44 rfl (lv_at hl 1 rfl) ?_
              obtain ⟨v7, ev7, hf⟩ := ob hf
              refine k_ald G hK hW 5 rfl ev7 dX3_slotAt_45 ?_
              refine lv_iload_n G.1 G.2.1 dX3_slotAt_46 rfl (lv_at hl 3 rfl) ?_
              refine lv_iushr (v := (ush v7 x1)) G.1 G.2.1 dX3_slotAt_47 rfl ?_
              refine lv_iconst (v := (1 : Int32)) G.1 G.2.1 dX3_slotAt_48 (by decide) ?_
              refine lv_iand G.1 G.2.1 dX3_slotAt_49 ?_
              refine lv_if_eq (tgt := 55) G.1 G.2.1 dX3_slotAt_50 (by decide) (fun c50 => ?_) (fun c50 => ?_)
              · replace hf := it c50 hf
                refine lv_iinc (v := (y1 + (1 : Int32))) (lv' := [(3, .int (y1 + (1 : Int32))), (4, .int (1 : Int32)), (0, .ref (h 100)), (1, .int x1), (2, .int x2)]) G.1 G.2.1 dX3_slotAt_55 hl (k := 1) rfl (congrArg (y1 + ·) (by decide)) (by decide) rfl (fun ls hl => ?_)
                refine lv_goto (tgt := 2) G.1 G.2.1 dX3_slotAt_58 (by decide) ?_
                exact ih2 _ _ _ _ hf hW (lv_sub hl [0, 2, 3, 4] rfl)
              · replace hf := ie c50 hf
                refine lv_iload_n G.1 G.2.1 dX3_slotAt_53 rfl (lv_at hl 1 rfl) ?_
                cases hf
                exact k_iret G hr hlk hK hW dX3_slotAt_54
  exact L2 _ _ _ _ _ hf hW (lv_sub hl [0, 1, 2, 3] rfl)

set_option maxHeartbeats 4000000 in
set_option maxRecDepth 100000 in
theorem mX3_endOfJobs (l : Launch) (D : va_G) (cy : ClassId) (h : Nat → Nat) (sz n : Nat) (σ : St) {r : Int32} (hf : fX3_endOfJobs n σ = some r) : Mi l yX3_endOfJobs (ws_ yX3_endOfJobs cX3_endOfJobs 3 (some .int)) { frames := 1, cells := 0, slots := 0, locals := 30 } D cy (wC cy h σ) (wC cy h σ) sz [.ref (h 100)] r := by
  refine Met.ofW (cc := cX3_endOfJobs) (maxL := 3) (ret := (some .int)) (by decide) rfl ?_
  intro p e s m args below meth c s₁ B hml hv
  obtain ⟨rfl, hsz, hP, hK, hD0⟩ := hv
  subst hsz
  have hts := atoms_spec (ws := ws_ yX3_endOfJobs cX3_endOfJobs 3 (some .int)) B.pre
  have G : CallFix p m c cX3_endOfJobs 3 s _ wA RX3 := ⟨B.exec, B.bytes, hml, findClass_of_methodNamed B.named, fun w h => hts w (List.mem_cons_of_mem _ h)⟩
  have hr := B.returns
  have hlk := B.notSynchronized
  have hW : KW D (va_A (wC cy h σ) s.heap.size) s.heap (wC cy h σ) s.heap [] := ⟨hP, hD0.self, va_S.rf⟩
  have hA : ∀ q, s.heap.size ≤ q → va_A (wC cy h σ) s.heap.size q := fun q h => Or.inr h
  have hl := lv_entry ([.ref (h 100)]) (n := 3) (Nat.le_of_ble_eq_true rfl)
  rw [lg_entry_eq]
  generalize (lg_sl ([.ref (h 100)]) ++ List.replicate (3 - (lg_sl ([.ref (h 100)])).length) Slot.unset).toArray = ls at hl ⊢
  have hl : lv_has ls 3 [(0, .ref (h 100))] := hl
  unfold fX3_endOfJobs at hf
  refine lv_iconst (v := (0 : Int32)) G.1 G.2.1 dX3_endOfJobs_0 (by decide) ?_
  refine lv_istore_n (lv' := [(1, .int (0 : Int32)), (0, .ref (h 100))]) G.1 G.2.1 dX3_endOfJobs_1 rfl hl (by decide) rfl (fun ls hl => ?_)
  refine lv_iconst (v := (0 : Int32)) G.1 G.2.1 dX3_endOfJobs_2 (by decide) ?_
  refine lv_istore_n (lv' := [(2, .int (0 : Int32)), (1, .int (0 : Int32)), (0, .ref (h 100))]) G.1 G.2.1 dX3_endOfJobs_3 rfl hl (by decide) rfl (fun ls hl => ?_)
  have L4 : ∀ (fu : Nat) (y1 : Int32) (y2 : Int32) (H : Heap) (locs : List Loc) (ls : Array Slot), lz2 (fX3_endOfJobs_b4 σ) fu y1 y2 = some r → KW D (va_A (wC cy h σ) s.heap.size) s.heap (wC cy h σ) H locs → lv_has ls 3 [(2, .int y1), (1, .int y2), (0, .ref (h 100))] → W p l e (headSpec (ws_ yX3_endOfJobs cX3_endOfJobs 3 (some .int)) { frames := 1, cells := 0, slots := 0, locals := 30 }).room s m (([.ref (h 100)] : List Value).toArray) below meth c H locs 0 0 (MQ below (va_Qi (fun (r' : Int32) (_ : Unit) => r' = r) (fun _ => KB D (va_A (wC cy h σ) s.heap.size) (wC cy h σ)) (va_A (wC cy h σ) s.heap.size)) (([.ref (h 100)] : List Value).toArray) s 0 0 (va_A (wC cy h σ) s.heap.size)) (F0 m 4 ls []) := by
    intro fu4
    induction fu4 with
    | zero => intro y1 y2 H locs ls hf; cases hf
    | succ fu4 ih4 =>
      intro y1 y2 H locs ls hf hW hl
      rw [lz2_s] at hf
      unfold fX3_endOfJobs_b4 at hf
      refine lv_iload_n G.1 G.2.1 dX3_endOfJobs_4 rfl (lv_at hl 0 rfl) ?_
      refine lv_bipush (v := (24 : Int32)) G.1 G.2.1 dX3_endOfJobs_5 (by decide) ?_
      refine lv_icmp_ge (tgt := 36) G.1 G.2.1 dX3_endOfJobs_7 (by decide) (fun c7 => ?_) (fun c7 => ?_)
      · replace hf := it c7 hf
        refine lv_iload_n G.1 G.2.1 dX3_endOfJobs_36 rfl (lv_at hl 1 rfl) ?_
        cases hf
        exact k_iret G hr hlk hK hW dX3_endOfJobs_37
      · replace hf := ie c7 hf
        refine lv_aload_n G.1 G.2.1 dX3_endOfJobs_10 rfl (lv_at hl 2 rfl) ?_
        refine k_get G inlX3 hK hW 4 rfl rfl 0 (by decide) q_2_22 rfl dX3_endOfJobs_11 ?_
        refine lv_iload_n G.1 G.2.1 dX3_endOfJobs_14 rfl (lv_at hl 0 rfl) ?_
        obtain ⟨v4, ev4, hf⟩ := ob hf
        refine k_ald G hK hW 5 rfl ev4 dX3_endOfJobs_15 ?_
        refine lv_if_eq (tgt := 30) G.1 G.2.1 dX3_endOfJobs_16 (by decide) (fun c16 => ?_) (fun c16 => ?_)
        · replace hf := it c16 hf
          refine lv_iinc (v := (y1 + (1 : Int32))) (lv' := [(2, .int (y1 + (1 : Int32))), (1, .int y2), (0, .ref (h 100))]) G.1 G.2.1 dX3_endOfJobs_30 hl (k := 0) rfl (congrArg (y1 + ·) (by decide)) (by decide) rfl (fun ls hl => ?_)
          refine lv_goto (tgt := 4) G.1 G.2.1 dX3_endOfJobs_33 (by decide) ?_
          exact ih4 _ _ _ _ _ hf hW (lv_sub hl [0, 1, 2] rfl)
        · replace hf := ie c16 hf
          refine lv_iload_n G.1 G.2.1 dX3_endOfJobs_19 rfl (lv_at hl 1 rfl) ?_
          refine lv_aload_n G.1 G.2.1 dX3_endOfJobs_20 rfl (lv_at hl 2 rfl) ?_
          refine k_get G inlX3 hK hW 4 rfl rfl 3 (by decide) q_3_1 rfl dX3_endOfJobs_21 ?_
          refine lv_iload_n G.1 G.2.1 dX3_endOfJobs_24 rfl (lv_at hl 0 rfl) ?_
          obtain ⟨v5, ev5, hf⟩ := ob hf
          refine k_ald G hK hW 8 rfl ev5 dX3_endOfJobs_25 ?_
          refine va_mmax G.1 G.2.1 (G.2.2.1.trans hl.1.symm) G.2.2.2.1 (G.2.2.2.2 _ q_26_10) (G.2.2.2.2 _ q_26_3) (G.2.2.2.2 _ q_26_4) (G.2.2.2.2 _ q_26_5) (Nat.le_of_ble_eq_true rfl) (Nat.le_of_ble_eq_true rfl) (Nat.le_of_ble_eq_true rfl) (Nat.le_of_ble_eq_true rfl) dX3_endOfJobs_26 ?_
          refine lv_istore_n (lv' := [(1, .int (imax y2 v5)), (2, .int y1), (0, .ref (h 100))]) G.1 G.2.1 dX3_endOfJobs_29 rfl hl (by decide) rfl (fun ls hl => ?_)
          refine lv_iinc (v := (y1 + (1 : Int32))) (lv' := [(2, .int (y1 + (1 : Int32))), (1, .int (imax y2 v5)), (0, .ref (h 100))]) G.1 G.2.1 dX3_endOfJobs_30 hl (k := 1) rfl (congrArg (y1 + ·) (by decide)) (by decide) rfl (fun ls hl => ?_)
          refine lv_goto (tgt := 4) G.1 G.2.1 dX3_endOfJobs_33 (by decide) ?_
          exact ih4 _ _ _ _ _ hf hW (lv_sub hl [0, 1, 2] rfl)
  exact L4 _ _ _ _ _ _ hf hW (lv_sub hl [0, 1, 2] rfl)

set_option maxHeartbeats 4000000 in
set_option maxRecDepth 100000 in
theorem mX3_copyFrom (l : Launch) (D : va_G) (cy : ClassId) (h : Nat → Nat) (h2 : Nat → Nat) (sz n : Nat) (σ2 : St) (σ : St) {σ' : St} (hf : fX3_copyFrom n σ2 σ = some σ') : Mv l yX3_copyFrom (ws_ yX3_copyFrom cX3_copyFrom 2 none) { frames := 1, cells := 0, slots := 0, locals := 60 } D cy (wCC cy h h2 σ2 σ) (wCC cy h h2 σ2 σ') sz [.ref (h 100), .ref (h2 100)] := by
  refine Met.ofW (cc := cX3_copyFrom) (maxL := 2) (ret := none) (by decide) rfl ?_
  intro p e s m args below meth c s₁ B hml hv
  obtain ⟨rfl, hsz, hP, hK, hD0⟩ := hv
  subst hsz
  have hts := atoms_spec (ws := ws_ yX3_copyFrom cX3_copyFrom 2 none) B.pre
  have G : CallFix p m c cX3_copyFrom 2 s _ wA RX3 := ⟨B.exec, B.bytes, hml, findClass_of_methodNamed B.named, fun w h => hts w (List.mem_cons_of_mem _ h)⟩
  have hr := B.returns
  have hlk := B.notSynchronized
  have hW : KW D (va_A (wCC cy h h2 σ2 σ) s.heap.size) s.heap (wCC cy h h2 σ2 σ) s.heap [] := ⟨hP, hD0.self, va_S.rf⟩
  have hA : ∀ q, s.heap.size ≤ q → va_A (wCC cy h h2 σ2 σ) s.heap.size q := fun q h => Or.inr h
  have hl := lv_entry ([.ref (h 100), .ref (h2 100)]) (n := 2) (Nat.le_of_ble_eq_true rfl)
  rw [lg_entry_eq]
  generalize (lg_sl ([.ref (h 100), .ref (h2 100)]) ++ List.replicate (2 - (lg_sl ([.ref (h 100), .ref (h2 100)])).length) Slot.unset).toArray = ls at hl ⊢
  have hl : lv_has ls 2 [(0, .ref (h 100)), (1, .ref (h2 100))] := hl
  unfold fX3_copyFrom at hf
  refine lv_aload_n G.1 G.2.1 dX3_copyFrom_0 rfl (lv_at hl 1 rfl) ?_
  refine k_get G inlX3 hK hW 30 rfl rfl 0 (by decide) q_2_22 rfl dX3_copyFrom_1 ?_
  refine lv_iconst (v := (0 : Int32)) G.1 G.2.1 dX3_copyFrom_4 (by decide) ?_
  refine lv_aload_n G.1 G.2.1 dX3_copyFrom_5 rfl (lv_at hl 0 rfl) ?_
  refine k_get G inlX3 hK hW 4 rfl rfl 0 (by decide) q_2_22 rfl dX3_copyFrom_6 ?_
  refine lv_iconst (v := (0 : Int32)) G.1 G.2.1 dX3_copyFrom_9 (by decide) ?_
  refine lv_bipush (v := (30 : Int32)) G.1 G.2.1 dX3_copyFrom_10 (by decide) ?_
  obtain ⟨s1, es1, hf⟩ := ob hf
  refine k_cpy (w := wCC cy h h2 σ2) G hK hW 31 5 0 30 30 rfl rfl (fun _ => rfl) q_34_12 q_34_5 q_34_6 q_34_7 es1 hl.1 (Nat.le_of_ble_eq_true rfl) (Nat.le_of_ble_eq_true rfl) dX3_copyFrom_12 (fun H locs hW => ?_)
  refine lv_aload_n G.1 G.2.1 dX3_copyFrom_15 rfl (lv_at hl 1 rfl) ?_
  refine k_get G inlX3 hK hW 30 rfl rfl 1 (by decide) q_2_23 rfl dX3_copyFrom_16 ?_
  refine lv_iconst (v := (0 : Int32)) G.1 G.2.1 dX3_copyFrom_19 (by decide) ?_
  refine lv_aload_n G.1 G.2.1 dX3_copyFrom_20 rfl (lv_at hl 0 rfl) ?_
  refine k_get G inlX3 hK hW 4 rfl rfl 1 (by decide) q_2_23 rfl dX3_copyFrom_21 ?_
  refine lv_iconst (v := (0 : Int32)) G.1 G.2.1 dX3_copyFrom_24 (by decide) ?_
  refine lv_bipush (v := (30 : Int32)) G.1 G.2.1 dX3_copyFrom_25 (by decide) ?_
  obtain ⟨s2, es2, hf⟩ := ob hf
  refine k_cpy (w := wCC cy h h2 σ2) G hK hW 32 6 1 30 30 rfl rfl (fun _ => rfl) q_34_12 q_34_5 q_34_6 q_34_7 es2 hl.1 (Nat.le_of_ble_eq_true rfl) (Nat.le_of_ble_eq_true rfl) dX3_copyFrom_27 (fun H locs hW => ?_)
  refine lv_aload_n G.1 G.2.1 dX3_copyFrom_30 rfl (lv_at hl 1 rfl) ?_
  refine k_get G inlX3 hK hW 30 rfl rfl 2 (by decide) q_3_0 rfl dX3_copyFrom_31 ?_
  refine lv_iconst (v := (0 : Int32)) G.1 G.2.1 dX3_copyFrom_34 (by decide) ?_
  refine lv_aload_n G.1 G.2.1 dX3_copyFrom_35 rfl (lv_at hl 0 rfl) ?_
  refine k_get G inlX3 hK hW 4 rfl rfl 2 (by decide) q_3_0 rfl dX3_copyFrom_36 ?_
  refine lv_iconst (v := (0 : Int32)) G.1 G.2.1 dX3_copyFrom_39 (by decide) ?_
  refine lv_bipush (v := (30 : Int32)) G.1 G.2.1 dX3_copyFrom_40 (by decide) ?_
  obtain ⟨s3, es3, hf⟩ := ob hf
  refine k_cpy (w := wCC cy h h2 σ2) G hK hW 33 7 2 30 30 rfl rfl (fun _ => rfl) q_34_12 q_34_5 q_34_6 q_34_7 es3 hl.1 (Nat.le_of_ble_eq_true rfl) (Nat.le_of_ble_eq_true rfl) dX3_copyFrom_42 (fun H locs hW => ?_)
  refine lv_aload_n G.1 G.2.1 dX3_copyFrom_45 rfl (lv_at hl 1 rfl) ?_
  refine k_get G inlX3 hK hW 30 rfl rfl 3 (by decide) q_3_1 rfl dX3_copyFrom_46 ?_
  refine lv_iconst (v := (0 : Int32)) G.1 G.2.1 dX3_copyFrom_49 (by decide) ?_
  refine lv_aload_n G.1 G.2.1 dX3_copyFrom_50 rfl (lv_at hl 0 rfl) ?_
  refine k_get G inlX3 hK hW 4 rfl rfl 3 (by decide) q_3_1 rfl dX3_copyFrom_51 ?_
  refine lv_iconst (v := (0 : Int32)) G.1 G.2.1 dX3_copyFrom_54 (by decide) ?_
  refine lv_bipush (v := (30 : Int32)) G.1 G.2.1 dX3_copyFrom_55 (by decide) ?_
  obtain ⟨s4, es4, hf⟩ := ob hf
  refine k_cpy (w := wCC cy h h2 σ2) G hK hW 34 8 3 30 30 rfl rfl (fun _ => rfl) q_34_12 q_34_5 q_34_6 q_34_7 es4 hl.1 (Nat.le_of_ble_eq_true rfl) (Nat.le_of_ble_eq_true rfl) dX3_copyFrom_57 (fun H locs hW => ?_)
  cases hf
  exact k_vret G hr hlk hK hW dX3_copyFrom_60
