set_option maxHeartbeats 4000000 in
set_option maxRecDepth 100000 in
theorem mX5_thrown (l : Launch) (D : va_G) (cy : ClassId) (h : Nat → Nat) (sz n : Nat) (σ : St) {r : Int32} (hf : fX5_thrown n σ = some r) : Mi l yX5_thrown (ws_ yX5_thrown cX5_thrown 1 (some .int)) { frames := 0, cells := 0, slots := 0, locals := 0 } D cy (wM cy h σ) (wM cy h σ) sz [.ref (h 10)] r := by
  refine Met.ofW (cc := cX5_thrown) (maxL := 1) (ret := (some .int)) (by decide) rfl ?_
  intro p e s m args below meth c s₁ B hml hv
  obtain ⟨rfl, hsz, hP, hK, hD0⟩ := hv
  subst hsz
  have hts := atoms_spec (ws := ws_ yX5_thrown cX5_thrown 1 (some .int)) B.pre
  have G : CallFix p m c cX5_thrown 1 s _ wA RX5 := ⟨B.exec, B.bytes, hml, findClass_of_methodNamed B.named, fun w h => hts w (List.mem_cons_of_mem _ h)⟩
  have hr := B.returns
  have hlk := B.notSynchronized
  have hW : KW D (va_A (wM cy h σ) s.heap.size) s.heap (wM cy h σ) s.heap [] := ⟨hP, hD0.self, va_S.rf⟩
  have hA : ∀ q, s.heap.size ≤ q → va_A (wM cy h σ) s.heap.size q := fun q h => Or.inr h
  have hl := lv_entry ([.ref (h 10)]) (n := 1) (Nat.le_of_ble_eq_true rfl)
  rw [lg_entry_eq]
  generalize (lg_sl ([.ref (h 10)]) ++ List.replicate (1 - (lg_sl ([.ref (h 10)])).length) Slot.unset).toArray = ls at hl ⊢
  have hl : lv_has ls 1 [(0, .ref (h 10))] := hl
  unfold fX5_thrown at hf
  refine lv_aload_n G.1 G.2.1 dX5_thrown_0 rfl (lv_at hl 0 rfl) ?_
  refine k_get G inlX5 hK hW 0 rfl rfl 4 (by decide) q_8_2 rfl dX5_thrown_1 ?_
  cases hf
  exact k_iret G hr hlk hK hW dX5_thrown_4

set_option maxHeartbeats 4000000 in
set_option maxRecDepth 100000 in
theorem mX5_in (l : Launch) (n : Nat) (x1 : Int32) (x2 : Int32) (x3 : Int32) {r : Int32} (hf : fX5_in n x1 x2 x3 = some r) : Ms l yX5_in (ws_ yX5_in cX5_in 3 (some .boolean)) { frames := 0, cells := 0, slots := 0, locals := 0 } [.int x1, .int x2, .int x3] r := by
  refine Met.ofW (cc := cX5_in) (maxL := 3) (ret := (some .boolean)) (by decide) rfl ?_
  intro p e s m args below meth c s₁ B hml hv
  obtain ⟨rfl, -⟩ := hv
  have hts := atoms_spec (ws := ws_ yX5_in cX5_in 3 (some .boolean)) B.pre
  have G : CallFix p m c cX5_in 3 s _ wA RX5 := ⟨B.exec, B.bytes, hml, findClass_of_methodNamed B.named, fun w h => hts w (List.mem_cons_of_mem _ h)⟩
  have hr := B.returns
  have hlk := B.notSynchronized
  have hW : KW k_D0 (fun _ => False) s.heap [] s.heap [] := k_W0
  have hl := lv_entry ([.int x1, .int x2, .int x3]) (n := 3) (Nat.le_of_ble_eq_true rfl)
  rw [lg_entry_eq]
  generalize (lg_sl ([.int x1, .int x2, .int x3]) ++ List.replicate (3 - (lg_sl ([.int x1, .int x2, .int x3])).length) Slot.unset).toArray = ls at hl ⊢
  have hl : lv_has ls 3 [(0, .int x1), (1, .int x2), (2, .int x3)] := hl
  unfold fX5_in at hf
  refine lv_iload_n G.1 G.2.1 dX5_in_0 rfl (lv_at hl 0 rfl) ?_
  refine lv_iload_n G.1 G.2.1 dX5_in_1 rfl (lv_at hl 1 rfl) ?_
  refine lv_icmp_lt (tgt := 14) G.1 G.2.1 dX5_in_2 (by decide) (fun c2 => ?_) (fun c2 => ?_)
  · replace hf := it c2 hf
    refine lv_iconst (v := (0 : Int32)) G.1 G.2.1 dX5_in_14 (by decide) ?_
    cases hf
    exact k_szret G hr hlk hW.2.2 rfl dX5_in_15
  · replace hf := ie c2 hf
    refine lv_iload_n G.1 G.2.1 dX5_in_5 rfl (lv_at hl 0 rfl) ?_
    refine lv_iload_n G.1 G.2.1 dX5_in_6 rfl (lv_at hl 2 rfl) ?_
    refine lv_icmp_gt (tgt := 14) G.1 G.2.1 dX5_in_7 (by decide) (fun c7 => ?_) (fun c7 => ?_)
    · replace hf := it c7 hf
      refine lv_iconst (v := (0 : Int32)) G.1 G.2.1 dX5_in_14 (by decide) ?_
      cases hf
      exact k_szret G hr hlk hW.2.2 rfl dX5_in_15
    · replace hf := ie c7 hf
      refine lv_iconst (v := (1 : Int32)) G.1 G.2.1 dX5_in_10 (by decide) ?_
      refine lv_goto (tgt := 15) G.1 G.2.1 dX5_in_11 (by decide) ?_
      cases hf
      exact k_szret G hr hlk hW.2.2 rfl dX5_in_15

set_option maxHeartbeats 4000000 in
set_option maxRecDepth 100000 in
theorem mX5_raises (l : Launch) (D : va_G) (cy : ClassId) (h : Nat → Nat) (sz n : Nat) (σ : St) (x1 : Int32) {r : Int32} {σ' : St} (hf : fX5_raises n σ x1 = some (r, σ')) : Mi l yX5_raises (ws_ yX5_raises cX5_raises 2 (some .int)) { frames := 0, cells := 0, slots := 0, locals := 0 } D cy (wM cy h σ) (wM cy h σ') sz [.ref (h 10), .int x1] r := by
  refine Met.ofW (cc := cX5_raises) (maxL := 2) (ret := (some .int)) (by decide) rfl ?_
  intro p e s m args below meth c s₁ B hml hv
  obtain ⟨rfl, hsz, hP, hK, hD0⟩ := hv
  subst hsz
  have hts := atoms_spec (ws := ws_ yX5_raises cX5_raises 2 (some .int)) B.pre
  have G : CallFix p m c cX5_raises 2 s _ wA RX5 := ⟨B.exec, B.bytes, hml, findClass_of_methodNamed B.named, fun w h => hts w (List.mem_cons_of_mem _ h)⟩
  have hr := B.returns
  have hlk := B.notSynchronized
  have hW : KW D (va_A (wM cy h σ) s.heap.size) s.heap (wM cy h σ) s.heap [] := ⟨hP, hD0.self, va_S.rf⟩
  have hA : ∀ q, s.heap.size ≤ q → va_A (wM cy h σ) s.heap.size q := fun q h => Or.inr h
  have hl := lv_entry ([.ref (h 10), .int x1]) (n := 2) (Nat.le_of_ble_eq_true rfl)
  rw [lg_entry_eq]
  generalize (lg_sl ([.ref (h 10), .int x1]) ++ List.replicate (2 - (lg_sl ([.ref (h 10), .int x1])).length) Slot.unset).toArray = ls at hl ⊢
  have hl : lv_has ls 2 [(0, .ref (h 10)), (1, .int x1)] := hl
  unfold fX5_raises at hf
  refine lv_aload_n G.1 G.2.1 dX5_raises_0 rfl (lv_at hl 0 rfl) ?_
  refine lv_iload_n G.1 G.2.1 dX5_raises_1 rfl (lv_at hl 1 rfl) ?_
  obtain ⟨s1, es1, hf⟩ := ob hf
  refine k_put (w := wM cy h) G inlX5 tyX5 tyX5_ok nmX5 hK hW 0 6 rfl rfl 4 (by decide) q_8_2 rfl (by decide +kernel) (Nat.le_of_ble_eq_true rfl) rfl es1 dX5_raises_2 (fun H locs hW => ?_)
  refine lv_iconst (v := (0 : Int32)) G.1 G.2.1 dX5_raises_5 (by decide) ?_
  cases hf
  exact k_iret G hr hlk hK hW dX5_raises_6

set_option maxHeartbeats 4000000 in
set_option maxRecDepth 100000 in
theorem mX5_of (l : Launch) (D : va_G) (cy : ClassId) (h : Nat → Nat) (sz n : Nat) (σ : St) (x1 : Int32) (x2 : Int32) {r : Int32} (hf : fX5_of n σ x1 x2 = some r) : Mi l yX5_of (ws_ yX5_of cX5_of 3 (some .int)) { frames := 0, cells := 0, slots := 0, locals := 0 } D cy (wM cy h σ) (wM cy h σ) sz [.ref (h 10), .int x1, .int x2] r := by
  refine Met.ofW (cc := cX5_of) (maxL := 3) (ret := (some .int)) (by decide) rfl ?_
  intro p e s m args below meth c s₁ B hml hv
  obtain ⟨rfl, hsz, hP, hK, hD0⟩ := hv
  subst hsz
  have hts := atoms_spec (ws := ws_ yX5_of cX5_of 3 (some .int)) B.pre
  have G : CallFix p m c cX5_of 3 s _ wA RX5 := ⟨B.exec, B.bytes, hml, findClass_of_methodNamed B.named, fun w h => hts w (List.mem_cons_of_mem _ h)⟩
  have hr := B.returns
  have hlk := B.notSynchronized
  have hW : KW D (va_A (wM cy h σ) s.heap.size) s.heap (wM cy h σ) s.heap [] := ⟨hP, hD0.self, va_S.rf⟩
  have hA : ∀ q, s.heap.size ≤ q → va_A (wM cy h σ) s.heap.size q := fun q h => Or.inr h
  have hl := lv_entry ([.ref (h 10), .int x1, .int x2]) (n := 3) (Nat.le_of_ble_eq_true rfl)
  rw [lg_entry_eq]
  generalize (lg_sl ([.ref (h 10), .int x1, .int x2]) ++ List.replicate (3 - (lg_sl ([.ref (h 10), .int x1, .int x2])).length) Slot.unset).toArray = ls at hl ⊢
  have hl : lv_has ls 3 [(0, .ref (h 10)), (1, .int x1), (2, .int x2)] := hl
  unfold fX5_of at hf
  refine lv_aload_n G.1 G.2.1 dX5_of_0 rfl (lv_at hl 0 rfl) ?_
  refine k_get G inlX5 hK hW 0 rfl rfl 0 (by decide) q_4_6 rfl dX5_of_1 ?_
  refine lv_iconst (v := (5 : Int32)) G.1 G.2.1 dX5_of_4 (by decide) ?_
  refine lv_bipush (v := (14 : Int32)) G.1 G.2.1 dX5_of_5 (by decide) ?_
  refine lv_iload_n G.1 G.2.1 dX5_of_7 rfl (lv_at hl 1 rfl) ?_
  refine lv_imul G.1 G.2.1 dX5_of_8 ?_
  refine lv_iadd G.1 G.2.1 dX5_of_9 ?_
  refine lv_iload_n G.1 G.2.1 dX5_of_10 rfl (lv_at hl 2 rfl) ?_
  refine lv_iadd G.1 G.2.1 dX5_of_11 ?_
  obtain ⟨v1, ev1, hf⟩ := ob hf
  refine k_ald G hK hW 1 rfl ev1 dX5_of_12 ?_
  cases hf
  exact k_iret G hr hlk hK hW dX5_of_13

set_option maxHeartbeats 4000000 in
set_option maxRecDepth 100000 in
theorem mX5_put (l : Launch) (D : va_G) (cy : ClassId) (h : Nat → Nat) (sz n : Nat) (σ : St) (x1 : Int32) (x2 : Int32) (x3 : Int32) {σ' : St} (hf : fX5_put n σ x1 x2 x3 = some σ') : Mv l yX5_put (ws_ yX5_put cX5_put 4 none) { frames := 0, cells := 0, slots := 0, locals := 0 } D cy (wM cy h σ) (wM cy h σ') sz [.ref (h 10), .int x1, .int x2, .int x3] := by
  refine Met.ofW (cc := cX5_put) (maxL := 4) (ret := none) (by decide) rfl ?_
  intro p e s m args below meth c s₁ B hml hv
  obtain ⟨rfl, hsz, hP, hK, hD0⟩ := hv
  subst hsz
  have hts := atoms_spec (ws := ws_ yX5_put cX5_put 4 none) B.pre
  have G : CallFix p m c cX5_put 4 s _ wA RX5 := ⟨B.exec, B.bytes, hml, findClass_of_methodNamed B.named, fun w h => hts w (List.mem_cons_of_mem _ h)⟩
  have hr := B.returns
  have hlk := B.notSynchronized
  have hW : KW D (va_A (wM cy h σ) s.heap.size) s.heap (wM cy h σ) s.heap [] := ⟨hP, hD0.self, va_S.rf⟩
  have hA : ∀ q, s.heap.size ≤ q → va_A (wM cy h σ) s.heap.size q := fun q h => Or.inr h
  have hl := lv_entry ([.ref (h 10), .int x1, .int x2, .int x3]) (n := 4) (Nat.le_of_ble_eq_true rfl)
  rw [lg_entry_eq]
  generalize (lg_sl ([.ref (h 10), .int x1, .int x2, .int x3]) ++ List.replicate (4 - (lg_sl ([.ref (h 10), .int x1, .int x2, .int x3])).length) Slot.unset).toArray = ls at hl ⊢
  have hl : lv_has ls 4 [(0, .ref (h 10)), (1, .int x1), (2, .int x2), (3, .int x3)] := hl
  unfold fX5_put at hf
  refine lv_aload_n G.1 G.2.1 dX5_put_0 rfl (lv_at hl 0 rfl) ?_
  refine k_get G inlX5 hK hW 0 rfl rfl 0 (by decide) q_4_6 rfl dX5_put_1 ?_
  refine lv_iconst (v := (5 : Int32)) G.1 G.2.1 dX5_put_4 (by decide) ?_
  refine lv_bipush (v := (14 : Int32)) G.1 G.2.1 dX5_put_5 (by decide) ?_
  refine lv_iload_n G.1 G.2.1 dX5_put_7 rfl (lv_at hl 1 rfl) ?_
  refine lv_imul G.1 G.2.1 dX5_put_8 ?_
  refine lv_iadd G.1 G.2.1 dX5_put_9 ?_
  refine lv_iload_n G.1 G.2.1 dX5_put_10 rfl (lv_at hl 2 rfl) ?_
  refine lv_iadd G.1 G.2.1 dX5_put_11 ?_
  refine lv_iload_n G.1 G.2.1 dX5_put_12 rfl (lv_at hl 3 rfl) ?_
  obtain ⟨s1, es1, hf⟩ := ob hf
  refine k_ast (w := wM cy h) G hK hW 1 0 609 rfl (fun _ => rfl) es1 dX5_put_13 (fun H locs hW => ?_)
  cases hf
  exact k_vret G hr hlk hK hW dX5_put_14

set_option maxHeartbeats 4000000 in
set_option maxRecDepth 100000 in
theorem mX5_reserved (l : Launch) (D : va_G) (cy : ClassId) (h : Nat → Nat) (sz n : Nat) (σ : St) (x1 : Int32) (x2 : Int32) {r : Int32} (hf : fX5_reserved n σ x1 x2 = some r) : Mi l yX5_reserved (ws_ yX5_reserved cX5_reserved 3 (some .int)) { frames := 0, cells := 0, slots := 0, locals := 0 } D cy (wM cy h σ) (wM cy h σ) sz [.ref (h 10), .int x1, .int x2] r := by
  refine Met.ofW (cc := cX5_reserved) (maxL := 3) (ret := (some .int)) (by decide) rfl ?_
  intro p e s m args below meth c s₁ B hml hv
  obtain ⟨rfl, hsz, hP, hK, hD0⟩ := hv
  subst hsz
  have hts := atoms_spec (ws := ws_ yX5_reserved cX5_reserved 3 (some .int)) B.pre
  have G : CallFix p m c cX5_reserved 3 s _ wA RX5 := ⟨B.exec, B.bytes, hml, findClass_of_methodNamed B.named, fun w h => hts w (List.mem_cons_of_mem _ h)⟩
  have hr := B.returns
  have hlk := B.notSynchronized
  have hW : KW D (va_A (wM cy h σ) s.heap.size) s.heap (wM cy h σ) s.heap [] := ⟨hP, hD0.self, va_S.rf⟩
  have hA : ∀ q, s.heap.size ≤ q → va_A (wM cy h σ) s.heap.size q := fun q h => Or.inr h
  have hl := lv_entry ([.ref (h 10), .int x1, .int x2]) (n := 3) (Nat.le_of_ble_eq_true rfl)
  rw [lg_entry_eq]
  generalize (lg_sl ([.ref (h 10), .int x1, .int x2]) ++ List.replicate (3 - (lg_sl ([.ref (h 10), .int x1, .int x2])).length) Slot.unset).toArray = ls at hl ⊢
  have hl : lv_has ls 3 [(0, .ref (h 10)), (1, .int x1), (2, .int x2)] := hl
  unfold fX5_reserved at hf
  refine lv_aload_n G.1 G.2.1 dX5_reserved_0 rfl (lv_at hl 0 rfl) ?_
  refine k_get G inlX5 hK hW 0 rfl rfl 0 (by decide) q_4_6 rfl dX5_reserved_1 ?_
  refine lv_sipush (v := (341 : Int32)) G.1 G.2.1 dX5_reserved_4 (by decide) ?_
  refine lv_iconst (v := (4 : Int32)) G.1 G.2.1 dX5_reserved_7 (by decide) ?_
  refine lv_iload_n G.1 G.2.1 dX5_reserved_8 rfl (lv_at hl 1 rfl) ?_
  refine lv_imul G.1 G.2.1 dX5_reserved_9 ?_
  refine lv_iadd G.1 G.2.1 dX5_reserved_10 ?_
  refine lv_iload_n G.1 G.2.1 dX5_reserved_11 rfl (lv_at hl 2 rfl) ?_
  refine lv_iadd G.1 G.2.1 dX5_reserved_12 ?_
  obtain ⟨v1, ev1, hf⟩ := ob hf
  refine k_ald G hK hW 1 rfl ev1 dX5_reserved_13 ?_
  cases hf
  exact k_iret G hr hlk hK hW dX5_reserved_14

set_option maxHeartbeats 4000000 in
set_option maxRecDepth 100000 in
theorem mX5_isJob (l : Launch) (D : va_G) (cy : ClassId) (h : Nat → Nat) (sz n : Nat) (σ : St) (x1 : Int32) {r : Int32} (hf : fX5_isJob n σ x1 = some r) : Mi l yX5_isJob (ws_ yX5_isJob cX5_isJob 2 (some .boolean)) { frames := 1, cells := 0, slots := 0, locals := 22 } D cy (wM cy h σ) (wM cy h σ) sz [.ref (h 10), .int x1] r := by
  refine Met.ofW (cc := cX5_isJob) (maxL := 2) (ret := (some .boolean)) (by decide) rfl ?_
  intro p e s m args below meth c s₁ B hml hv
  obtain ⟨rfl, hsz, hP, hK, hD0⟩ := hv
  subst hsz
  have hts := atoms_spec (ws := ws_ yX5_isJob cX5_isJob 2 (some .boolean)) B.pre
  have G : CallFix p m c cX5_isJob 2 s _ wA RX5 := ⟨B.exec, B.bytes, hml, findClass_of_methodNamed B.named, fun w h => hts w (List.mem_cons_of_mem _ h)⟩
  have hr := B.returns
  have hlk := B.notSynchronized
  have hW : KW D (va_A (wM cy h σ) s.heap.size) s.heap (wM cy h σ) s.heap [] := ⟨hP, hD0.self, va_S.rf⟩
  have hA : ∀ q, s.heap.size ≤ q → va_A (wM cy h σ) s.heap.size q := fun q h => Or.inr h
  have hl := lv_entry ([.ref (h 10), .int x1]) (n := 2) (Nat.le_of_ble_eq_true rfl)
  rw [lg_entry_eq]
  generalize (lg_sl ([.ref (h 10), .int x1]) ++ List.replicate (2 - (lg_sl ([.ref (h 10), .int x1])).length) Slot.unset).toArray = ls at hl ⊢
  have hl : lv_has ls 2 [(0, .ref (h 10)), (1, .int x1)] := hl
  unfold fX5_isJob at hf
  refine lv_iload_n G.1 G.2.1 dX5_isJob_0 rfl (lv_at hl 1 rfl) ?_
  refine lv_iconst (v := (0 : Int32)) G.1 G.2.1 dX5_isJob_1 (by decide) ?_
  refine lv_aload_n G.1 G.2.1 dX5_isJob_2 rfl (lv_at hl 0 rfl) ?_
  refine k_get G inlX5 hK hW 0 rfl rfl 0 (by decide) q_4_6 rfl dX5_isJob_3 ?_
  refine lv_iconst (v := (1 : Int32)) G.1 G.2.1 dX5_isJob_6 (by decide) ?_
  obtain ⟨v1, ev1, hf⟩ := ob hf
  refine k_ald G hK hW 1 rfl ev1 dX5_isJob_7 ?_
  refine lv_iconst (v := (1 : Int32)) G.1 G.2.1 dX5_isJob_8 (by decide) ?_
  refine lv_isub G.1 G.2.1 dX5_isJob_9 ?_
  obtain ⟨v2, ev2, hf⟩ := ob hf
  refine kc_s (n := 3) (As := [.int x1, .int (0 : Int32), .int (v1 - (1 : Int32))]) G hW (mX5_in l n x1 (0 : Int32) (v1 - (1 : Int32)) ev2) (gS q_8_3 q_8_4 q_1_5 q_8_5) ⟨rfl, rfl⟩ (by decide +kernel) ⟨Nat.le_of_ble_eq_true rfl, Nat.le_of_ble_eq_true rfl⟩ rfl hl.1 rfl (Nat.le_of_ble_eq_true rfl) dX5_isJob_10 ⟨Nat.le_of_ble_eq_true rfl, Nat.le_of_ble_eq_true rfl⟩ (fun H locs hW => ?_)
  obtain ⟨v3, ev3, hf⟩ := ob hf
  obtain ⟨zv3, ev3⟩ := gz_s ev3
  rw [ev3] at hf
  cases hf
  exact k_zret G hr hlk hK hW (by rcases zv3 with h9 | h9 <;> rw [h9] <;> rfl) dX5_isJob_13

set_option maxHeartbeats 4000000 in
set_option maxRecDepth 100000 in
theorem mX5_isReservation (l : Launch) (D : va_G) (cy : ClassId) (h : Nat → Nat) (sz n : Nat) (σ : St) (x1 : Int32) {r : Int32} (hf : fX5_isReservation n σ x1 = some r) : Mi l yX5_isReservation (ws_ yX5_isReservation cX5_isReservation 2 (some .boolean)) { frames := 1, cells := 0, slots := 0, locals := 22 } D cy (wM cy h σ) (wM cy h σ) sz [.ref (h 10), .int x1] r := by
  refine Met.ofW (cc := cX5_isReservation) (maxL := 2) (ret := (some .boolean)) (by decide) rfl ?_
  intro p e s m args below meth c s₁ B hml hv
  obtain ⟨rfl, hsz, hP, hK, hD0⟩ := hv
  subst hsz
  have hts := atoms_spec (ws := ws_ yX5_isReservation cX5_isReservation 2 (some .boolean)) B.pre
  have G : CallFix p m c cX5_isReservation 2 s _ wA RX5 := ⟨B.exec, B.bytes, hml, findClass_of_methodNamed B.named, fun w h => hts w (List.mem_cons_of_mem _ h)⟩
  have hr := B.returns
  have hlk := B.notSynchronized
  have hW : KW D (va_A (wM cy h σ) s.heap.size) s.heap (wM cy h σ) s.heap [] := ⟨hP, hD0.self, va_S.rf⟩
  have hA : ∀ q, s.heap.size ≤ q → va_A (wM cy h σ) s.heap.size q := fun q h => Or.inr h
  have hl := lv_entry ([.ref (h 10), .int x1]) (n := 2) (Nat.le_of_ble_eq_true rfl)
  rw [lg_entry_eq]
  generalize (lg_sl ([.ref (h 10), .int x1]) ++ List.replicate (2 - (lg_sl ([.ref (h 10), .int x1])).length) Slot.unset).toArray = ls at hl ⊢
  have hl : lv_has ls 2 [(0, .ref (h 10)), (1, .int x1)] := hl
  unfold fX5_isReservation at hf
  refine lv_iload_n G.1 G.2.1 dX5_isReservation_0 rfl (lv_at hl 1 rfl) ?_
  refine lv_iconst (v := (0 : Int32)) G.1 G.2.1 dX5_isReservation_1 (by decide) ?_
  refine lv_aload_n G.1 G.2.1 dX5_isReservation_2 rfl (lv_at hl 0 rfl) ?_
  refine k_get G inlX5 hK hW 0 rfl rfl 0 (by decide) q_4_6 rfl dX5_isReservation_3 ?_
  refine lv_iconst (v := (2 : Int32)) G.1 G.2.1 dX5_isReservation_6 (by decide) ?_
  obtain ⟨v1, ev1, hf⟩ := ob hf
  refine k_ald G hK hW 1 rfl ev1 dX5_isReservation_7 ?_
  refine lv_iconst (v := (1 : Int32)) G.1 G.2.1 dX5_isReservation_8 (by decide) ?_
  refine lv_isub G.1 G.2.1 dX5_isReservation_9 ?_
  obtain ⟨v2, ev2, hf⟩ := ob hf
  refine kc_s (n := 3) (As := [.int x1, .int (0 : Int32), .int (v1 - (1 : Int32))]) G hW (mX5_in l n x1 (0 : Int32) (v1 - (1 : Int32)) ev2) (gS q_8_3 q_8_4 q_1_5 q_8_5) ⟨rfl, rfl⟩ (by decide +kernel) ⟨Nat.le_of_ble_eq_true rfl, Nat.le_of_ble_eq_true rfl⟩ rfl hl.1 rfl (Nat.le_of_ble_eq_true rfl) dX5_isReservation_10 ⟨Nat.le_of_ble_eq_true rfl, Nat.le_of_ble_eq_true rfl⟩ (fun H locs hW => ?_)
  obtain ⟨v3, ev3, hf⟩ := ob hf
  obtain ⟨zv3, ev3⟩ := gz_s ev3
  rw [ev3] at hf
  cases hf
  exact k_zret G hr hlk hK hW (by rcases zv3 with h9 | h9 <;> rw [h9] <;> rfl) dX5_isReservation_13

set_option maxHeartbeats 4000000 in
set_option maxRecDepth 100000 in
theorem mX5_isAllocated (l : Launch) (D : va_G) (cy : ClassId) (h : Nat → Nat) (sz n : Nat) (σ : St) (x1 : Int32) {r : Int32} (hf : fX5_isAllocated n σ x1 = some r) : Mi l yX5_isAllocated (ws_ yX5_isAllocated cX5_isAllocated 2 (some .boolean)) { frames := 1, cells := 0, slots := 0, locals := 22 } D cy (wM cy h σ) (wM cy h σ) sz [.ref (h 10), .int x1] r := by
  refine Met.ofW (cc := cX5_isAllocated) (maxL := 2) (ret := (some .boolean)) (by decide) rfl ?_
  intro p e s m args below meth c s₁ B hml hv
  obtain ⟨rfl, hsz, hP, hK, hD0⟩ := hv
  subst hsz
  have hts := atoms_spec (ws := ws_ yX5_isAllocated cX5_isAllocated 2 (some .boolean)) B.pre
  have G : CallFix p m c cX5_isAllocated 2 s _ wA RX5 := ⟨B.exec, B.bytes, hml, findClass_of_methodNamed B.named, fun w h => hts w (List.mem_cons_of_mem _ h)⟩
  have hr := B.returns
  have hlk := B.notSynchronized
  have hW : KW D (va_A (wM cy h σ) s.heap.size) s.heap (wM cy h σ) s.heap [] := ⟨hP, hD0.self, va_S.rf⟩
  have hA : ∀ q, s.heap.size ≤ q → va_A (wM cy h σ) s.heap.size q := fun q h => Or.inr h
  have hl := lv_entry ([.ref (h 10), .int x1]) (n := 2) (Nat.le_of_ble_eq_true rfl)
  rw [lg_entry_eq]
  generalize (lg_sl ([.ref (h 10), .int x1]) ++ List.replicate (2 - (lg_sl ([.ref (h 10), .int x1])).length) Slot.unset).toArray = ls at hl ⊢
  have hl : lv_has ls 2 [(0, .ref (h 10)), (1, .int x1)] := hl
  unfold fX5_isAllocated at hf
  refine lv_aload_n G.1 G.2.1 dX5_isAllocated_0 rfl (lv_at hl 0 rfl) ?_
  refine lv_iload_n G.1 G.2.1 dX5_isAllocated_1 rfl (lv_at hl 1 rfl) ?_
  refine lv_iconst (v := (4 : Int32)) G.1 G.2.1 dX5_isAllocated_2 (by decide) ?_
  obtain ⟨v1, ev1, hf⟩ := ob hf
  refine kc_i (wr := []) (w := wM cy h σ) (w' := wM cy h σ) (n := 2) (As := [.int x1, .int (4 : Int32)]) (C := RX5) G hK hA hW (mX5_of l D cy h _ n σ x1 (4 : Int32) ev1) (gV q_8_22 q_8_23 q_9_0 q_1_5 q_9_1) ⟨rfl, rfl⟩ (by decide +kernel) ⟨Nat.le_of_ble_eq_true rfl, Nat.le_of_ble_eq_true rfl⟩ (va_recv hK.1 hW.1 (ci := 7) (q0 := 0) rfl rfl) rfl hl.1 rfl (Nat.le_of_ble_eq_true rfl) dX5_isAllocated_3 ⟨Nat.le_of_ble_eq_true rfl, Nat.le_of_ble_eq_true rfl⟩ (fun H locs hW => ?_)
  refine lv_iconst (v := (2 : Int32)) G.1 G.2.1 dX5_isAllocated_6 (by decide) ?_
  refine lv_icmp_ge (tgt := 14) G.1 G.2.1 dX5_isAllocated_7 (by decide) (fun c7 => ?_) (fun c7 => ?_)
  · replace hf := it c7 hf
    refine lv_iconst (v := (0 : Int32)) G.1 G.2.1 dX5_isAllocated_14 (by decide) ?_
    cases hf
    exact k_zret G hr hlk hK hW rfl dX5_isAllocated_15
  · replace hf := ie c7 hf
    refine lv_iconst (v := (1 : Int32)) G.1 G.2.1 dX5_isAllocated_10 (by decide) ?_
    refine lv_goto (tgt := 15) G.1 G.2.1 dX5_isAllocated_11 (by decide) ?_
    cases hf
    exact k_zret G hr hlk hK hW rfl dX5_isAllocated_15

set_option maxHeartbeats 4000000 in
set_option maxRecDepth 100000 in
theorem mX5_records (l : Launch) (D : va_G) (cy : ClassId) (h : Nat → Nat) (sz n : Nat) (σ : St) (x1 : Int32) (x2 : Int32) {σ' : St} (hf : fX5_records n σ x1 x2 = some σ') : Mv l yX5_records (ws_ yX5_records cX5_records 4 none) { frames := 0, cells := 0, slots := 0, locals := 0 } D cy (wM cy h σ) (wM cy h σ') sz [.ref (h 10), .int x1, .int x2] := by
  refine Met.ofW (cc := cX5_records) (maxL := 4) (ret := none) (by decide) rfl ?_
  intro p e s m args below meth c s₁ B hml hv
  obtain ⟨rfl, hsz, hP, hK, hD0⟩ := hv
  subst hsz
  have hts := atoms_spec (ws := ws_ yX5_records cX5_records 4 none) B.pre
  have G : CallFix p m c cX5_records 4 s _ wA RX5 := ⟨B.exec, B.bytes, hml, findClass_of_methodNamed B.named, fun w h => hts w (List.mem_cons_of_mem _ h)⟩
  have hr := B.returns
  have hlk := B.notSynchronized
  have hW : KW D (va_A (wM cy h σ) s.heap.size) s.heap (wM cy h σ) s.heap [] := ⟨hP, hD0.self, va_S.rf⟩
  have hA : ∀ q, s.heap.size ≤ q → va_A (wM cy h σ) s.heap.size q := fun q h => Or.inr h
  have hl := lv_entry ([.ref (h 10), .int x1, .int x2]) (n := 4) (Nat.le_of_ble_eq_true rfl)
  rw [lg_entry_eq]
  generalize (lg_sl ([.ref (h 10), .int x1, .int x2]) ++ List.replicate (4 - (lg_sl ([.ref (h 10), .int x1, .int x2])).length) Slot.unset).toArray = ls at hl ⊢
  have hl : lv_has ls 4 [(0, .ref (h 10)), (1, .int x1), (2, .int x2)] := hl
  unfold fX5_records at hf
  refine lv_aload_n G.1 G.2.1 dX5_records_0 rfl (lv_at hl 0 rfl) ?_
  refine k_get G inlX5 hK hW 0 rfl rfl 0 (by decide) q_4_6 rfl dX5_records_1 ?_
  refine lv_iconst (v := (4 : Int32)) G.1 G.2.1 dX5_records_4 (by decide) ?_
  obtain ⟨v1, ev1, hf⟩ := ob hf
  refine k_ald G hK hW 1 rfl ev1 dX5_records_5 ?_
  refine lv_bipush (v := (60 : Int32)) G.1 G.2.1 dX5_records_6 (by decide) ?_
  refine lv_icmp_ne (tgt := 58) G.1 G.2.1 dX5_records_8 (by decide) (fun c8 => ?_) (fun c8 => ?_)
  · replace hf := ie c8 hf
    refine lv_sipush (v := (365 : Int32)) G.1 G.2.1 dX5_records_58 (by decide) ?_
    refine lv_iconst (v := (3 : Int32)) G.1 G.2.1 dX5_records_61 (by decide) ?_
    refine lv_aload_n G.1 G.2.1 dX5_records_62 rfl (lv_at hl 0 rfl) ?_
    refine k_get G inlX5 hK hW 0 rfl rfl 0 (by decide) q_4_6 rfl dX5_records_63 ?_
    refine lv_iconst (v := (4 : Int32)) G.1 G.2.1 dX5_records_66 (by decide) ?_
    refine lv_dup2_11 G.1 G.2.1 dX5_records_67 rfl rfl ?_
    obtain ⟨v2, ev2, hf⟩ := ob hf
    refine k_ald G hK hW 1 rfl ev2 dX5_records_68 ?_
    refine lv_dup_x2 G.1 G.2.1 dX5_records_69 rfl rfl rfl ?_
    refine lv_iconst (v := (1 : Int32)) G.1 G.2.1 dX5_records_70 (by decide) ?_
    refine lv_iadd G.1 G.2.1 dX5_records_71 ?_
    obtain ⟨s3, es3, hf⟩ := ob hf
    refine k_ast (w := wM cy h) G hK hW 1 0 609 rfl (fun _ => rfl) es3 dX5_records_72 (fun H locs hW => ?_)
    refine lv_imul G.1 G.2.1 dX5_records_73 ?_
    refine lv_iadd G.1 G.2.1 dX5_records_74 ?_
    refine lv_istore_n (lv' := [(3, .int ((365 : Int32) + ((3 : Int32) * v2))), (0, .ref (h 10)), (1, .int x1), (2, .int x2)]) G.1 G.2.1 dX5_records_75 rfl hl (by decide) rfl (fun ls hl => ?_)
    refine lv_aload_n G.1 G.2.1 dX5_records_76 rfl (lv_at hl 1 rfl) ?_
    refine k_get G inlX5 hK hW 0 rfl rfl 0 (by decide) q_4_6 rfl dX5_records_77 ?_
    refine lv_iload_n G.1 G.2.1 dX5_records_80 rfl (lv_at hl 0 rfl) ?_
    refine lv_aload_n G.1 G.2.1 dX5_records_81 rfl (lv_at hl 1 rfl) ?_
    refine k_get G inlX5 hK hW 0 rfl rfl 0 (by decide) q_4_6 rfl dX5_records_82 ?_
    refine lv_iconst (v := (0 : Int32)) G.1 G.2.1 dX5_records_85 (by decide) ?_
    obtain ⟨v4, ev4, hf⟩ := ob hf
    refine k_ald G hK hW 1 rfl ev4 dX5_records_86 ?_
    obtain ⟨s5, es5, hf⟩ := ob hf
    refine k_ast (w := wM cy h) G hK hW 1 0 609 rfl (fun _ => rfl) es5 dX5_records_87 (fun H locs hW => ?_)
    refine lv_aload_n G.1 G.2.1 dX5_records_88 rfl (lv_at hl 1 rfl) ?_
    refine k_get G inlX5 hK hW 0 rfl rfl 0 (by decide) q_4_6 rfl dX5_records_89 ?_
    refine lv_iload_n G.1 G.2.1 dX5_records_92 rfl (lv_at hl 0 rfl) ?_
    refine lv_iconst (v := (1 : Int32)) G.1 G.2.1 dX5_records_93 (by decide) ?_
    refine lv_iadd G.1 G.2.1 dX5_records_94 ?_
    refine lv_iload_n G.1 G.2.1 dX5_records_95 rfl (lv_at hl 2 rfl) ?_
    obtain ⟨s6, es6, hf⟩ := ob hf
    refine k_ast (w := wM cy h) G hK hW 1 0 609 rfl (fun _ => rfl) es6 dX5_records_96 (fun H locs hW => ?_)
    refine lv_aload_n G.1 G.2.1 dX5_records_97 rfl (lv_at hl 1 rfl) ?_
    refine k_get G inlX5 hK hW 0 rfl rfl 0 (by decide) q_4_6 rfl dX5_records_98 ?_
    refine lv_iload_n G.1 G.2.1 dX5_records_101 rfl (lv_at hl 0 rfl) ?_
    refine lv_iconst (v := (2 : Int32)) G.1 G.2.1 dX5_records_102 (by decide) ?_
    refine lv_iadd G.1 G.2.1 dX5_records_103 ?_
    refine lv_iload_n G.1 G.2.1 dX5_records_104 rfl (lv_at hl 3 rfl) ?_
    obtain ⟨s7, es7, hf⟩ := ob hf
    refine k_ast (w := wM cy h) G hK hW 1 0 609 rfl (fun _ => rfl) es7 dX5_records_105 (fun H locs hW => ?_)
    cases hf
    exact k_vret G hr hlk hK hW dX5_records_106
  · replace hf := it c8 hf
    refine lv_iconst (v := (0 : Int32)) G.1 G.2.1 dX5_records_11 (by decide) ?_
    refine lv_istore_n (lv' := [(3, .int (0 : Int32)), (0, .ref (h 10)), (1, .int x1), (2, .int x2)]) G.1 G.2.1 dX5_records_12 rfl hl (by decide) rfl (fun ls hl => ?_)
    have L13 : ∀ (fu : Nat) (y8 : Int32) (s9 : St) (H : Heap) (locs : List Loc) (ls : Array Slot), lz2 (fX5_records_b13 x1 x2) fu y8 s9 = some σ' → KW D (va_A (wM cy h σ) s.heap.size) s.heap (wM cy h s9) H locs → lv_has ls 4 [(3, .int y8), (0, .ref (h 10)), (1, .int x1), (2, .int x2)] → W p l e (headSpec (ws_ yX5_records cX5_records 4 none) { frames := 0, cells := 0, slots := 0, locals := 0 }).room s m (([.ref (h 10), .int x1, .int x2] : List Value).toArray) below meth c H locs 0 0 (MQ below (va_Qv (fun (_ : Unit) => True) (fun _ => KB D (va_A (wM cy h σ) s.heap.size) (wM cy h σ')) (va_A (wM cy h σ) s.heap.size)) (([.ref (h 10), .int x1, .int x2] : List Value).toArray) s 0 0 (va_A (wM cy h σ) s.heap.size)) (F0 m 13 ls []) := by
      intro fu13
      induction fu13 with
      | zero => intro y8 s9 H locs ls hf; cases hf
      | succ fu13 ih13 =>
        intro y8 s9 H locs ls hf hW hl
        rw [lz2_s] at hf
        unfold fX5_records_b13 at hf
        refine lv_iload_n G.1 G.2.1 dX5_records_13 rfl (lv_at hl 0 rfl) ?_
        refine lv_sipush (v := (177 : Int32)) G.1 G.2.1 dX5_records_14 (by decide) ?_
        refine lv_icmp_ge (tgt := 48) G.1 G.2.1 dX5_records_17 (by decide) (fun c17 => ?_) (fun c17 => ?_)
        · replace hf := it c17 hf
          refine lv_aload_n G.1 G.2.1 dX5_records_48 rfl (lv_at hl 1 rfl) ?_
          refine k_get G inlX5 hK hW 0 rfl rfl 0 (by decide) q_4_6 rfl dX5_records_49 ?_
          refine lv_iconst (v := (4 : Int32)) G.1 G.2.1 dX5_records_52 (by decide) ?_
          refine lv_dup2_11 G.1 G.2.1 dX5_records_53 rfl rfl ?_
          obtain ⟨v11, ev11, hf⟩ := ob hf
          refine k_ald G hK hW 1 rfl ev11 dX5_records_54 ?_
          refine lv_iconst (v := (1 : Int32)) G.1 G.2.1 dX5_records_55 (by decide) ?_
          refine lv_isub G.1 G.2.1 dX5_records_56 ?_
          obtain ⟨s12, es12, hf⟩ := ob hf
          refine k_ast (w := wM cy h) G hK hW 1 0 609 rfl (fun _ => rfl) es12 dX5_records_57 (fun H locs hW => ?_)
          refine lv_sipush (v := (365 : Int32)) G.1 G.2.1 dX5_records_58 (by decide) ?_
          refine lv_iconst (v := (3 : Int32)) G.1 G.2.1 dX5_records_61 (by decide) ?_
          refine lv_aload_n G.1 G.2.1 dX5_records_62 rfl (lv_at hl 1 rfl) ?_
          refine k_get G inlX5 hK hW 0 rfl rfl 0 (by decide) q_4_6 rfl dX5_records_63 ?_
          refine lv_iconst (v := (4 : Int32)) G.1 G.2.1 dX5_records_66 (by decide) ?_
          refine lv_dup2_11 G.1 G.2.1 dX5_records_67 rfl rfl ?_
          obtain ⟨v13, ev13, hf⟩ := ob hf
          refine k_ald G hK hW 1 rfl ev13 dX5_records_68 ?_
          refine lv_dup_x2 G.1 G.2.1 dX5_records_69 rfl rfl rfl ?_
          refine lv_iconst (v := (1 : Int32)) G.1 G.2.1 dX5_records_70 (by decide) ?_
          refine lv_iadd G.1 G.2.1 dX5_records_71 ?_
          obtain ⟨s14, es14, hf⟩ := ob hf
          refine k_ast (w := wM cy h) G hK hW 1 0 609 rfl (fun _ => rfl) es14 dX5_records_72 (fun H locs hW => ?_)
          refine lv_imul G.1 G.2.1 dX5_records_73 ?_
          refine lv_iadd G.1 G.2.1 dX5_records_74 ?_
          refine lv_istore_n (lv' := [(3, .int ((365 : Int32) + ((3 : Int32) * v13))), (0, .ref (h 10)), (1, .int x1), (2, .int x2)]) G.1 G.2.1 dX5_records_75 rfl hl (by decide) rfl (fun ls hl => ?_)
          refine lv_aload_n G.1 G.2.1 dX5_records_76 rfl (lv_at hl 1 rfl) ?_
          refine k_get G inlX5 hK hW 0 rfl rfl 0 (by decide) q_4_6 rfl dX5_records_77 ?_
          refine lv_iload_n G.1 G.2.1 dX5_records_80 rfl (lv_at hl 0 rfl) ?_
          refine lv_aload_n G.1 G.2.1 dX5_records_81 rfl (lv_at hl 1 rfl) ?_
          refine k_get G inlX5 hK hW 0 rfl rfl 0 (by decide) q_4_6 rfl dX5_records_82 ?_
          refine lv_iconst (v := (0 : Int32)) G.1 G.2.1 dX5_records_85 (by decide) ?_
          obtain ⟨v15, ev15, hf⟩ := ob hf
          refine k_ald G hK hW 1 rfl ev15 dX5_records_86 ?_
          obtain ⟨s16, es16, hf⟩ := ob hf
          refine k_ast (w := wM cy h) G hK hW 1 0 609 rfl (fun _ => rfl) es16 dX5_records_87 (fun H locs hW => ?_)
          refine lv_aload_n G.1 G.2.1 dX5_records_88 rfl (lv_at hl 1 rfl) ?_
          refine k_get G inlX5 hK hW 0 rfl rfl 0 (by decide) q_4_6 rfl dX5_records_89 ?_
          refine lv_iload_n G.1 G.2.1 dX5_records_92 rfl (lv_at hl 0 rfl) ?_
          refine lv_iconst (v := (1 : Int32)) G.1 G.2.1 dX5_records_93 (by decide) ?_
          refine lv_iadd G.1 G.2.1 dX5_records_94 ?_
          refine lv_iload_n G.1 G.2.1 dX5_records_95 rfl (lv_at hl 2 rfl) ?_
          obtain ⟨s17, es17, hf⟩ := ob hf
          refine k_ast (w := wM cy h) G hK hW 1 0 609 rfl (fun _ => rfl) es17 dX5_records_96 (fun H locs hW => ?_)
          refine lv_aload_n G.1 G.2.1 dX5_records_97 rfl (lv_at hl 1 rfl) ?_
          refine k_get G inlX5 hK hW 0 rfl rfl 0 (by decide) q_4_6 rfl dX5_records_98 ?_
          refine lv_iload_n G.1 G.2.1 dX5_records_101 rfl (lv_at hl 0 rfl) ?_
          refine lv_iconst (v := (2 : Int32)) G.1 G.2.1 dX5_records_102 (by decide) ?_
          refine lv_iadd G.1 G.2.1 dX5_records_103 ?_
          refine lv_iload_n G.1 G.2.1 dX5_records_104 rfl (lv_at hl 3 rfl) ?_
          obtain ⟨s18, es18, hf⟩ := ob hf
          refine k_ast (w := wM cy h) G hK hW 1 0 609 rfl (fun _ => rfl) es18 dX5_records_105 (fun H locs hW => ?_)
          cases hf
          exact k_vret G hr hlk hK hW dX5_records_106
        · replace hf := ie c17 hf
          refine lv_aload_n G.1 G.2.1 dX5_records_20 rfl (lv_at hl 1 rfl) ?_
          refine k_get G inlX5 hK hW 0 rfl rfl 0 (by decide) q_4_6 rfl dX5_records_21 ?_
          refine lv_sipush (v := (365 : Int32)) G.1 G.2.1 dX5_records_24 (by decide) ?_
          refine lv_iload_n G.1 G.2.1 dX5_records_27 rfl (lv_at hl 0 rfl) ?_
          refine lv_iadd G.1 G.2.1 dX5_records_28 ?_
          refine lv_aload_n G.1 G.2.1 dX5_records_29 rfl (lv_at hl 1 rfl) ?_
          refine k_get G inlX5 hK hW 0 rfl rfl 0 (by decide) q_4_6 rfl dX5_records_30 ?_
          refine lv_sipush (v := (365 : Int32)) G.1 G.2.1 dX5_records_33 (by decide) ?_
          refine lv_iload_n G.1 G.2.1 dX5_records_36 rfl (lv_at hl 0 rfl) ?_
          refine lv_iadd G.1 G.2.1 dX5_records_37 ?_
          refine lv_iconst (v := (3 : Int32)) G.1 G.2.1 dX5_records_38 (by decide) ?_
          refine lv_iadd G.1 G.2.1 dX5_records_39 ?_
          obtain ⟨v19, ev19, hf⟩ := ob hf
          refine k_ald G hK hW 1 rfl ev19 dX5_records_40 ?_
          obtain ⟨s20, es20, hf⟩ := ob hf
          refine k_ast (w := wM cy h) G hK hW 1 0 609 rfl (fun _ => rfl) es20 dX5_records_41 (fun H locs hW => ?_)
          refine lv_iinc (v := (y8 + (1 : Int32))) (lv' := [(3, .int (y8 + (1 : Int32))), (0, .ref (h 10)), (1, .int x1), (2, .int x2)]) G.1 G.2.1 dX5_records_42 hl (k := 0) rfl (congrArg (y8 + ·) (by decide)) (by decide) rfl (fun ls hl => ?_)
          refine lv_goto (tgt := 13) G.1 G.2.1 dX5_records_45 (by decide) ?_
          exact ih13 _ _ _ _ _ hf hW (lv_sub hl [0, 1, 2, 3] rfl)
    exact L13 _ _ _ _ _ _ hf hW (lv_sub hl [0, 1, 2, 3] rfl)

set_option maxHeartbeats 4000000 in
set_option maxRecDepth 100000 in
theorem mX5_meets (l : Launch) (n : Nat) (x1 : Int32) (x2 : Int32) (x3 : Int32) (x4 : Int32) (x5 : Int32) (x6 : Int32) (x7 : Int32) (x8 : Int32) {r : Int32} (hf : fX5_meets n x1 x2 x3 x4 x5 x6 x7 x8 = some r) : Ms l yX5_meets (ws_ yX5_meets cX5_meets 8 (some .boolean)) { frames := 0, cells := 0, slots := 0, locals := 0 } [.int x1, .int x2, .int x3, .int x4, .int x5, .int x6, .int x7, .int x8] r := by
  refine Met.ofW (cc := cX5_meets) (maxL := 8) (ret := (some .boolean)) (by decide) rfl ?_
  intro p e s m args below meth c s₁ B hml hv
  obtain ⟨rfl, -⟩ := hv
  have hts := atoms_spec (ws := ws_ yX5_meets cX5_meets 8 (some .boolean)) B.pre
  have G : CallFix p m c cX5_meets 8 s _ wA RX5 := ⟨B.exec, B.bytes, hml, findClass_of_methodNamed B.named, fun w h => hts w (List.mem_cons_of_mem _ h)⟩
  have hr := B.returns
  have hlk := B.notSynchronized
  have hW : KW k_D0 (fun _ => False) s.heap [] s.heap [] := k_W0
  have hl := lv_entry ([.int x1, .int x2, .int x3, .int x4, .int x5, .int x6, .int x7, .int x8]) (n := 8) (Nat.le_of_ble_eq_true rfl)
  rw [lg_entry_eq]
  generalize (lg_sl ([.int x1, .int x2, .int x3, .int x4, .int x5, .int x6, .int x7, .int x8]) ++ List.replicate (8 - (lg_sl ([.int x1, .int x2, .int x3, .int x4, .int x5, .int x6, .int x7, .int x8])).length) Slot.unset).toArray = ls at hl ⊢
  have hl : lv_has ls 8 [(0, .int x1), (1, .int x2), (2, .int x3), (3, .int x4), (4, .int x5), (5, .int x6), (6, .int x7), (7, .int x8)] := hl
  unfold fX5_meets at hf
  refine lv_iload_n G.1 G.2.1 dX5_meets_0 rfl (lv_at hl 1 rfl) ?_
  refine lv_iload G.1 G.2.1 dX5_meets_1 (lv_at hl 5 rfl) ?_
  refine lv_iconst (v := (1 : Int32)) G.1 G.2.1 dX5_meets_3 (by decide) ?_
  refine lv_iload G.1 G.2.1 dX5_meets_4 (lv_at hl 4 rfl) ?_
  refine lv_ishl G.1 G.2.1 dX5_meets_6 ?_
  refine lv_iadd G.1 G.2.1 dX5_meets_7 ?_
  refine lv_icmp_ge (tgt := 37) G.1 G.2.1 dX5_meets_8 (by decide) (fun c8 => ?_) (fun c8 => ?_)
  · replace hf := it c8 hf
    refine lv_iconst (v := (0 : Int32)) G.1 G.2.1 dX5_meets_37 (by decide) ?_
    cases hf
    exact k_szret G hr hlk hW.2.2 rfl dX5_meets_38
  · replace hf := ie c8 hf
    refine lv_iload G.1 G.2.1 dX5_meets_11 (lv_at hl 5 rfl) ?_
    refine lv_iload_n G.1 G.2.1 dX5_meets_13 rfl (lv_at hl 1 rfl) ?_
    refine lv_iconst (v := (1 : Int32)) G.1 G.2.1 dX5_meets_14 (by decide) ?_
    refine lv_iload_n G.1 G.2.1 dX5_meets_15 rfl (lv_at hl 0 rfl) ?_
    refine lv_ishl G.1 G.2.1 dX5_meets_16 ?_
    refine lv_iadd G.1 G.2.1 dX5_meets_17 ?_
    refine lv_icmp_ge (tgt := 37) G.1 G.2.1 dX5_meets_18 (by decide) (fun c18 => ?_) (fun c18 => ?_)
    · replace hf := it c18 hf
      refine lv_iconst (v := (0 : Int32)) G.1 G.2.1 dX5_meets_37 (by decide) ?_
      cases hf
      exact k_szret G hr hlk hW.2.2 rfl dX5_meets_38
    · replace hf := ie c18 hf
      refine lv_iload_n G.1 G.2.1 dX5_meets_21 rfl (lv_at hl 2 rfl) ?_
      refine lv_iload G.1 G.2.1 dX5_meets_22 (lv_at hl 7 rfl) ?_
      refine lv_icmp_ge (tgt := 37) G.1 G.2.1 dX5_meets_24 (by decide) (fun c24 => ?_) (fun c24 => ?_)
      · replace hf := it c24 hf
        refine lv_iconst (v := (0 : Int32)) G.1 G.2.1 dX5_meets_37 (by decide) ?_
        cases hf
        exact k_szret G hr hlk hW.2.2 rfl dX5_meets_38
      · replace hf := ie c24 hf
        refine lv_iload G.1 G.2.1 dX5_meets_27 (lv_at hl 6 rfl) ?_
        refine lv_iload_n G.1 G.2.1 dX5_meets_29 rfl (lv_at hl 3 rfl) ?_
        refine lv_icmp_ge (tgt := 37) G.1 G.2.1 dX5_meets_30 (by decide) (fun c30 => ?_) (fun c30 => ?_)
        · replace hf := it c30 hf
          refine lv_iconst (v := (0 : Int32)) G.1 G.2.1 dX5_meets_37 (by decide) ?_
          cases hf
          exact k_szret G hr hlk hW.2.2 rfl dX5_meets_38
        · replace hf := ie c30 hf
          refine lv_iconst (v := (1 : Int32)) G.1 G.2.1 dX5_meets_33 (by decide) ?_
          refine lv_goto (tgt := 38) G.1 G.2.1 dX5_meets_34 (by decide) ?_
          cases hf
          exact k_szret G hr hlk hW.2.2 rfl dX5_meets_38

set_option maxHeartbeats 4000000 in
set_option maxRecDepth 100000 in
theorem mX5_isFree (l : Launch) (D : va_G) (cy : ClassId) (h : Nat → Nat) (sz n : Nat) (σ : St) (x1 : Int32) (x2 : Int32) (x3 : Int32) (x4 : Int32) {r : Int32} (hf : fX5_isFree n σ x1 x2 x3 x4 = some r) : Mi l yX5_isFree (ws_ yX5_isFree cX5_isFree 6 (some .boolean)) { frames := 2, cells := 0, slots := 0, locals := 43 } D cy (wM cy h σ) (wM cy h σ) sz [.ref (h 10), .int x1, .int x2, .int x3, .int x4] r := by
  refine Met.ofW (cc := cX5_isFree) (maxL := 6) (ret := (some .boolean)) (by decide) rfl ?_
  intro p e s m args below meth c s₁ B hml hv
  obtain ⟨rfl, hsz, hP, hK, hD0⟩ := hv
  subst hsz
  have hts := atoms_spec (ws := ws_ yX5_isFree cX5_isFree 6 (some .boolean)) B.pre
  have G : CallFix p m c cX5_isFree 6 s _ wA RX5 := ⟨B.exec, B.bytes, hml, findClass_of_methodNamed B.named, fun w h => hts w (List.mem_cons_of_mem _ h)⟩
  have hr := B.returns
  have hlk := B.notSynchronized
  have hW : KW D (va_A (wM cy h σ) s.heap.size) s.heap (wM cy h σ) s.heap [] := ⟨hP, hD0.self, va_S.rf⟩
  have hA : ∀ q, s.heap.size ≤ q → va_A (wM cy h σ) s.heap.size q := fun q h => Or.inr h
  have hl := lv_entry ([.ref (h 10), .int x1, .int x2, .int x3, .int x4]) (n := 6) (Nat.le_of_ble_eq_true rfl)
  rw [lg_entry_eq]
  generalize (lg_sl ([.ref (h 10), .int x1, .int x2, .int x3, .int x4]) ++ List.replicate (6 - (lg_sl ([.ref (h 10), .int x1, .int x2, .int x3, .int x4])).length) Slot.unset).toArray = ls at hl ⊢
  have hl : lv_has ls 6 [(0, .ref (h 10)), (1, .int x1), (2, .int x2), (3, .int x3), (4, .int x4)] := hl
  unfold fX5_isFree at hf
  refine lv_iconst (v := (0 : Int32)) G.1 G.2.1 dX5_isFree_0 (by decide) ?_
  refine lv_istore (lv' := [(5, .int (0 : Int32)), (0, .ref (h 10)), (1, .int x1), (2, .int x2), (3, .int x3), (4, .int x4)]) G.1 G.2.1 dX5_isFree_1 hl (by decide) rfl (fun ls hl => ?_)
  have K3_80 : ∀ (y1 : Int32) (H : Heap) (locs : List Loc) (ls : Array Slot), fX5_isFree_k3_80 n σ x1 x2 x3 x4 y1 = some r → KW D (va_A (wM cy h σ) s.heap.size) s.heap (wM cy h σ) H locs → lv_has ls 6 [(5, .int y1), (0, .ref (h 10)), (1, .int x1), (2, .int x2), (3, .int x3), (4, .int x4)] → W p l e (headSpec (ws_ yX5_isFree cX5_isFree 6 (some .boolean)) { frames := 2, cells := 0, slots := 0, locals := 43 }).room s m (([.ref (h 10), .int x1, .int x2, .int x3, .int x4] : List Value).toArray) below meth c H locs 0 0 (MQ below (va_Qi (fun (r' : Int32) (_ : Unit) => r' = r) (fun _ => KB D (va_A (wM cy h σ) s.heap.size) (wM cy h σ)) (va_A (wM cy h σ) s.heap.size)) (([.ref (h 10), .int x1, .int x2, .int x3, .int x4] : List Value).toArray) s 0 0 (va_A (wM cy h σ) s.heap.size)) (F0 m 80 ls []) := by
    intro y1 H locs ls hf hW hl
    unfold fX5_isFree_k3_80 at hf
    refine lv_iconst (v := (0 : Int32)) G.1 G.2.1 dX5_isFree_80 (by decide) ?_
    refine lv_istore (lv' := [(5, .int (0 : Int32)), (0, .ref (h 10)), (1, .int x1), (2, .int x2), (3, .int x3), (4, .int x4)]) G.1 G.2.1 dX5_isFree_81 hl (by decide) rfl (fun ls hl => ?_)
    have L83 : ∀ (fu : Nat) (y2 : Int32) (H : Heap) (locs : List Loc) (ls : Array Slot), lz1 (fX5_isFree_b83 n σ x1 x2 x3 x4) fu y2 = some r → KW D (va_A (wM cy h σ) s.heap.size) s.heap (wM cy h σ) H locs → lv_has ls 6 [(5, .int y2), (0, .ref (h 10)), (1, .int x1), (2, .int x2), (3, .int x3), (4, .int x4)] → W p l e (headSpec (ws_ yX5_isFree cX5_isFree 6 (some .boolean)) { frames := 2, cells := 0, slots := 0, locals := 43 }).room s m (([.ref (h 10), .int x1, .int x2, .int x3, .int x4] : List Value).toArray) below meth c H locs 0 0 (MQ below (va_Qi (fun (r' : Int32) (_ : Unit) => r' = r) (fun _ => KB D (va_A (wM cy h σ) s.heap.size) (wM cy h σ)) (va_A (wM cy h σ) s.heap.size)) (([.ref (h 10), .int x1, .int x2, .int x3, .int x4] : List Value).toArray) s 0 0 (va_A (wM cy h σ) s.heap.size)) (F0 m 83 ls []) := by
      intro fu83
      induction fu83 with
      | zero => intro y2 H locs ls hf; cases hf
      | succ fu83 ih83 =>
        intro y2 H locs ls hf hW hl
        rw [lz1_s] at hf
        unfold fX5_isFree_b83 at hf
        refine lv_iload G.1 G.2.1 dX5_isFree_83 (lv_at hl 0 rfl) ?_
        refine lv_aload_n G.1 G.2.1 dX5_isFree_85 rfl (lv_at hl 1 rfl) ?_
        refine k_get G inlX5 hK hW 0 rfl rfl 0 (by decide) q_4_6 rfl dX5_isFree_86 ?_
        refine lv_iconst (v := (2 : Int32)) G.1 G.2.1 dX5_isFree_89 (by decide) ?_
        obtain ⟨v4, ev4, hf⟩ := ob hf
        refine k_ald G hK hW 1 rfl ev4 dX5_isFree_90 ?_
        refine lv_icmp_ge (tgt := 159) G.1 G.2.1 dX5_isFree_91 (by decide) (fun c91 => ?_) (fun c91 => ?_)
        · replace hf := it c91 hf
          refine lv_iconst (v := (1 : Int32)) G.1 G.2.1 dX5_isFree_159 (by decide) ?_
          cases hf
          exact k_zret G hr hlk hK hW rfl dX5_isFree_160
        · replace hf := ie c91 hf
          refine lv_aload_n G.1 G.2.1 dX5_isFree_94 rfl (lv_at hl 1 rfl) ?_
          refine lv_iload G.1 G.2.1 dX5_isFree_95 (lv_at hl 0 rfl) ?_
          refine lv_iconst (v := (3 : Int32)) G.1 G.2.1 dX5_isFree_97 (by decide) ?_
          obtain ⟨v5, ev5, hf⟩ := ob hf
          refine kc_i (wr := []) (w := wM cy h σ) (w' := wM cy h σ) (n := 2) (As := [.int y2, .int (3 : Int32)]) (C := RX5) G hK hA hW (mX5_reserved l D cy h _ n σ y2 (3 : Int32) ev5) (gV q_9_7 q_9_8 q_9_9 q_1_5 q_9_10) ⟨rfl, rfl⟩ (by decide +kernel) ⟨Nat.le_of_ble_eq_true rfl, Nat.le_of_ble_eq_true rfl⟩ (va_recv hK.1 hW.1 (ci := 7) (q0 := 0) rfl rfl) rfl hl.1 rfl (Nat.le_of_ble_eq_true rfl) dX5_isFree_98 ⟨Nat.le_of_ble_eq_true rfl, Nat.le_of_ble_eq_true rfl⟩ (fun H locs hW => ?_)
          refine lv_if_le (tgt := 153) G.1 G.2.1 dX5_isFree_101 (by decide) (fun c101 => ?_) (fun c101 => ?_)
          · replace hf := it c101 hf
            refine lv_iinc (v := (y2 + (1 : Int32))) (lv' := [(5, .int (y2 + (1 : Int32))), (0, .ref (h 10)), (1, .int x1), (2, .int x2), (3, .int x3), (4, .int x4)]) G.1 G.2.1 dX5_isFree_153 hl (k := 0) rfl (congrArg (y2 + ·) (by decide)) (by decide) rfl (fun ls hl => ?_)
            refine lv_goto (tgt := 83) G.1 G.2.1 dX5_isFree_156 (by decide) ?_
            exact ih83 _ _ _ _ hf hW (lv_sub hl [0, 1, 2, 3, 4, 5] rfl)
          · replace hf := ie c101 hf
            refine lv_iload_n G.1 G.2.1 dX5_isFree_104 rfl (lv_at hl 2 rfl) ?_
            refine lv_iload_n G.1 G.2.1 dX5_isFree_105 rfl (lv_at hl 3 rfl) ?_
            refine lv_iload_n G.1 G.2.1 dX5_isFree_106 rfl (lv_at hl 4 rfl) ?_
            refine lv_iload G.1 G.2.1 dX5_isFree_107 (lv_at hl 5 rfl) ?_
            refine lv_aload_n G.1 G.2.1 dX5_isFree_109 rfl (lv_at hl 1 rfl) ?_
            refine lv_iload G.1 G.2.1 dX5_isFree_110 (lv_at hl 0 rfl) ?_
            refine lv_iconst (v := (0 : Int32)) G.1 G.2.1 dX5_isFree_112 (by decide) ?_
            obtain ⟨v6, ev6, hf⟩ := ob hf
            refine kc_i (wr := []) (w := wM cy h σ) (w' := wM cy h σ) (n := 2) (As := [.int y2, .int (0 : Int32)]) (C := RX5) G hK hA hW (mX5_reserved l D cy h _ n σ y2 (0 : Int32) ev6) (gV q_9_7 q_9_8 q_9_9 q_1_5 q_9_10) ⟨rfl, rfl⟩ (by decide +kernel) ⟨Nat.le_of_ble_eq_true rfl, Nat.le_of_ble_eq_true rfl⟩ (va_recv hK.1 hW.1 (ci := 7) (q0 := 0) rfl rfl) rfl hl.1 rfl (Nat.le_of_ble_eq_true rfl) dX5_isFree_113 ⟨Nat.le_of_ble_eq_true rfl, Nat.le_of_ble_eq_true rfl⟩ (fun H locs hW => ?_)
            refine lv_aload_n G.1 G.2.1 dX5_isFree_116 rfl (lv_at hl 1 rfl) ?_
            refine lv_iload G.1 G.2.1 dX5_isFree_117 (lv_at hl 0 rfl) ?_
            refine lv_iconst (v := (1 : Int32)) G.1 G.2.1 dX5_isFree_119 (by decide) ?_
            obtain ⟨v7, ev7, hf⟩ := ob hf
            refine kc_i (wr := []) (w := wM cy h σ) (w' := wM cy h σ) (n := 2) (As := [.int y2, .int (1 : Int32)]) (C := RX5) G hK hA hW (mX5_reserved l D cy h _ n σ y2 (1 : Int32) ev7) (gV q_9_7 q_9_8 q_9_9 q_1_5 q_9_10) ⟨rfl, rfl⟩ (by decide +kernel) ⟨Nat.le_of_ble_eq_true rfl, Nat.le_of_ble_eq_true rfl⟩ (va_recv hK.1 hW.1 (ci := 7) (q0 := 0) rfl rfl) rfl hl.1 rfl (Nat.le_of_ble_eq_true rfl) dX5_isFree_120 ⟨Nat.le_of_ble_eq_true rfl, Nat.le_of_ble_eq_true rfl⟩ (fun H locs hW => ?_)
            refine lv_aload_n G.1 G.2.1 dX5_isFree_123 rfl (lv_at hl 1 rfl) ?_
            refine lv_iload G.1 G.2.1 dX5_isFree_124 (lv_at hl 0 rfl) ?_
            refine lv_iconst (v := (2 : Int32)) G.1 G.2.1 dX5_isFree_126 (by decide) ?_
            obtain ⟨v8, ev8, hf⟩ := ob hf
            refine kc_i (wr := []) (w := wM cy h σ) (w' := wM cy h σ) (n := 2) (As := [.int y2, .int (2 : Int32)]) (C := RX5) G hK hA hW (mX5_reserved l D cy h _ n σ y2 (2 : Int32) ev8) (gV q_9_7 q_9_8 q_9_9 q_1_5 q_9_10) ⟨rfl, rfl⟩ (by decide +kernel) ⟨Nat.le_of_ble_eq_true rfl, Nat.le_of_ble_eq_true rfl⟩ (va_recv hK.1 hW.1 (ci := 7) (q0 := 0) rfl rfl) rfl hl.1 rfl (Nat.le_of_ble_eq_true rfl) dX5_isFree_127 ⟨Nat.le_of_ble_eq_true rfl, Nat.le_of_ble_eq_true rfl⟩ (fun H locs hW => ?_)
            refine lv_aload_n G.1 G.2.1 dX5_isFree_130 rfl (lv_at hl 1 rfl) ?_
            refine lv_iload G.1 G.2.1 dX5_isFree_131 (lv_at hl 0 rfl) ?_
            refine lv_iconst (v := (2 : Int32)) G.1 G.2.1 dX5_isFree_133 (by decide) ?_
            obtain ⟨v9, ev9, hf⟩ := ob hf
            refine kc_i (wr := []) (w := wM cy h σ) (w' := wM cy h σ) (n := 2) (As := [.int y2, .int (2 : Int32)]) (C := RX5) G hK hA hW (mX5_reserved l D cy h _ n σ y2 (2 : Int32) ev9) (gV q_9_7 q_9_8 q_9_9 q_1_5 q_9_10) ⟨rfl, rfl⟩ (by decide +kernel) ⟨Nat.le_of_ble_eq_true rfl, Nat.le_of_ble_eq_true rfl⟩ (va_recv hK.1 hW.1 (ci := 7) (q0 := 0) rfl rfl) rfl hl.1 rfl (Nat.le_of_ble_eq_true rfl) dX5_isFree_134 ⟨Nat.le_of_ble_eq_true rfl, Nat.le_of_ble_eq_true rfl⟩ (fun H locs hW => ?_)
            refine lv_aload_n G.1 G.2.1 dX5_isFree_137 rfl (lv_at hl 1 rfl) ?_
            refine lv_iload G.1 G.2.1 dX5_isFree_138 (lv_at hl 0 rfl) ?_
            refine lv_iconst (v := (3 : Int32)) G.1 G.2.1 dX5_isFree_140 (by decide) ?_
            obtain ⟨v10, ev10, hf⟩ := ob hf
            refine kc_i (wr := []) (w := wM cy h σ) (w' := wM cy h σ) (n := 2) (As := [.int y2, .int (3 : Int32)]) (C := RX5) G hK hA hW (mX5_reserved l D cy h _ n σ y2 (3 : Int32) ev10) (gV q_9_7 q_9_8 q_9_9 q_1_5 q_9_10) ⟨rfl, rfl⟩ (by decide +kernel) ⟨Nat.le_of_ble_eq_true rfl, Nat.le_of_ble_eq_true rfl⟩ (va_recv hK.1 hW.1 (ci := 7) (q0 := 0) rfl rfl) rfl hl.1 rfl (Nat.le_of_ble_eq_true rfl) dX5_isFree_141 ⟨Nat.le_of_ble_eq_true rfl, Nat.le_of_ble_eq_true rfl⟩ (fun H locs hW => ?_)
            refine lv_iadd G.1 G.2.1 dX5_isFree_144 ?_
            obtain ⟨v11, ev11, hf⟩ := ob hf
            refine kc_s (n := 8) (As := [.int x1, .int x2, .int x3, .int x4, .int v6, .int v7, .int v8, .int (v9 + v10)]) G hW (mX5_meets l n x1 x2 x3 x4 v6 v7 v8 (v9 + v10) ev11) (gS q_9_23 q_10_0 q_1_5 q_10_1) ⟨rfl, rfl⟩ (by decide +kernel) ⟨Nat.le_of_ble_eq_true rfl, Nat.le_of_ble_eq_true rfl⟩ rfl hl.1 rfl (Nat.le_of_ble_eq_true rfl) dX5_isFree_145 ⟨Nat.le_of_ble_eq_true rfl, Nat.le_of_ble_eq_true rfl⟩ (fun H locs hW => ?_)
            refine lv_if_eq (tgt := 153) G.1 G.2.1 dX5_isFree_148 (by decide) (fun c148 => ?_) (fun c148 => ?_)
            · replace hf := it c148 hf
              refine lv_iinc (v := (y2 + (1 : Int32))) (lv' := [(5, .int (y2 + (1 : Int32))), (0, .ref (h 10)), (1, .int x1), (2, .int x2), (3, .int x3), (4, .int x4)]) G.1 G.2.1 dX5_isFree_153 hl (k := 0) rfl (congrArg (y2 + ·) (by decide)) (by decide) rfl (fun ls hl => ?_)
              refine lv_goto (tgt := 83) G.1 G.2.1 dX5_isFree_156 (by decide) ?_
              exact ih83 _ _ _ _ hf hW (lv_sub hl [0, 1, 2, 3, 4, 5] rfl)
            · replace hf := ie c148 hf
              refine lv_iconst (v := (0 : Int32)) G.1 G.2.1 dX5_isFree_151 (by decide) ?_
              cases hf
              exact k_zret G hr hlk hK hW rfl dX5_isFree_152
    exact L83 _ _ _ _ _ hf hW (lv_sub hl [0, 1, 2, 3, 4, 5] rfl)
  have L3 : ∀ (fu : Nat) (y12 : Int32) (H : Heap) (locs : List Loc) (ls : Array Slot), lz1 (fX5_isFree_b3 n σ x1 x2 x3 x4) fu y12 = some r → KW D (va_A (wM cy h σ) s.heap.size) s.heap (wM cy h σ) H locs → lv_has ls 6 [(5, .int y12), (0, .ref (h 10)), (1, .int x1), (2, .int x2), (3, .int x3), (4, .int x4)] → W p l e (headSpec (ws_ yX5_isFree cX5_isFree 6 (some .boolean)) { frames := 2, cells := 0, slots := 0, locals := 43 }).room s m (([.ref (h 10), .int x1, .int x2, .int x3, .int x4] : List Value).toArray) below meth c H locs 0 0 (MQ below (va_Qi (fun (r' : Int32) (_ : Unit) => r' = r) (fun _ => KB D (va_A (wM cy h σ) s.heap.size) (wM cy h σ)) (va_A (wM cy h σ) s.heap.size)) (([.ref (h 10), .int x1, .int x2, .int x3, .int x4] : List Value).toArray) s 0 0 (va_A (wM cy h σ) s.heap.size)) (F0 m 3 ls []) := by
    intro fu3
    induction fu3 with
    | zero => intro y12 H locs ls hf; cases hf
    | succ fu3 ih3 =>
      intro y12 H locs ls hf hW hl
      rw [lz1_s] at hf
      unfold fX5_isFree_b3 at hf
      refine lv_iload G.1 G.2.1 dX5_isFree_3 (lv_at hl 0 rfl) ?_
      refine lv_aload_n G.1 G.2.1 dX5_isFree_5 rfl (lv_at hl 1 rfl) ?_
      refine k_get G inlX5 hK hW 0 rfl rfl 0 (by decide) q_4_6 rfl dX5_isFree_6 ?_
      refine lv_iconst (v := (1 : Int32)) G.1 G.2.1 dX5_isFree_9 (by decide) ?_
      obtain ⟨v14, ev14, hf⟩ := ob hf
      refine k_ald G hK hW 1 rfl ev14 dX5_isFree_10 ?_
      refine lv_icmp_ge (tgt := 80) G.1 G.2.1 dX5_isFree_11 (by decide) (fun c11 => ?_) (fun c11 => ?_)
      · replace hf := it c11 hf
        exact K3_80 _ _ _ _ hf hW (lv_sub hl [0, 1, 2, 3, 4, 5] rfl)
      · replace hf := ie c11 hf
        refine lv_aload_n G.1 G.2.1 dX5_isFree_14 rfl (lv_at hl 1 rfl) ?_
        refine lv_iload G.1 G.2.1 dX5_isFree_15 (lv_at hl 0 rfl) ?_
        obtain ⟨v15, ev15, hf⟩ := ob hf
        refine kc_i (wr := []) (w := wM cy h σ) (w' := wM cy h σ) (n := 1) (As := [.int y12]) (C := RX5) G hK hA hW (mX5_isAllocated l D cy h _ n σ y12 ev15) (gV q_9_11 q_9_12 q_9_13 q_1_5 q_9_14) ⟨rfl, rfl⟩ (by decide +kernel) ⟨Nat.le_of_ble_eq_true rfl, Nat.le_of_ble_eq_true rfl⟩ (va_recv hK.1 hW.1 (ci := 7) (q0 := 0) rfl rfl) rfl hl.1 rfl (Nat.le_of_ble_eq_true rfl) dX5_isFree_17 ⟨Nat.le_of_ble_eq_true rfl, Nat.le_of_ble_eq_true rfl⟩ (fun H locs hW => ?_)
        refine lv_if_eq (tgt := 74) G.1 G.2.1 dX5_isFree_20 (by decide) (fun c20 => ?_) (fun c20 => ?_)
        · replace hf := it c20 hf
          refine lv_iinc (v := (y12 + (1 : Int32))) (lv' := [(5, .int (y12 + (1 : Int32))), (0, .ref (h 10)), (1, .int x1), (2, .int x2), (3, .int x3), (4, .int x4)]) G.1 G.2.1 dX5_isFree_74 hl (k := 0) rfl (congrArg (y12 + ·) (by decide)) (by decide) rfl (fun ls hl => ?_)
          refine lv_goto (tgt := 3) G.1 G.2.1 dX5_isFree_77 (by decide) ?_
          exact ih3 _ _ _ _ hf hW (lv_sub hl [0, 1, 2, 3, 4, 5] rfl)
        · replace hf := ie c20 hf
          refine lv_iload_n G.1 G.2.1 dX5_isFree_23 rfl (lv_at hl 2 rfl) ?_
          refine lv_iload_n G.1 G.2.1 dX5_isFree_24 rfl (lv_at hl 3 rfl) ?_
          refine lv_iload_n G.1 G.2.1 dX5_isFree_25 rfl (lv_at hl 4 rfl) ?_
          refine lv_iload G.1 G.2.1 dX5_isFree_26 (lv_at hl 5 rfl) ?_
          refine lv_aload_n G.1 G.2.1 dX5_isFree_28 rfl (lv_at hl 1 rfl) ?_
          refine lv_iload G.1 G.2.1 dX5_isFree_29 (lv_at hl 0 rfl) ?_
          refine lv_iconst (v := (1 : Int32)) G.1 G.2.1 dX5_isFree_31 (by decide) ?_
          obtain ⟨v16, ev16, hf⟩ := ob hf
          refine kc_i (wr := []) (w := wM cy h σ) (w' := wM cy h σ) (n := 2) (As := [.int y12, .int (1 : Int32)]) (C := RX5) G hK hA hW (mX5_of l D cy h _ n σ y12 (1 : Int32) ev16) (gV q_8_22 q_8_23 q_9_0 q_1_5 q_9_1) ⟨rfl, rfl⟩ (by decide +kernel) ⟨Nat.le_of_ble_eq_true rfl, Nat.le_of_ble_eq_true rfl⟩ (va_recv hK.1 hW.1 (ci := 7) (q0 := 0) rfl rfl) rfl hl.1 rfl (Nat.le_of_ble_eq_true rfl) dX5_isFree_32 ⟨Nat.le_of_ble_eq_true rfl, Nat.le_of_ble_eq_true rfl⟩ (fun H locs hW => ?_)
          refine lv_aload_n G.1 G.2.1 dX5_isFree_35 rfl (lv_at hl 1 rfl) ?_
          refine lv_iload G.1 G.2.1 dX5_isFree_36 (lv_at hl 0 rfl) ?_
          refine lv_iconst (v := (5 : Int32)) G.1 G.2.1 dX5_isFree_38 (by decide) ?_
          obtain ⟨v17, ev17, hf⟩ := ob hf
          refine kc_i (wr := []) (w := wM cy h σ) (w' := wM cy h σ) (n := 2) (As := [.int y12, .int (5 : Int32)]) (C := RX5) G hK hA hW (mX5_of l D cy h _ n σ y12 (5 : Int32) ev17) (gV q_8_22 q_8_23 q_9_0 q_1_5 q_9_1) ⟨rfl, rfl⟩ (by decide +kernel) ⟨Nat.le_of_ble_eq_true rfl, Nat.le_of_ble_eq_true rfl⟩ (va_recv hK.1 hW.1 (ci := 7) (q0 := 0) rfl rfl) rfl hl.1 rfl (Nat.le_of_ble_eq_true rfl) dX5_isFree_39 ⟨Nat.le_of_ble_eq_true rfl, Nat.le_of_ble_eq_true rfl⟩ (fun H locs hW => ?_)
          refine lv_aload_n G.1 G.2.1 dX5_isFree_42 rfl (lv_at hl 1 rfl) ?_
          refine lv_iload G.1 G.2.1 dX5_isFree_43 (lv_at hl 0 rfl) ?_
          refine lv_bipush (v := (6 : Int32)) G.1 G.2.1 dX5_isFree_45 (by decide) ?_
          obtain ⟨v18, ev18, hf⟩ := ob hf
          refine kc_i (wr := []) (w := wM cy h σ) (w' := wM cy h σ) (n := 2) (As := [.int y12, .int (6 : Int32)]) (C := RX5) G hK hA hW (mX5_of l D cy h _ n σ y12 (6 : Int32) ev18) (gV q_8_22 q_8_23 q_9_0 q_1_5 q_9_1) ⟨rfl, rfl⟩ (by decide +kernel) ⟨Nat.le_of_ble_eq_true rfl, Nat.le_of_ble_eq_true rfl⟩ (va_recv hK.1 hW.1 (ci := 7) (q0 := 0) rfl rfl) rfl hl.1 rfl (Nat.le_of_ble_eq_true rfl) dX5_isFree_47 ⟨Nat.le_of_ble_eq_true rfl, Nat.le_of_ble_eq_true rfl⟩ (fun H locs hW => ?_)
          refine lv_aload_n G.1 G.2.1 dX5_isFree_50 rfl (lv_at hl 1 rfl) ?_
          refine lv_iload G.1 G.2.1 dX5_isFree_51 (lv_at hl 0 rfl) ?_
          refine lv_bipush (v := (6 : Int32)) G.1 G.2.1 dX5_isFree_53 (by decide) ?_
          obtain ⟨v19, ev19, hf⟩ := ob hf
          refine kc_i (wr := []) (w := wM cy h σ) (w' := wM cy h σ) (n := 2) (As := [.int y12, .int (6 : Int32)]) (C := RX5) G hK hA hW (mX5_of l D cy h _ n σ y12 (6 : Int32) ev19) (gV q_8_22 q_8_23 q_9_0 q_1_5 q_9_1) ⟨rfl, rfl⟩ (by decide +kernel) ⟨Nat.le_of_ble_eq_true rfl, Nat.le_of_ble_eq_true rfl⟩ (va_recv hK.1 hW.1 (ci := 7) (q0 := 0) rfl rfl) rfl hl.1 rfl (Nat.le_of_ble_eq_true rfl) dX5_isFree_55 ⟨Nat.le_of_ble_eq_true rfl, Nat.le_of_ble_eq_true rfl⟩ (fun H locs hW => ?_)
          refine lv_aload_n G.1 G.2.1 dX5_isFree_58 rfl (lv_at hl 1 rfl) ?_
          refine lv_iload G.1 G.2.1 dX5_isFree_59 (lv_at hl 0 rfl) ?_
          refine lv_iconst (v := (2 : Int32)) G.1 G.2.1 dX5_isFree_61 (by decide) ?_
          obtain ⟨v20, ev20, hf⟩ := ob hf
          refine kc_i (wr := []) (w := wM cy h σ) (w' := wM cy h σ) (n := 2) (As := [.int y12, .int (2 : Int32)]) (C := RX5) G hK hA hW (mX5_of l D cy h _ n σ y12 (2 : Int32) ev20) (gV q_8_22 q_8_23 q_9_0 q_1_5 q_9_1) ⟨rfl, rfl⟩ (by decide +kernel) ⟨Nat.le_of_ble_eq_true rfl, Nat.le_of_ble_eq_true rfl⟩ (va_recv hK.1 hW.1 (ci := 7) (q0 := 0) rfl rfl) rfl hl.1 rfl (Nat.le_of_ble_eq_true rfl) dX5_isFree_62 ⟨Nat.le_of_ble_eq_true rfl, Nat.le_of_ble_eq_true rfl⟩ (fun H locs hW => ?_)
          refine lv_iadd G.1 G.2.1 dX5_isFree_65 ?_
          obtain ⟨v21, ev21, hf⟩ := ob hf
          refine kc_s (n := 8) (As := [.int x1, .int x2, .int x3, .int x4, .int v16, .int v17, .int v18, .int (v19 + v20)]) G hW (mX5_meets l n x1 x2 x3 x4 v16 v17 v18 (v19 + v20) ev21) (gS q_9_23 q_10_0 q_1_5 q_10_1) ⟨rfl, rfl⟩ (by decide +kernel) ⟨Nat.le_of_ble_eq_true rfl, Nat.le_of_ble_eq_true rfl⟩ rfl hl.1 rfl (Nat.le_of_ble_eq_true rfl) dX5_isFree_66 ⟨Nat.le_of_ble_eq_true rfl, Nat.le_of_ble_eq_true rfl⟩ (fun H locs hW => ?_)
          refine lv_if_eq (tgt := 74) G.1 G.2.1 dX5_isFree_69 (by decide) (fun c69 => ?_) (fun c69 => ?_)
          · replace hf := it c69 hf
            refine lv_iinc (v := (y12 + (1 : Int32))) (lv' := [(5, .int (y12 + (1 : Int32))), (0, .ref (h 10)), (1, .int x1), (2, .int x2), (3, .int x3), (4, .int x4)]) G.1 G.2.1 dX5_isFree_74 hl (k := 0) rfl (congrArg (y12 + ·) (by decide)) (by decide) rfl (fun ls hl => ?_)
            refine lv_goto (tgt := 3) G.1 G.2.1 dX5_isFree_77 (by decide) ?_
            exact ih3 _ _ _ _ hf hW (lv_sub hl [0, 1, 2, 3, 4, 5] rfl)
          · replace hf := ie c69 hf
            refine lv_iconst (v := (0 : Int32)) G.1 G.2.1 dX5_isFree_72 (by decide) ?_
            cases hf
            exact k_zret G hr hlk hK hW rfl dX5_isFree_73
  exact L3 _ _ _ _ _ hf hW (lv_sub hl [0, 1, 2, 3, 4, 5] rfl)

set_option maxHeartbeats 4000000 in
set_option maxRecDepth 100000 in
theorem mX5_lowest (l : Launch) (D : va_G) (cy : ClassId) (h : Nat → Nat) (sz n : Nat) (σ : St) (x1 : Int32) (x2 : Int32) (x3 : Int32) {r : Int32} (hf : fX5_lowest n σ x1 x2 x3 = some r) : Mi l yX5_lowest (ws_ yX5_lowest cX5_lowest 5 (some .int)) { frames := 3, cells := 0, slots := 0, locals := 68 } D cy (wM cy h σ) (wM cy h σ) sz [.ref (h 10), .int x1, .int x2, .int x3] r := by
  refine Met.ofW (cc := cX5_lowest) (maxL := 5) (ret := (some .int)) (by decide) rfl ?_
  intro p e s m args below meth c s₁ B hml hv
  obtain ⟨rfl, hsz, hP, hK, hD0⟩ := hv
  subst hsz
  have hts := atoms_spec (ws := ws_ yX5_lowest cX5_lowest 5 (some .int)) B.pre
  have G : CallFix p m c cX5_lowest 5 s _ wA RX5 := ⟨B.exec, B.bytes, hml, findClass_of_methodNamed B.named, fun w h => hts w (List.mem_cons_of_mem _ h)⟩
  have hr := B.returns
  have hlk := B.notSynchronized
  have hW : KW D (va_A (wM cy h σ) s.heap.size) s.heap (wM cy h σ) s.heap [] := ⟨hP, hD0.self, va_S.rf⟩
  have hA : ∀ q, s.heap.size ≤ q → va_A (wM cy h σ) s.heap.size q := fun q h => Or.inr h
  have hl := lv_entry ([.ref (h 10), .int x1, .int x2, .int x3]) (n := 5) (Nat.le_of_ble_eq_true rfl)
  rw [lg_entry_eq]
  generalize (lg_sl ([.ref (h 10), .int x1, .int x2, .int x3]) ++ List.replicate (5 - (lg_sl ([.ref (h 10), .int x1, .int x2, .int x3])).length) Slot.unset).toArray = ls at hl ⊢
  have hl : lv_has ls 5 [(0, .ref (h 10)), (1, .int x1), (2, .int x2), (3, .int x3)] := hl
  unfold fX5_lowest at hf
  refine lv_iconst (v := (0 : Int32)) G.1 G.2.1 dX5_lowest_0 (by decide) ?_
  refine lv_istore (lv' := [(4, .int (0 : Int32)), (0, .ref (h 10)), (1, .int x1), (2, .int x2), (3, .int x3)]) G.1 G.2.1 dX5_lowest_1 hl (by decide) rfl (fun ls hl => ?_)
  have L3 : ∀ (fu : Nat) (y1 : Int32) (H : Heap) (locs : List Loc) (ls : Array Slot), lz1 (fX5_lowest_b3 n σ x1 x2 x3) fu y1 = some r → KW D (va_A (wM cy h σ) s.heap.size) s.heap (wM cy h σ) H locs → lv_has ls 5 [(4, .int y1), (0, .ref (h 10)), (1, .int x1), (2, .int x2), (3, .int x3)] → W p l e (headSpec (ws_ yX5_lowest cX5_lowest 5 (some .int)) { frames := 3, cells := 0, slots := 0, locals := 68 }).room s m (([.ref (h 10), .int x1, .int x2, .int x3] : List Value).toArray) below meth c H locs 0 0 (MQ below (va_Qi (fun (r' : Int32) (_ : Unit) => r' = r) (fun _ => KB D (va_A (wM cy h σ) s.heap.size) (wM cy h σ)) (va_A (wM cy h σ) s.heap.size)) (([.ref (h 10), .int x1, .int x2, .int x3] : List Value).toArray) s 0 0 (va_A (wM cy h σ) s.heap.size)) (F0 m 3 ls []) := by
    intro fu3
    induction fu3 with
    | zero => intro y1 H locs ls hf; cases hf
    | succ fu3 ih3 =>
      intro y1 H locs ls hf hW hl
      rw [lz1_s] at hf
      unfold fX5_lowest_b3 at hf
      refine lv_iload G.1 G.2.1 dX5_lowest_3 (lv_at hl 0 rfl) ?_
      refine lv_bipush (v := (32 : Int32)) G.1 G.2.1 dX5_lowest_5 (by decide) ?_
      refine lv_icmp_ge (tgt := 38) G.1 G.2.1 dX5_lowest_7 (by decide) (fun c7 => ?_) (fun c7 => ?_)
      · replace hf := it c7 hf
        refine lv_iconst (v := (-1 : Int32)) G.1 G.2.1 dX5_lowest_38 (by decide) ?_
        cases hf
        exact k_iret G hr hlk hK hW dX5_lowest_39
      · replace hf := ie c7 hf
        refine lv_aload_n G.1 G.2.1 dX5_lowest_10 rfl (lv_at hl 1 rfl) ?_
        refine lv_iload_n G.1 G.2.1 dX5_lowest_11 rfl (lv_at hl 2 rfl) ?_
        refine lv_iload G.1 G.2.1 dX5_lowest_12 (lv_at hl 0 rfl) ?_
        refine lv_iload_n G.1 G.2.1 dX5_lowest_14 rfl (lv_at hl 3 rfl) ?_
        refine lv_iload_n G.1 G.2.1 dX5_lowest_15 rfl (lv_at hl 3 rfl) ?_
        refine lv_iload_n G.1 G.2.1 dX5_lowest_16 rfl (lv_at hl 4 rfl) ?_
        refine lv_iadd G.1 G.2.1 dX5_lowest_17 ?_
        obtain ⟨v3, ev3, hf⟩ := ob hf
        refine kc_i (wr := []) (w := wM cy h σ) (w' := wM cy h σ) (n := 4) (As := [.int x1, .int y1, .int x2, .int (x2 + x3)]) (C := RX5) G hK hA hW (mX5_isFree l D cy h _ n σ x1 y1 x2 (x2 + x3) ev3) (gV q_9_19 q_9_20 q_9_21 q_1_5 q_9_22) ⟨rfl, rfl⟩ (by decide +kernel) ⟨Nat.le_of_ble_eq_true rfl, Nat.le_of_ble_eq_true rfl⟩ (va_recv hK.1 hW.1 (ci := 7) (q0 := 0) rfl rfl) rfl hl.1 rfl (Nat.le_of_ble_eq_true rfl) dX5_lowest_18 ⟨Nat.le_of_ble_eq_true rfl, Nat.le_of_ble_eq_true rfl⟩ (fun H locs hW => ?_)
        refine lv_if_eq (tgt := 27) G.1 G.2.1 dX5_lowest_21 (by decide) (fun c21 => ?_) (fun c21 => ?_)
        · replace hf := it c21 hf
          refine lv_iload G.1 G.2.1 dX5_lowest_27 (lv_at hl 0 rfl) ?_
          refine lv_iconst (v := (1 : Int32)) G.1 G.2.1 dX5_lowest_29 (by decide) ?_
          refine lv_iload_n G.1 G.2.1 dX5_lowest_30 rfl (lv_at hl 2 rfl) ?_
          refine lv_ishl G.1 G.2.1 dX5_lowest_31 ?_
          refine lv_iadd G.1 G.2.1 dX5_lowest_32 ?_
          refine lv_istore (lv' := [(4, .int (y1 + ((1 : Int32) <<< (x1 &&& 31)))), (0, .ref (h 10)), (1, .int x1), (2, .int x2), (3, .int x3)]) G.1 G.2.1 dX5_lowest_33 hl (by decide) rfl (fun ls hl => ?_)
          refine lv_goto (tgt := 3) G.1 G.2.1 dX5_lowest_35 (by decide) ?_
          exact ih3 _ _ _ _ hf hW (lv_sub hl [0, 1, 2, 3, 4] rfl)
        · replace hf := ie c21 hf
          refine lv_iload G.1 G.2.1 dX5_lowest_24 (lv_at hl 0 rfl) ?_
          cases hf
          exact k_iret G hr hlk hK hW dX5_lowest_26
  exact L3 _ _ _ _ _ hf hW (lv_sub hl [0, 1, 2, 3, 4] rfl)

set_option maxHeartbeats 4000000 in
set_option maxRecDepth 100000 in
theorem mX5_earliest (l : Launch) (D : va_G) (cy : ClassId) (h : Nat → Nat) (sz n : Nat) (σ : St) (x1 : Int32) (x2 : Int32) {r : Int32} (hf : fX5_earliest n σ x1 x2 = some r) : Mi l yX5_earliest (ws_ yX5_earliest cX5_earliest 7 (some .int)) { frames := 4, cells := 0, slots := 0, locals := 92 } D cy (wM cy h σ) (wM cy h σ) sz [.ref (h 10), .int x1, .int x2] r := by
  refine Met.ofW (cc := cX5_earliest) (maxL := 7) (ret := (some .int)) (by decide) rfl ?_
  intro p e s m args below meth c s₁ B hml hv
  obtain ⟨rfl, hsz, hP, hK, hD0⟩ := hv
  subst hsz
  have hts := atoms_spec (ws := ws_ yX5_earliest cX5_earliest 7 (some .int)) B.pre
  have G : CallFix p m c cX5_earliest 7 s _ wA RX5 := ⟨B.exec, B.bytes, hml, findClass_of_methodNamed B.named, fun w h => hts w (List.mem_cons_of_mem _ h)⟩
  have hr := B.returns
  have hlk := B.notSynchronized
  have hW : KW D (va_A (wM cy h σ) s.heap.size) s.heap (wM cy h σ) s.heap [] := ⟨hP, hD0.self, va_S.rf⟩
  have hA : ∀ q, s.heap.size ≤ q → va_A (wM cy h σ) s.heap.size q := fun q h => Or.inr h
  have hl := lv_entry ([.ref (h 10), .int x1, .int x2]) (n := 7) (Nat.le_of_ble_eq_true rfl)
  rw [lg_entry_eq]
  generalize (lg_sl ([.ref (h 10), .int x1, .int x2]) ++ List.replicate (7 - (lg_sl ([.ref (h 10), .int x1, .int x2])).length) Slot.unset).toArray = ls at hl ⊢
  have hl : lv_has ls 7 [(0, .ref (h 10)), (1, .int x1), (2, .int x2)] := hl
  unfold fX5_earliest at hf
  refine lv_ldc G.1 G.2.1 G.2.2.2.1 (G.2.2.2.2 _ q_9_6) dX5_earliest_0 ?_
  refine lv_istore_n (lv' := [(3, .int (2147483647 : Int32)), (0, .ref (h 10)), (1, .int x1), (2, .int x2)]) G.1 G.2.1 dX5_earliest_2 rfl hl (by decide) rfl (fun ls hl => ?_)
  refine lv_iconst (v := (-1 : Int32)) G.1 G.2.1 dX5_earliest_3 (by decide) ?_
  refine lv_istore (lv' := [(4, .int (-1 : Int32)), (3, .int (2147483647 : Int32)), (0, .ref (h 10)), (1, .int x1), (2, .int x2)]) G.1 G.2.1 dX5_earliest_4 hl (by decide) rfl (fun ls hl => ?_)
  have L6 : ∀ (fu : Nat) (y1 : Int32) (y2 : Int32) (H : Heap) (locs : List Loc) (ls : Array Slot), lz2 (fX5_earliest_b6 n σ x1 x2) fu y1 y2 = some r → KW D (va_A (wM cy h σ) s.heap.size) s.heap (wM cy h σ) H locs → lv_has ls 7 [(4, .int y1), (3, .int y2), (0, .ref (h 10)), (1, .int x1), (2, .int x2)] → W p l e (headSpec (ws_ yX5_earliest cX5_earliest 7 (some .int)) { frames := 4, cells := 0, slots := 0, locals := 92 }).room s m (([.ref (h 10), .int x1, .int x2] : List Value).toArray) below meth c H locs 0 0 (MQ below (va_Qi (fun (r' : Int32) (_ : Unit) => r' = r) (fun _ => KB D (va_A (wM cy h σ) s.heap.size) (wM cy h σ)) (va_A (wM cy h σ) s.heap.size)) (([.ref (h 10), .int x1, .int x2] : List Value).toArray) s 0 0 (va_A (wM cy h σ) s.heap.size)) (F0 m 6 ls []) := by
    intro fu6
    induction fu6 with
    | zero => intro y1 y2 H locs ls hf; cases hf
    | succ fu6 ih6 =>
      intro y1 y2 H locs ls hf hW hl
      rw [lz2_s] at hf
      unfold fX5_earliest_b6 at hf
      refine lv_iload G.1 G.2.1 dX5_earliest_6 (lv_at hl 0 rfl) ?_
      refine lv_aload_n G.1 G.2.1 dX5_earliest_8 rfl (lv_at hl 2 rfl) ?_
      refine k_get G inlX5 hK hW 0 rfl rfl 0 (by decide) q_4_6 rfl dX5_earliest_9 ?_
      refine lv_iconst (v := (1 : Int32)) G.1 G.2.1 dX5_earliest_12 (by decide) ?_
      obtain ⟨v4, ev4, hf⟩ := ob hf
      refine k_ald G hK hW 1 rfl ev4 dX5_earliest_13 ?_
      refine lv_aload_n G.1 G.2.1 dX5_earliest_14 rfl (lv_at hl 2 rfl) ?_
      refine k_get G inlX5 hK hW 0 rfl rfl 0 (by decide) q_4_6 rfl dX5_earliest_15 ?_
      refine lv_iconst (v := (2 : Int32)) G.1 G.2.1 dX5_earliest_18 (by decide) ?_
      obtain ⟨v5, ev5, hf⟩ := ob hf
      refine k_ald G hK hW 1 rfl ev5 dX5_earliest_19 ?_
      refine lv_iadd G.1 G.2.1 dX5_earliest_20 ?_
      refine lv_icmp_ge (tgt := 159) G.1 G.2.1 dX5_earliest_21 (by decide) (fun c21 => ?_) (fun c21 => ?_)
      · replace hf := it c21 hf
        refine lv_iload_n G.1 G.2.1 dX5_earliest_159 rfl (lv_at hl 1 rfl) ?_
        cases hf
        exact k_iret G hr hlk hK hW dX5_earliest_160
      · replace hf := ie c21 hf
        refine lv_aload_n G.1 G.2.1 dX5_earliest_24 rfl (lv_at hl 2 rfl) ?_
        refine k_get G inlX5 hK hW 0 rfl rfl 0 (by decide) q_4_6 rfl dX5_earliest_25 ?_
        refine lv_iconst (v := (0 : Int32)) G.1 G.2.1 dX5_earliest_28 (by decide) ?_
        obtain ⟨v6, ev6, hf⟩ := ob hf
        refine k_ald G hK hW 1 rfl ev6 dX5_earliest_29 ?_
        refine lv_istore (lv' := [(5, .int v6), (4, .int y1), (3, .int y2), (0, .ref (h 10)), (1, .int x1), (2, .int x2)]) G.1 G.2.1 dX5_earliest_30 hl (by decide) rfl (fun ls hl => ?_)
        refine lv_iload G.1 G.2.1 dX5_earliest_32 (lv_at hl 1 rfl) ?_
        refine lv_aload_n G.1 G.2.1 dX5_earliest_34 rfl (lv_at hl 3 rfl) ?_
        refine k_get G inlX5 hK hW 0 rfl rfl 0 (by decide) q_4_6 rfl dX5_earliest_35 ?_
        refine lv_iconst (v := (1 : Int32)) G.1 G.2.1 dX5_earliest_38 (by decide) ?_
        obtain ⟨v7, ev7, hf⟩ := ob hf
        refine k_ald G hK hW 1 rfl ev7 dX5_earliest_39 ?_
        refine lv_icmp_lt (tgt := 87) G.1 G.2.1 dX5_earliest_40 (by decide) (fun c40 => ?_) (fun c40 => ?_)
        · replace hf := it c40 hf
          refine lv_iload G.1 G.2.1 dX5_earliest_87 (lv_at hl 1 rfl) ?_
          refine lv_if_lt (tgt := 122) G.1 G.2.1 dX5_earliest_89 (by decide) (fun c89 => ?_) (fun c89 => ?_)
          · replace hf := it c89 hf
            refine lv_iload G.1 G.2.1 dX5_earliest_122 (lv_at hl 0 rfl) ?_
            refine lv_aload_n G.1 G.2.1 dX5_earliest_124 rfl (lv_at hl 3 rfl) ?_
            refine k_get G inlX5 hK hW 0 rfl rfl 0 (by decide) q_4_6 rfl dX5_earliest_125 ?_
            refine lv_iconst (v := (0 : Int32)) G.1 G.2.1 dX5_earliest_128 (by decide) ?_
            obtain ⟨v8, ev8, hf⟩ := ob hf
            refine k_ald G hK hW 1 rfl ev8 dX5_earliest_129 ?_
            refine lv_icmp_lt (tgt := 153) G.1 G.2.1 dX5_earliest_130 (by decide) (fun c130 => ?_) (fun c130 => ?_)
            · replace hf := it c130 hf
              refine lv_iinc (v := (y1 + (1 : Int32))) (lv' := [(4, .int (y1 + (1 : Int32))), (5, .int v6), (3, .int y2), (0, .ref (h 10)), (1, .int x1), (2, .int x2)]) G.1 G.2.1 dX5_earliest_153 hl (k := 1) rfl (congrArg (y1 + ·) (by decide)) (by decide) rfl (fun ls hl => ?_)
              refine lv_goto (tgt := 6) G.1 G.2.1 dX5_earliest_156 (by decide) ?_
              exact ih6 _ _ _ _ _ hf hW (lv_sub hl [0, 2, 3, 4, 5] rfl)
            · replace hf := ie c130 hf
              refine lv_iload G.1 G.2.1 dX5_earliest_133 (lv_at hl 0 rfl) ?_
              refine lv_iload_n G.1 G.2.1 dX5_earliest_135 rfl (lv_at hl 2 rfl) ?_
              refine lv_icmp_ge (tgt := 153) G.1 G.2.1 dX5_earliest_136 (by decide) (fun c136 => ?_) (fun c136 => ?_)
              · replace hf := it c136 hf
                refine lv_iinc (v := (y1 + (1 : Int32))) (lv' := [(4, .int (y1 + (1 : Int32))), (5, .int v6), (3, .int y2), (0, .ref (h 10)), (1, .int x1), (2, .int x2)]) G.1 G.2.1 dX5_earliest_153 hl (k := 1) rfl (congrArg (y1 + ·) (by decide)) (by decide) rfl (fun ls hl => ?_)
                refine lv_goto (tgt := 6) G.1 G.2.1 dX5_earliest_156 (by decide) ?_
                exact ih6 _ _ _ _ _ hf hW (lv_sub hl [0, 2, 3, 4, 5] rfl)
              · replace hf := ie c136 hf
                refine lv_aload_n G.1 G.2.1 dX5_earliest_139 rfl (lv_at hl 3 rfl) ?_
                refine lv_iload_n G.1 G.2.1 dX5_earliest_140 rfl (lv_at hl 4 rfl) ?_
                refine lv_iload G.1 G.2.1 dX5_earliest_141 (lv_at hl 0 rfl) ?_
                refine lv_iload_n G.1 G.2.1 dX5_earliest_143 rfl (lv_at hl 5 rfl) ?_
                obtain ⟨v9, ev9, hf⟩ := ob hf
                refine kc_i (wr := []) (w := wM cy h σ) (w' := wM cy h σ) (n := 3) (As := [.int x1, .int v6, .int x2]) (C := RX5) G hK hA hW (mX5_lowest l D cy h _ n σ x1 v6 x2 ev9) (gV q_9_15 q_9_16 q_9_17 q_1_5 q_9_18) ⟨rfl, rfl⟩ (by decide +kernel) ⟨Nat.le_of_ble_eq_true rfl, Nat.le_of_ble_eq_true rfl⟩ (va_recv hK.1 hW.1 (ci := 7) (q0 := 0) rfl rfl) rfl hl.1 rfl (Nat.le_of_ble_eq_true rfl) dX5_earliest_144 ⟨Nat.le_of_ble_eq_true rfl, Nat.le_of_ble_eq_true rfl⟩ (fun H locs hW => ?_)
                refine lv_if_lt (tgt := 153) G.1 G.2.1 dX5_earliest_147 (by decide) (fun c147 => ?_) (fun c147 => ?_)
                · replace hf := it c147 hf
                  refine lv_iinc (v := (y1 + (1 : Int32))) (lv' := [(4, .int (y1 + (1 : Int32))), (5, .int v6), (3, .int y2), (0, .ref (h 10)), (1, .int x1), (2, .int x2)]) G.1 G.2.1 dX5_earliest_153 hl (k := 1) rfl (congrArg (y1 + ·) (by decide)) (by decide) rfl (fun ls hl => ?_)
                  refine lv_goto (tgt := 6) G.1 G.2.1 dX5_earliest_156 (by decide) ?_
                  exact ih6 _ _ _ _ _ hf hW (lv_sub hl [0, 2, 3, 4, 5] rfl)
                · replace hf := ie c147 hf
                  refine lv_iload G.1 G.2.1 dX5_earliest_150 (lv_at hl 0 rfl) ?_
                  refine lv_istore_n (lv' := [(3, .int v6), (5, .int v6), (4, .int y1), (0, .ref (h 10)), (1, .int x1), (2, .int x2)]) G.1 G.2.1 dX5_earliest_152 rfl hl (by decide) rfl (fun ls hl => ?_)
                  refine lv_iinc (v := (y1 + (1 : Int32))) (lv' := [(4, .int (y1 + (1 : Int32))), (3, .int v6), (5, .int v6), (0, .ref (h 10)), (1, .int x1), (2, .int x2)]) G.1 G.2.1 dX5_earliest_153 hl (k := 2) rfl (congrArg (y1 + ·) (by decide)) (by decide) rfl (fun ls hl => ?_)
                  refine lv_goto (tgt := 6) G.1 G.2.1 dX5_earliest_156 (by decide) ?_
                  exact ih6 _ _ _ _ _ hf hW (lv_sub hl [0, 1, 3, 4, 5] rfl)
          · replace hf := ie c89 hf
            refine lv_aload_n G.1 G.2.1 dX5_earliest_92 rfl (lv_at hl 3 rfl) ?_
            refine lv_iload G.1 G.2.1 dX5_earliest_93 (lv_at hl 1 rfl) ?_
            obtain ⟨v10, ev10, hf⟩ := ob hf
            refine kc_i (wr := []) (w := wM cy h σ) (w' := wM cy h σ) (n := 1) (As := [.int y1]) (C := RX5) G hK hA hW (mX5_isAllocated l D cy h _ n σ y1 ev10) (gV q_9_11 q_9_12 q_9_13 q_1_5 q_9_14) ⟨rfl, rfl⟩ (by decide +kernel) ⟨Nat.le_of_ble_eq_true rfl, Nat.le_of_ble_eq_true rfl⟩ (va_recv hK.1 hW.1 (ci := 7) (q0 := 0) rfl rfl) rfl hl.1 rfl (Nat.le_of_ble_eq_true rfl) dX5_earliest_95 ⟨Nat.le_of_ble_eq_true rfl, Nat.le_of_ble_eq_true rfl⟩ (fun H locs hW => ?_)
            refine lv_if_ne (tgt := 104) G.1 G.2.1 dX5_earliest_98 (by decide) (fun c98 => ?_) (fun c98 => ?_)
            · replace hf := ie c98 hf
              refine lv_aload_n G.1 G.2.1 dX5_earliest_104 rfl (lv_at hl 3 rfl) ?_
              refine lv_iload G.1 G.2.1 dX5_earliest_105 (lv_at hl 1 rfl) ?_
              refine lv_bipush (v := (6 : Int32)) G.1 G.2.1 dX5_earliest_107 (by decide) ?_
              obtain ⟨v11, ev11, hf⟩ := ob hf
              refine kc_i (wr := []) (w := wM cy h σ) (w' := wM cy h σ) (n := 2) (As := [.int y1, .int (6 : Int32)]) (C := RX5) G hK hA hW (mX5_of l D cy h _ n σ y1 (6 : Int32) ev11) (gV q_8_22 q_8_23 q_9_0 q_1_5 q_9_1) ⟨rfl, rfl⟩ (by decide +kernel) ⟨Nat.le_of_ble_eq_true rfl, Nat.le_of_ble_eq_true rfl⟩ (va_recv hK.1 hW.1 (ci := 7) (q0 := 0) rfl rfl) rfl hl.1 rfl (Nat.le_of_ble_eq_true rfl) dX5_earliest_109 ⟨Nat.le_of_ble_eq_true rfl, Nat.le_of_ble_eq_true rfl⟩ (fun H locs hW => ?_)
              refine lv_aload_n G.1 G.2.1 dX5_earliest_112 rfl (lv_at hl 3 rfl) ?_
              refine lv_iload G.1 G.2.1 dX5_earliest_113 (lv_at hl 1 rfl) ?_
              refine lv_iconst (v := (2 : Int32)) G.1 G.2.1 dX5_earliest_115 (by decide) ?_
              obtain ⟨v12, ev12, hf⟩ := ob hf
              refine kc_i (wr := []) (w := wM cy h σ) (w' := wM cy h σ) (n := 2) (As := [.int y1, .int (2 : Int32)]) (C := RX5) G hK hA hW (mX5_of l D cy h _ n σ y1 (2 : Int32) ev12) (gV q_8_22 q_8_23 q_9_0 q_1_5 q_9_1) ⟨rfl, rfl⟩ (by decide +kernel) ⟨Nat.le_of_ble_eq_true rfl, Nat.le_of_ble_eq_true rfl⟩ (va_recv hK.1 hW.1 (ci := 7) (q0 := 0) rfl rfl) rfl hl.1 rfl (Nat.le_of_ble_eq_true rfl) dX5_earliest_116 ⟨Nat.le_of_ble_eq_true rfl, Nat.le_of_ble_eq_true rfl⟩ (fun H locs hW => ?_)
              refine lv_iadd G.1 G.2.1 dX5_earliest_119 ?_
              refine lv_istore (lv' := [(5, .int (v11 + v12)), (4, .int y1), (3, .int y2), (0, .ref (h 10)), (1, .int x1), (2, .int x2)]) G.1 G.2.1 dX5_earliest_120 hl (by decide) rfl (fun ls hl => ?_)
              refine lv_iload G.1 G.2.1 dX5_earliest_122 (lv_at hl 0 rfl) ?_
              refine lv_aload_n G.1 G.2.1 dX5_earliest_124 rfl (lv_at hl 3 rfl) ?_
              refine k_get G inlX5 hK hW 0 rfl rfl 0 (by decide) q_4_6 rfl dX5_earliest_125 ?_
              refine lv_iconst (v := (0 : Int32)) G.1 G.2.1 dX5_earliest_128 (by decide) ?_
              obtain ⟨v13, ev13, hf⟩ := ob hf
              refine k_ald G hK hW 1 rfl ev13 dX5_earliest_129 ?_
              refine lv_icmp_lt (tgt := 153) G.1 G.2.1 dX5_earliest_130 (by decide) (fun c130 => ?_) (fun c130 => ?_)
              · replace hf := it c130 hf
                refine lv_iinc (v := (y1 + (1 : Int32))) (lv' := [(4, .int (y1 + (1 : Int32))), (5, .int (v11 + v12)), (3, .int y2), (0, .ref (h 10)), (1, .int x1), (2, .int x2)]) G.1 G.2.1 dX5_earliest_153 hl (k := 1) rfl (congrArg (y1 + ·) (by decide)) (by decide) rfl (fun ls hl => ?_)
                refine lv_goto (tgt := 6) G.1 G.2.1 dX5_earliest_156 (by decide) ?_
                exact ih6 _ _ _ _ _ hf hW (lv_sub hl [0, 2, 3, 4, 5] rfl)
              · replace hf := ie c130 hf
                refine lv_iload G.1 G.2.1 dX5_earliest_133 (lv_at hl 0 rfl) ?_
                refine lv_iload_n G.1 G.2.1 dX5_earliest_135 rfl (lv_at hl 2 rfl) ?_
                refine lv_icmp_ge (tgt := 153) G.1 G.2.1 dX5_earliest_136 (by decide) (fun c136 => ?_) (fun c136 => ?_)
                · replace hf := it c136 hf
                  refine lv_iinc (v := (y1 + (1 : Int32))) (lv' := [(4, .int (y1 + (1 : Int32))), (5, .int (v11 + v12)), (3, .int y2), (0, .ref (h 10)), (1, .int x1), (2, .int x2)]) G.1 G.2.1 dX5_earliest_153 hl (k := 1) rfl (congrArg (y1 + ·) (by decide)) (by decide) rfl (fun ls hl => ?_)
                  refine lv_goto (tgt := 6) G.1 G.2.1 dX5_earliest_156 (by decide) ?_
                  exact ih6 _ _ _ _ _ hf hW (lv_sub hl [0, 2, 3, 4, 5] rfl)
                · replace hf := ie c136 hf
                  refine lv_aload_n G.1 G.2.1 dX5_earliest_139 rfl (lv_at hl 3 rfl) ?_
                  refine lv_iload_n G.1 G.2.1 dX5_earliest_140 rfl (lv_at hl 4 rfl) ?_
                  refine lv_iload G.1 G.2.1 dX5_earliest_141 (lv_at hl 0 rfl) ?_
                  refine lv_iload_n G.1 G.2.1 dX5_earliest_143 rfl (lv_at hl 5 rfl) ?_
                  obtain ⟨v14, ev14, hf⟩ := ob hf
                  refine kc_i (wr := []) (w := wM cy h σ) (w' := wM cy h σ) (n := 3) (As := [.int x1, .int (v11 + v12), .int x2]) (C := RX5) G hK hA hW (mX5_lowest l D cy h _ n σ x1 (v11 + v12) x2 ev14) (gV q_9_15 q_9_16 q_9_17 q_1_5 q_9_18) ⟨rfl, rfl⟩ (by decide +kernel) ⟨Nat.le_of_ble_eq_true rfl, Nat.le_of_ble_eq_true rfl⟩ (va_recv hK.1 hW.1 (ci := 7) (q0 := 0) rfl rfl) rfl hl.1 rfl (Nat.le_of_ble_eq_true rfl) dX5_earliest_144 ⟨Nat.le_of_ble_eq_true rfl, Nat.le_of_ble_eq_true rfl⟩ (fun H locs hW => ?_)
                  refine lv_if_lt (tgt := 153) G.1 G.2.1 dX5_earliest_147 (by decide) (fun c147 => ?_) (fun c147 => ?_)
                  · replace hf := it c147 hf
                    refine lv_iinc (v := (y1 + (1 : Int32))) (lv' := [(4, .int (y1 + (1 : Int32))), (5, .int (v11 + v12)), (3, .int y2), (0, .ref (h 10)), (1, .int x1), (2, .int x2)]) G.1 G.2.1 dX5_earliest_153 hl (k := 1) rfl (congrArg (y1 + ·) (by decide)) (by decide) rfl (fun ls hl => ?_)
                    refine lv_goto (tgt := 6) G.1 G.2.1 dX5_earliest_156 (by decide) ?_
                    exact ih6 _ _ _ _ _ hf hW (lv_sub hl [0, 2, 3, 4, 5] rfl)
                  · replace hf := ie c147 hf
                    refine lv_iload G.1 G.2.1 dX5_earliest_150 (lv_at hl 0 rfl) ?_
                    refine lv_istore_n (lv' := [(3, .int (v11 + v12)), (5, .int (v11 + v12)), (4, .int y1), (0, .ref (h 10)), (1, .int x1), (2, .int x2)]) G.1 G.2.1 dX5_earliest_152 rfl hl (by decide) rfl (fun ls hl => ?_)
                    refine lv_iinc (v := (y1 + (1 : Int32))) (lv' := [(4, .int (y1 + (1 : Int32))), (3, .int (v11 + v12)), (5, .int (v11 + v12)), (0, .ref (h 10)), (1, .int x1), (2, .int x2)]) G.1 G.2.1 dX5_earliest_153 hl (k := 2) rfl (congrArg (y1 + ·) (by decide)) (by decide) rfl (fun ls hl => ?_)
                    refine lv_goto (tgt := 6) G.1 G.2.1 dX5_earliest_156 (by decide) ?_
                    exact ih6 _ _ _ _ _ hf hW (lv_sub hl [0, 1, 3, 4, 5] rfl)
            · replace hf := it c98 hf
              refine lv_goto (tgt := 153) G.1 G.2.1 dX5_earliest_101 (by decide) ?_
              refine lv_iinc (v := (y1 + (1 : Int32))) (lv' := [(4, .int (y1 + (1 : Int32))), (5, .int v6), (3, .int y2), (0, .ref (h 10)), (1, .int x1), (2, .int x2)]) G.1 G.2.1 dX5_earliest_153 hl (k := 1) rfl (congrArg (y1 + ·) (by decide)) (by decide) rfl (fun ls hl => ?_)
              refine lv_goto (tgt := 6) G.1 G.2.1 dX5_earliest_156 (by decide) ?_
              exact ih6 _ _ _ _ _ hf hW (lv_sub hl [0, 2, 3, 4, 5] rfl)
        · replace hf := ie c40 hf
          refine lv_iload G.1 G.2.1 dX5_earliest_43 (lv_at hl 1 rfl) ?_
          refine lv_aload_n G.1 G.2.1 dX5_earliest_45 rfl (lv_at hl 3 rfl) ?_
          refine k_get G inlX5 hK hW 0 rfl rfl 0 (by decide) q_4_6 rfl dX5_earliest_46 ?_
          refine lv_iconst (v := (1 : Int32)) G.1 G.2.1 dX5_earliest_49 (by decide) ?_
          obtain ⟨v15, ev15, hf⟩ := ob hf
          refine k_ald G hK hW 1 rfl ev15 dX5_earliest_50 ?_
          refine lv_isub G.1 G.2.1 dX5_earliest_51 ?_
          refine lv_istore (lv' := [(6, .int (y1 - v15)), (5, .int v6), (4, .int y1), (3, .int y2), (0, .ref (h 10)), (1, .int x1), (2, .int x2)]) G.1 G.2.1 dX5_earliest_52 hl (by decide) rfl (fun ls hl => ?_)
          refine lv_aload_n G.1 G.2.1 dX5_earliest_54 rfl (lv_at hl 4 rfl) ?_
          refine lv_iload G.1 G.2.1 dX5_earliest_55 (lv_at hl 0 rfl) ?_
          refine lv_iconst (v := (3 : Int32)) G.1 G.2.1 dX5_earliest_57 (by decide) ?_
          obtain ⟨v16, ev16, hf⟩ := ob hf
          refine kc_i (wr := []) (w := wM cy h σ) (w' := wM cy h σ) (n := 2) (As := [.int (y1 - v15), .int (3 : Int32)]) (C := RX5) G hK hA hW (mX5_reserved l D cy h _ n σ (y1 - v15) (3 : Int32) ev16) (gV q_9_7 q_9_8 q_9_9 q_1_5 q_9_10) ⟨rfl, rfl⟩ (by decide +kernel) ⟨Nat.le_of_ble_eq_true rfl, Nat.le_of_ble_eq_true rfl⟩ (va_recv hK.1 hW.1 (ci := 7) (q0 := 0) rfl rfl) rfl hl.1 rfl (Nat.le_of_ble_eq_true rfl) dX5_earliest_58 ⟨Nat.le_of_ble_eq_true rfl, Nat.le_of_ble_eq_true rfl⟩ (fun H locs hW => ?_)
          refine lv_if_ne (tgt := 67) G.1 G.2.1 dX5_earliest_61 (by decide) (fun c61 => ?_) (fun c61 => ?_)
          · replace hf := ie c61 hf
            refine lv_aload_n G.1 G.2.1 dX5_earliest_67 rfl (lv_at hl 4 rfl) ?_
            refine lv_iload G.1 G.2.1 dX5_earliest_68 (lv_at hl 0 rfl) ?_
            refine lv_iconst (v := (2 : Int32)) G.1 G.2.1 dX5_earliest_70 (by decide) ?_
            obtain ⟨v17, ev17, hf⟩ := ob hf
            refine kc_i (wr := []) (w := wM cy h σ) (w' := wM cy h σ) (n := 2) (As := [.int (y1 - v15), .int (2 : Int32)]) (C := RX5) G hK hA hW (mX5_reserved l D cy h _ n σ (y1 - v15) (2 : Int32) ev17) (gV q_9_7 q_9_8 q_9_9 q_1_5 q_9_10) ⟨rfl, rfl⟩ (by decide +kernel) ⟨Nat.le_of_ble_eq_true rfl, Nat.le_of_ble_eq_true rfl⟩ (va_recv hK.1 hW.1 (ci := 7) (q0 := 0) rfl rfl) rfl hl.1 rfl (Nat.le_of_ble_eq_true rfl) dX5_earliest_71 ⟨Nat.le_of_ble_eq_true rfl, Nat.le_of_ble_eq_true rfl⟩ (fun H locs hW => ?_)
            refine lv_aload_n G.1 G.2.1 dX5_earliest_74 rfl (lv_at hl 4 rfl) ?_
            refine lv_iload G.1 G.2.1 dX5_earliest_75 (lv_at hl 0 rfl) ?_
            refine lv_iconst (v := (3 : Int32)) G.1 G.2.1 dX5_earliest_77 (by decide) ?_
            obtain ⟨v18, ev18, hf⟩ := ob hf
            refine kc_i (wr := []) (w := wM cy h σ) (w' := wM cy h σ) (n := 2) (As := [.int (y1 - v15), .int (3 : Int32)]) (C := RX5) G hK hA hW (mX5_reserved l D cy h _ n σ (y1 - v15) (3 : Int32) ev18) (gV q_9_7 q_9_8 q_9_9 q_1_5 q_9_10) ⟨rfl, rfl⟩ (by decide +kernel) ⟨Nat.le_of_ble_eq_true rfl, Nat.le_of_ble_eq_true rfl⟩ (va_recv hK.1 hW.1 (ci := 7) (q0 := 0) rfl rfl) rfl hl.1 rfl (Nat.le_of_ble_eq_true rfl) dX5_earliest_78 ⟨Nat.le_of_ble_eq_true rfl, Nat.le_of_ble_eq_true rfl⟩ (fun H locs hW => ?_)
            refine lv_iadd G.1 G.2.1 dX5_earliest_81 ?_
            refine lv_istore (lv' := [(5, .int (v17 + v18)), (6, .int (y1 - v15)), (4, .int y1), (3, .int y2), (0, .ref (h 10)), (1, .int x1), (2, .int x2)]) G.1 G.2.1 dX5_earliest_82 hl (by decide) rfl (fun ls hl => ?_)
            refine lv_goto (tgt := 122) G.1 G.2.1 dX5_earliest_84 (by decide) ?_
            refine lv_iload G.1 G.2.1 dX5_earliest_122 (lv_at hl 0 rfl) ?_
            refine lv_aload_n G.1 G.2.1 dX5_earliest_124 rfl (lv_at hl 4 rfl) ?_
            refine k_get G inlX5 hK hW 0 rfl rfl 0 (by decide) q_4_6 rfl dX5_earliest_125 ?_
            refine lv_iconst (v := (0 : Int32)) G.1 G.2.1 dX5_earliest_128 (by decide) ?_
            obtain ⟨v19, ev19, hf⟩ := ob hf
            refine k_ald G hK hW 1 rfl ev19 dX5_earliest_129 ?_
            refine lv_icmp_lt (tgt := 153) G.1 G.2.1 dX5_earliest_130 (by decide) (fun c130 => ?_) (fun c130 => ?_)
            · replace hf := it c130 hf
              refine lv_iinc (v := (y1 + (1 : Int32))) (lv' := [(4, .int (y1 + (1 : Int32))), (5, .int (v17 + v18)), (6, .int (y1 - v15)), (3, .int y2), (0, .ref (h 10)), (1, .int x1), (2, .int x2)]) G.1 G.2.1 dX5_earliest_153 hl (k := 2) rfl (congrArg (y1 + ·) (by decide)) (by decide) rfl (fun ls hl => ?_)
              refine lv_goto (tgt := 6) G.1 G.2.1 dX5_earliest_156 (by decide) ?_
              exact ih6 _ _ _ _ _ hf hW (lv_sub hl [0, 3, 4, 5, 6] rfl)
            · replace hf := ie c130 hf
              refine lv_iload G.1 G.2.1 dX5_earliest_133 (lv_at hl 0 rfl) ?_
              refine lv_iload_n G.1 G.2.1 dX5_earliest_135 rfl (lv_at hl 3 rfl) ?_
              refine lv_icmp_ge (tgt := 153) G.1 G.2.1 dX5_earliest_136 (by decide) (fun c136 => ?_) (fun c136 => ?_)
              · replace hf := it c136 hf
                refine lv_iinc (v := (y1 + (1 : Int32))) (lv' := [(4, .int (y1 + (1 : Int32))), (5, .int (v17 + v18)), (6, .int (y1 - v15)), (3, .int y2), (0, .ref (h 10)), (1, .int x1), (2, .int x2)]) G.1 G.2.1 dX5_earliest_153 hl (k := 2) rfl (congrArg (y1 + ·) (by decide)) (by decide) rfl (fun ls hl => ?_)
                refine lv_goto (tgt := 6) G.1 G.2.1 dX5_earliest_156 (by decide) ?_
                exact ih6 _ _ _ _ _ hf hW (lv_sub hl [0, 3, 4, 5, 6] rfl)
              · replace hf := ie c136 hf
                refine lv_aload_n G.1 G.2.1 dX5_earliest_139 rfl (lv_at hl 4 rfl) ?_
                refine lv_iload_n G.1 G.2.1 dX5_earliest_140 rfl (lv_at hl 5 rfl) ?_
                refine lv_iload G.1 G.2.1 dX5_earliest_141 (lv_at hl 0 rfl) ?_
                refine lv_iload_n G.1 G.2.1 dX5_earliest_143 rfl (lv_at hl 6 rfl) ?_
                obtain ⟨v20, ev20, hf⟩ := ob hf
                refine kc_i (wr := []) (w := wM cy h σ) (w' := wM cy h σ) (n := 3) (As := [.int x1, .int (v17 + v18), .int x2]) (C := RX5) G hK hA hW (mX5_lowest l D cy h _ n σ x1 (v17 + v18) x2 ev20) (gV q_9_15 q_9_16 q_9_17 q_1_5 q_9_18) ⟨rfl, rfl⟩ (by decide +kernel) ⟨Nat.le_of_ble_eq_true rfl, Nat.le_of_ble_eq_true rfl⟩ (va_recv hK.1 hW.1 (ci := 7) (q0 := 0) rfl rfl) rfl hl.1 rfl (Nat.le_of_ble_eq_true rfl) dX5_earliest_144 ⟨Nat.le_of_ble_eq_true rfl, Nat.le_of_ble_eq_true rfl⟩ (fun H locs hW => ?_)
                refine lv_if_lt (tgt := 153) G.1 G.2.1 dX5_earliest_147 (by decide) (fun c147 => ?_) (fun c147 => ?_)
                · replace hf := it c147 hf
                  refine lv_iinc (v := (y1 + (1 : Int32))) (lv' := [(4, .int (y1 + (1 : Int32))), (5, .int (v17 + v18)), (6, .int (y1 - v15)), (3, .int y2), (0, .ref (h 10)), (1, .int x1), (2, .int x2)]) G.1 G.2.1 dX5_earliest_153 hl (k := 2) rfl (congrArg (y1 + ·) (by decide)) (by decide) rfl (fun ls hl => ?_)
                  refine lv_goto (tgt := 6) G.1 G.2.1 dX5_earliest_156 (by decide) ?_
                  exact ih6 _ _ _ _ _ hf hW (lv_sub hl [0, 3, 4, 5, 6] rfl)
                · replace hf := ie c147 hf
                  refine lv_iload G.1 G.2.1 dX5_earliest_150 (lv_at hl 0 rfl) ?_
                  refine lv_istore_n (lv' := [(3, .int (v17 + v18)), (5, .int (v17 + v18)), (6, .int (y1 - v15)), (4, .int y1), (0, .ref (h 10)), (1, .int x1), (2, .int x2)]) G.1 G.2.1 dX5_earliest_152 rfl hl (by decide) rfl (fun ls hl => ?_)
                  refine lv_iinc (v := (y1 + (1 : Int32))) (lv' := [(4, .int (y1 + (1 : Int32))), (3, .int (v17 + v18)), (5, .int (v17 + v18)), (6, .int (y1 - v15)), (0, .ref (h 10)), (1, .int x1), (2, .int x2)]) G.1 G.2.1 dX5_earliest_153 hl (k := 3) rfl (congrArg (y1 + ·) (by decide)) (by decide) rfl (fun ls hl => ?_)
                  refine lv_goto (tgt := 6) G.1 G.2.1 dX5_earliest_156 (by decide) ?_
                  exact ih6 _ _ _ _ _ hf hW (lv_sub hl [0, 1, 4, 5, 6] rfl)
          · replace hf := it c61 hf
            refine lv_goto (tgt := 153) G.1 G.2.1 dX5_earliest_64 (by decide) ?_
            refine lv_iinc (v := (y1 + (1 : Int32))) (lv' := [(4, .int (y1 + (1 : Int32))), (6, .int (y1 - v15)), (5, .int v6), (3, .int y2), (0, .ref (h 10)), (1, .int x1), (2, .int x2)]) G.1 G.2.1 dX5_earliest_153 hl (k := 2) rfl (congrArg (y1 + ·) (by decide)) (by decide) rfl (fun ls hl => ?_)
            refine lv_goto (tgt := 6) G.1 G.2.1 dX5_earliest_156 (by decide) ?_
            exact ih6 _ _ _ _ _ hf hW (lv_sub hl [0, 3, 4, 5, 6] rfl)
  exact L6 _ _ _ _ _ _ hf hW (lv_sub hl [0, 1, 2, 3, 4] rfl)

set_option maxHeartbeats 4000000 in
set_option maxRecDepth 100000 in
theorem mX5_plans (l : Launch) (D : va_G) (cy : ClassId) (h : Nat → Nat) (sz n : Nat) (σ : St) (x1 : Int32) {σ' : St} (hf : fX5_plans n σ x1 = some σ') : Mv l yX5_plans (ws_ yX5_plans cX5_plans 3 none) { frames := 5, cells := 0, slots := 0, locals := 118 } D cy (wM cy h σ) (wM cy h σ') sz [.ref (h 10), .int x1] := by
  refine Met.ofW (cc := cX5_plans) (maxL := 3) (ret := none) (by decide) rfl ?_
  intro p e s m args below meth c s₁ B hml hv
  obtain ⟨rfl, hsz, hP, hK, hD0⟩ := hv
  subst hsz
  have hts := atoms_spec (ws := ws_ yX5_plans cX5_plans 3 none) B.pre
  have G : CallFix p m c cX5_plans 3 s _ wA RX5 := ⟨B.exec, B.bytes, hml, findClass_of_methodNamed B.named, fun w h => hts w (List.mem_cons_of_mem _ h)⟩
  have hr := B.returns
  have hlk := B.notSynchronized
  have hW : KW D (va_A (wM cy h σ) s.heap.size) s.heap (wM cy h σ) s.heap [] := ⟨hP, hD0.self, va_S.rf⟩
  have hA : ∀ q, s.heap.size ≤ q → va_A (wM cy h σ) s.heap.size q := fun q h => Or.inr h
  have hl := lv_entry ([.ref (h 10), .int x1]) (n := 3) (Nat.le_of_ble_eq_true rfl)
  rw [lg_entry_eq]
  generalize (lg_sl ([.ref (h 10), .int x1]) ++ List.replicate (3 - (lg_sl ([.ref (h 10), .int x1])).length) Slot.unset).toArray = ls at hl ⊢
  have hl : lv_has ls 3 [(0, .ref (h 10)), (1, .int x1)] := hl
  unfold fX5_plans at hf
  refine lv_aload_n G.1 G.2.1 dX5_plans_0 rfl (lv_at hl 0 rfl) ?_
  refine lv_aload_n G.1 G.2.1 dX5_plans_1 rfl (lv_at hl 0 rfl) ?_
  refine lv_iload_n G.1 G.2.1 dX5_plans_2 rfl (lv_at hl 1 rfl) ?_
  refine lv_iconst (v := (1 : Int32)) G.1 G.2.1 dX5_plans_3 (by decide) ?_
  obtain ⟨v1, ev1, hf⟩ := ob hf
  refine kc_i (wr := []) (w := wM cy h σ) (w' := wM cy h σ) (n := 2) (As := [.int x1, .int (1 : Int32)]) (C := RX5) G hK hA hW (mX5_of l D cy h _ n σ x1 (1 : Int32) ev1) (gV q_8_22 q_8_23 q_9_0 q_1_5 q_9_1) ⟨rfl, rfl⟩ (by decide +kernel) ⟨Nat.le_of_ble_eq_true rfl, Nat.le_of_ble_eq_true rfl⟩ (va_recv hK.1 hW.1 (ci := 7) (q0 := 0) rfl rfl) rfl hl.1 rfl (Nat.le_of_ble_eq_true rfl) dX5_plans_4 ⟨Nat.le_of_ble_eq_true rfl, Nat.le_of_ble_eq_true rfl⟩ (fun H locs hW => ?_)
  refine lv_aload_n G.1 G.2.1 dX5_plans_7 rfl (lv_at hl 0 rfl) ?_
  refine lv_iload_n G.1 G.2.1 dX5_plans_8 rfl (lv_at hl 1 rfl) ?_
  refine lv_iconst (v := (2 : Int32)) G.1 G.2.1 dX5_plans_9 (by decide) ?_
  obtain ⟨v2, ev2, hf⟩ := ob hf
  refine kc_i (wr := []) (w := wM cy h σ) (w' := wM cy h σ) (n := 2) (As := [.int x1, .int (2 : Int32)]) (C := RX5) G hK hA hW (mX5_of l D cy h _ n σ x1 (2 : Int32) ev2) (gV q_8_22 q_8_23 q_9_0 q_1_5 q_9_1) ⟨rfl, rfl⟩ (by decide +kernel) ⟨Nat.le_of_ble_eq_true rfl, Nat.le_of_ble_eq_true rfl⟩ (va_recv hK.1 hW.1 (ci := 7) (q0 := 0) rfl rfl) rfl hl.1 rfl (Nat.le_of_ble_eq_true rfl) dX5_plans_10 ⟨Nat.le_of_ble_eq_true rfl, Nat.le_of_ble_eq_true rfl⟩ (fun H locs hW => ?_)
  obtain ⟨v3, ev3, hf⟩ := ob hf
  refine kc_i (wr := []) (w := wM cy h σ) (w' := wM cy h σ) (n := 2) (As := [.int v1, .int v2]) (C := RX5) G hK hA hW (mX5_earliest l D cy h _ n σ v1 v2 ev3) (gV q_9_2 q_9_3 q_9_4 q_1_5 q_9_5) ⟨rfl, rfl⟩ (by decide +kernel) ⟨Nat.le_of_ble_eq_true rfl, Nat.le_of_ble_eq_true rfl⟩ (va_recv hK.1 hW.1 (ci := 7) (q0 := 0) rfl rfl) rfl hl.1 rfl (Nat.le_of_ble_eq_true rfl) dX5_plans_13 ⟨Nat.le_of_ble_eq_true rfl, Nat.le_of_ble_eq_true rfl⟩ (fun H locs hW => ?_)
  refine lv_istore_n (lv' := [(2, .int v3), (0, .ref (h 10)), (1, .int x1)]) G.1 G.2.1 dX5_plans_16 rfl hl (by decide) rfl (fun ls hl => ?_)
  refine lv_aload_n G.1 G.2.1 dX5_plans_17 rfl (lv_at hl 1 rfl) ?_
  refine lv_iload_n G.1 G.2.1 dX5_plans_18 rfl (lv_at hl 2 rfl) ?_
  refine lv_iconst (v := (5 : Int32)) G.1 G.2.1 dX5_plans_19 (by decide) ?_
  refine lv_aload_n G.1 G.2.1 dX5_plans_20 rfl (lv_at hl 1 rfl) ?_
  refine lv_aload_n G.1 G.2.1 dX5_plans_21 rfl (lv_at hl 1 rfl) ?_
  refine lv_iload_n G.1 G.2.1 dX5_plans_22 rfl (lv_at hl 2 rfl) ?_
  refine lv_iconst (v := (1 : Int32)) G.1 G.2.1 dX5_plans_23 (by decide) ?_
  obtain ⟨v4, ev4, hf⟩ := ob hf
  refine kc_i (wr := []) (w := wM cy h σ) (w' := wM cy h σ) (n := 2) (As := [.int x1, .int (1 : Int32)]) (C := RX5) G hK hA hW (mX5_of l D cy h _ n σ x1 (1 : Int32) ev4) (gV q_8_22 q_8_23 q_9_0 q_1_5 q_9_1) ⟨rfl, rfl⟩ (by decide +kernel) ⟨Nat.le_of_ble_eq_true rfl, Nat.le_of_ble_eq_true rfl⟩ (va_recv hK.1 hW.1 (ci := 7) (q0 := 0) rfl rfl) rfl hl.1 rfl (Nat.le_of_ble_eq_true rfl) dX5_plans_24 ⟨Nat.le_of_ble_eq_true rfl, Nat.le_of_ble_eq_true rfl⟩ (fun H locs hW => ?_)
  refine lv_iload_n G.1 G.2.1 dX5_plans_27 rfl (lv_at hl 0 rfl) ?_
  refine lv_aload_n G.1 G.2.1 dX5_plans_28 rfl (lv_at hl 1 rfl) ?_
  refine lv_iload_n G.1 G.2.1 dX5_plans_29 rfl (lv_at hl 2 rfl) ?_
  refine lv_iconst (v := (2 : Int32)) G.1 G.2.1 dX5_plans_30 (by decide) ?_
  obtain ⟨v5, ev5, hf⟩ := ob hf
  refine kc_i (wr := []) (w := wM cy h σ) (w' := wM cy h σ) (n := 2) (As := [.int x1, .int (2 : Int32)]) (C := RX5) G hK hA hW (mX5_of l D cy h _ n σ x1 (2 : Int32) ev5) (gV q_8_22 q_8_23 q_9_0 q_1_5 q_9_1) ⟨rfl, rfl⟩ (by decide +kernel) ⟨Nat.le_of_ble_eq_true rfl, Nat.le_of_ble_eq_true rfl⟩ (va_recv hK.1 hW.1 (ci := 7) (q0 := 0) rfl rfl) rfl hl.1 rfl (Nat.le_of_ble_eq_true rfl) dX5_plans_31 ⟨Nat.le_of_ble_eq_true rfl, Nat.le_of_ble_eq_true rfl⟩ (fun H locs hW => ?_)
  obtain ⟨v6, ev6, hf⟩ := ob hf
  refine kc_i (wr := []) (w := wM cy h σ) (w' := wM cy h σ) (n := 3) (As := [.int v4, .int v3, .int v5]) (C := RX5) G hK hA hW (mX5_lowest l D cy h _ n σ v4 v3 v5 ev6) (gV q_9_15 q_9_16 q_9_17 q_1_5 q_9_18) ⟨rfl, rfl⟩ (by decide +kernel) ⟨Nat.le_of_ble_eq_true rfl, Nat.le_of_ble_eq_true rfl⟩ (va_recv hK.1 hW.1 (ci := 7) (q0 := 0) rfl rfl) rfl hl.1 rfl (Nat.le_of_ble_eq_true rfl) dX5_plans_34 ⟨Nat.le_of_ble_eq_true rfl, Nat.le_of_ble_eq_true rfl⟩ (fun H locs hW => ?_)
  obtain ⟨s7, es7, hf⟩ := ob hf
  refine kc_v (wr := []) (w := wM cy h σ) (w' := wM cy h s7) (n := 3) (As := [.int x1, .int (5 : Int32), .int v6]) (C := RX5) G hK hA hW (mX5_put l D cy h _ n σ x1 (5 : Int32) v6 es7) (gV q_8_10 q_8_11 q_8_12 q_1_5 q_8_13) ⟨rfl, rfl⟩ (by decide +kernel) ⟨Nat.le_of_ble_eq_true rfl, Nat.le_of_ble_eq_true rfl⟩ (va_recv hK.1 hW.1 (ci := 7) (q0 := 0) rfl rfl) rfl hl.1 rfl (Nat.le_of_ble_eq_true rfl) dX5_plans_37 ⟨Nat.le_of_ble_eq_true rfl, Nat.le_of_ble_eq_true rfl⟩ (fun H locs hW => ?_)
  refine lv_aload_n G.1 G.2.1 dX5_plans_40 rfl (lv_at hl 1 rfl) ?_
  refine lv_iload_n G.1 G.2.1 dX5_plans_41 rfl (lv_at hl 2 rfl) ?_
  refine lv_bipush (v := (6 : Int32)) G.1 G.2.1 dX5_plans_42 (by decide) ?_
  refine lv_iload_n G.1 G.2.1 dX5_plans_44 rfl (lv_at hl 0 rfl) ?_
  obtain ⟨s8, es8, hf⟩ := ob hf
  refine kc_v (wr := []) (w := wM cy h s7) (w' := wM cy h s8) (n := 3) (As := [.int x1, .int (6 : Int32), .int v3]) (C := RX5) G hK hA hW (mX5_put l D cy h _ n s7 x1 (6 : Int32) v3 es8) (gV q_8_10 q_8_11 q_8_12 q_1_5 q_8_13) ⟨rfl, rfl⟩ (by decide +kernel) ⟨Nat.le_of_ble_eq_true rfl, Nat.le_of_ble_eq_true rfl⟩ (va_recv hK.1 hW.1 (ci := 7) (q0 := 0) rfl rfl) rfl hl.1 rfl (Nat.le_of_ble_eq_true rfl) dX5_plans_45 ⟨Nat.le_of_ble_eq_true rfl, Nat.le_of_ble_eq_true rfl⟩ (fun H locs hW => ?_)
  refine lv_aload_n G.1 G.2.1 dX5_plans_48 rfl (lv_at hl 1 rfl) ?_
  refine lv_iload_n G.1 G.2.1 dX5_plans_49 rfl (lv_at hl 2 rfl) ?_
  refine lv_iconst (v := (4 : Int32)) G.1 G.2.1 dX5_plans_50 (by decide) ?_
  refine lv_iconst (v := (0 : Int32)) G.1 G.2.1 dX5_plans_51 (by decide) ?_
  obtain ⟨s9, es9, hf⟩ := ob hf
  refine kc_v (wr := []) (w := wM cy h s8) (w' := wM cy h s9) (n := 3) (As := [.int x1, .int (4 : Int32), .int (0 : Int32)]) (C := RX5) G hK hA hW (mX5_put l D cy h _ n s8 x1 (4 : Int32) (0 : Int32) es9) (gV q_8_10 q_8_11 q_8_12 q_1_5 q_8_13) ⟨rfl, rfl⟩ (by decide +kernel) ⟨Nat.le_of_ble_eq_true rfl, Nat.le_of_ble_eq_true rfl⟩ (va_recv hK.1 hW.1 (ci := 7) (q0 := 0) rfl rfl) rfl hl.1 rfl (Nat.le_of_ble_eq_true rfl) dX5_plans_52 ⟨Nat.le_of_ble_eq_true rfl, Nat.le_of_ble_eq_true rfl⟩ (fun H locs hW => ?_)
  cases hf
  exact k_vret G hr hlk hK hW dX5_plans_55

set_option maxHeartbeats 4000000 in
set_option maxRecDepth 100000 in
theorem mX5_usageOf (l : Launch) (D : va_G) (cy : ClassId) (h : Nat → Nat) (sz n : Nat) (σ : St) (x1 : Int32) {r : Int32} (hf : fX5_usageOf n σ x1 = some r) : Mi l yX5_usageOf (ws_ yX5_usageOf cX5_usageOf 3 (some .int)) { frames := 1, cells := 0, slots := 0, locals := 22 } D cy (wM cy h σ) (wM cy h σ) sz [.ref (h 10), .int x1] r := by
  refine Met.ofW (cc := cX5_usageOf) (maxL := 3) (ret := (some .int)) (by decide) rfl ?_
  intro p e s m args below meth c s₁ B hml hv
  obtain ⟨rfl, hsz, hP, hK, hD0⟩ := hv
  subst hsz
  have hts := atoms_spec (ws := ws_ yX5_usageOf cX5_usageOf 3 (some .int)) B.pre
  have G : CallFix p m c cX5_usageOf 3 s _ wA RX5 := ⟨B.exec, B.bytes, hml, findClass_of_methodNamed B.named, fun w h => hts w (List.mem_cons_of_mem _ h)⟩
  have hr := B.returns
  have hlk := B.notSynchronized
  have hW : KW D (va_A (wM cy h σ) s.heap.size) s.heap (wM cy h σ) s.heap [] := ⟨hP, hD0.self, va_S.rf⟩
  have hA : ∀ q, s.heap.size ≤ q → va_A (wM cy h σ) s.heap.size q := fun q h => Or.inr h
  have hl := lv_entry ([.ref (h 10), .int x1]) (n := 3) (Nat.le_of_ble_eq_true rfl)
  rw [lg_entry_eq]
  generalize (lg_sl ([.ref (h 10), .int x1]) ++ List.replicate (3 - (lg_sl ([.ref (h 10), .int x1])).length) Slot.unset).toArray = ls at hl ⊢
  have hl : lv_has ls 3 [(0, .ref (h 10)), (1, .int x1)] := hl
  unfold fX5_usageOf at hf
  refine lv_aload_n G.1 G.2.1 dX5_usageOf_0 rfl (lv_at hl 0 rfl) ?_
  refine lv_iload_n G.1 G.2.1 dX5_usageOf_1 rfl (lv_at hl 1 rfl) ?_
  refine lv_bipush (v := (13 : Int32)) G.1 G.2.1 dX5_usageOf_2 (by decide) ?_
  obtain ⟨v1, ev1, hf⟩ := ob hf
  refine kc_i (wr := []) (w := wM cy h σ) (w' := wM cy h σ) (n := 2) (As := [.int x1, .int (13 : Int32)]) (C := RX5) G hK hA hW (mX5_of l D cy h _ n σ x1 (13 : Int32) ev1) (gV q_8_22 q_8_23 q_9_0 q_1_5 q_9_1) ⟨rfl, rfl⟩ (by decide +kernel) ⟨Nat.le_of_ble_eq_true rfl, Nat.le_of_ble_eq_true rfl⟩ (va_recv hK.1 hW.1 (ci := 7) (q0 := 0) rfl rfl) rfl hl.1 rfl (Nat.le_of_ble_eq_true rfl) dX5_usageOf_4 ⟨Nat.le_of_ble_eq_true rfl, Nat.le_of_ble_eq_true rfl⟩ (fun H locs hW => ?_)
  refine lv_aload_n G.1 G.2.1 dX5_usageOf_7 rfl (lv_at hl 0 rfl) ?_
  refine lv_iload_n G.1 G.2.1 dX5_usageOf_8 rfl (lv_at hl 1 rfl) ?_
  refine lv_iconst (v := (4 : Int32)) G.1 G.2.1 dX5_usageOf_9 (by decide) ?_
  obtain ⟨v2, ev2, hf⟩ := ob hf
  refine kc_i (wr := []) (w := wM cy h σ) (w' := wM cy h σ) (n := 2) (As := [.int x1, .int (4 : Int32)]) (C := RX5) G hK hA hW (mX5_of l D cy h _ n σ x1 (4 : Int32) ev2) (gV q_8_22 q_8_23 q_9_0 q_1_5 q_9_1) ⟨rfl, rfl⟩ (by decide +kernel) ⟨Nat.le_of_ble_eq_true rfl, Nat.le_of_ble_eq_true rfl⟩ (va_recv hK.1 hW.1 (ci := 7) (q0 := 0) rfl rfl) rfl hl.1 rfl (Nat.le_of_ble_eq_true rfl) dX5_usageOf_10 ⟨Nat.le_of_ble_eq_true rfl, Nat.le_of_ble_eq_true rfl⟩ (fun H locs hW => ?_)
  refine lv_iconst (v := (1 : Int32)) G.1 G.2.1 dX5_usageOf_13 (by decide) ?_
  refine lv_icmp_ne (tgt := 34) G.1 G.2.1 dX5_usageOf_14 (by decide) (fun c14 => ?_) (fun c14 => ?_)
  · replace hf := ie c14 hf
    refine lv_iconst (v := (0 : Int32)) G.1 G.2.1 dX5_usageOf_34 (by decide) ?_
    refine lv_iadd G.1 G.2.1 dX5_usageOf_35 ?_
    refine lv_istore_n (lv' := [(2, .int (v1 + (0 : Int32))), (0, .ref (h 10)), (1, .int x1)]) G.1 G.2.1 dX5_usageOf_36 rfl hl (by decide) rfl (fun ls hl => ?_)
    refine lv_iload_n G.1 G.2.1 dX5_usageOf_37 rfl (lv_at hl 0 rfl) ?_
    refine lv_aload_n G.1 G.2.1 dX5_usageOf_38 rfl (lv_at hl 1 rfl) ?_
    refine lv_iload_n G.1 G.2.1 dX5_usageOf_39 rfl (lv_at hl 2 rfl) ?_
    refine lv_iconst (v := (1 : Int32)) G.1 G.2.1 dX5_usageOf_40 (by decide) ?_
    obtain ⟨v3, ev3, hf⟩ := ob hf
    refine kc_i (wr := []) (w := wM cy h σ) (w' := wM cy h σ) (n := 2) (As := [.int x1, .int (1 : Int32)]) (C := RX5) G hK hA hW (mX5_of l D cy h _ n σ x1 (1 : Int32) ev3) (gV q_8_22 q_8_23 q_9_0 q_1_5 q_9_1) ⟨rfl, rfl⟩ (by decide +kernel) ⟨Nat.le_of_ble_eq_true rfl, Nat.le_of_ble_eq_true rfl⟩ (va_recv hK.1 hW.1 (ci := 7) (q0 := 0) rfl rfl) rfl hl.1 rfl (Nat.le_of_ble_eq_true rfl) dX5_usageOf_41 ⟨Nat.le_of_ble_eq_true rfl, Nat.le_of_ble_eq_true rfl⟩ (fun H locs hW => ?_)
    refine lv_ishl G.1 G.2.1 dX5_usageOf_44 ?_
    cases hf
    exact k_iret G hr hlk hK hW dX5_usageOf_45
  · replace hf := it c14 hf
    refine lv_aload_n G.1 G.2.1 dX5_usageOf_17 rfl (lv_at hl 0 rfl) ?_
    refine k_get G inlX5 hK hW 0 rfl rfl 0 (by decide) q_4_6 rfl dX5_usageOf_18 ?_
    refine lv_iconst (v := (0 : Int32)) G.1 G.2.1 dX5_usageOf_21 (by decide) ?_
    obtain ⟨v4, ev4, hf⟩ := ob hf
    refine k_ald G hK hW 1 rfl ev4 dX5_usageOf_22 ?_
    refine lv_aload_n G.1 G.2.1 dX5_usageOf_23 rfl (lv_at hl 0 rfl) ?_
    refine lv_iload_n G.1 G.2.1 dX5_usageOf_24 rfl (lv_at hl 1 rfl) ?_
    refine lv_bipush (v := (6 : Int32)) G.1 G.2.1 dX5_usageOf_25 (by decide) ?_
    obtain ⟨v5, ev5, hf⟩ := ob hf
    refine kc_i (wr := []) (w := wM cy h σ) (w' := wM cy h σ) (n := 2) (As := [.int x1, .int (6 : Int32)]) (C := RX5) G hK hA hW (mX5_of l D cy h _ n σ x1 (6 : Int32) ev5) (gV q_8_22 q_8_23 q_9_0 q_1_5 q_9_1) ⟨rfl, rfl⟩ (by decide +kernel) ⟨Nat.le_of_ble_eq_true rfl, Nat.le_of_ble_eq_true rfl⟩ (va_recv hK.1 hW.1 (ci := 7) (q0 := 0) rfl rfl) rfl hl.1 rfl (Nat.le_of_ble_eq_true rfl) dX5_usageOf_27 ⟨Nat.le_of_ble_eq_true rfl, Nat.le_of_ble_eq_true rfl⟩ (fun H locs hW => ?_)
    refine lv_isub G.1 G.2.1 dX5_usageOf_30 ?_
    refine lv_goto (tgt := 35) G.1 G.2.1 dX5_usageOf_31 (by decide) ?_
    refine lv_iadd G.1 G.2.1 dX5_usageOf_35 ?_
    refine lv_istore_n (lv' := [(2, .int (v1 + (v4 - v5))), (0, .ref (h 10)), (1, .int x1)]) G.1 G.2.1 dX5_usageOf_36 rfl hl (by decide) rfl (fun ls hl => ?_)
    refine lv_iload_n G.1 G.2.1 dX5_usageOf_37 rfl (lv_at hl 0 rfl) ?_
    refine lv_aload_n G.1 G.2.1 dX5_usageOf_38 rfl (lv_at hl 1 rfl) ?_
    refine lv_iload_n G.1 G.2.1 dX5_usageOf_39 rfl (lv_at hl 2 rfl) ?_
    refine lv_iconst (v := (1 : Int32)) G.1 G.2.1 dX5_usageOf_40 (by decide) ?_
    obtain ⟨v6, ev6, hf⟩ := ob hf
    refine kc_i (wr := []) (w := wM cy h σ) (w' := wM cy h σ) (n := 2) (As := [.int x1, .int (1 : Int32)]) (C := RX5) G hK hA hW (mX5_of l D cy h _ n σ x1 (1 : Int32) ev6) (gV q_8_22 q_8_23 q_9_0 q_1_5 q_9_1) ⟨rfl, rfl⟩ (by decide +kernel) ⟨Nat.le_of_ble_eq_true rfl, Nat.le_of_ble_eq_true rfl⟩ (va_recv hK.1 hW.1 (ci := 7) (q0 := 0) rfl rfl) rfl hl.1 rfl (Nat.le_of_ble_eq_true rfl) dX5_usageOf_41 ⟨Nat.le_of_ble_eq_true rfl, Nat.le_of_ble_eq_true rfl⟩ (fun H locs hW => ?_)
    refine lv_ishl G.1 G.2.1 dX5_usageOf_44 ?_
    cases hf
    exact k_iret G hr hlk hK hW dX5_usageOf_45

set_option maxHeartbeats 4000000 in
set_option maxRecDepth 100000 in
theorem mX5_used (l : Launch) (D : va_G) (cy : ClassId) (h : Nat → Nat) (sz n : Nat) (σ : St) (x1 : Int32) {r : Int32} (hf : fX5_used n σ x1 = some r) : Mi l yX5_used (ws_ yX5_used cX5_used 4 (some .int)) { frames := 2, cells := 0, slots := 0, locals := 44 } D cy (wM cy h σ) (wM cy h σ) sz [.ref (h 10), .int x1] r := by
  refine Met.ofW (cc := cX5_used) (maxL := 4) (ret := (some .int)) (by decide) rfl ?_
  intro p e s m args below meth c s₁ B hml hv
  obtain ⟨rfl, hsz, hP, hK, hD0⟩ := hv
  subst hsz
  have hts := atoms_spec (ws := ws_ yX5_used cX5_used 4 (some .int)) B.pre
  have G : CallFix p m c cX5_used 4 s _ wA RX5 := ⟨B.exec, B.bytes, hml, findClass_of_methodNamed B.named, fun w h => hts w (List.mem_cons_of_mem _ h)⟩
  have hr := B.returns
  have hlk := B.notSynchronized
  have hW : KW D (va_A (wM cy h σ) s.heap.size) s.heap (wM cy h σ) s.heap [] := ⟨hP, hD0.self, va_S.rf⟩
  have hA : ∀ q, s.heap.size ≤ q → va_A (wM cy h σ) s.heap.size q := fun q h => Or.inr h
  have hl := lv_entry ([.ref (h 10), .int x1]) (n := 4) (Nat.le_of_ble_eq_true rfl)
  rw [lg_entry_eq]
  generalize (lg_sl ([.ref (h 10), .int x1]) ++ List.replicate (4 - (lg_sl ([.ref (h 10), .int x1])).length) Slot.unset).toArray = ls at hl ⊢
  have hl : lv_has ls 4 [(0, .ref (h 10)), (1, .int x1)] := hl
  unfold fX5_used at hf
  refine lv_iconst (v := (0 : Int32)) G.1 G.2.1 dX5_used_0 (by decide) ?_
  refine lv_istore_n (lv' := [(2, .int (0 : Int32)), (0, .ref (h 10)), (1, .int x1)]) G.1 G.2.1 dX5_used_1 rfl hl (by decide) rfl (fun ls hl => ?_)
  refine lv_iconst (v := (0 : Int32)) G.1 G.2.1 dX5_used_2 (by decide) ?_
  refine lv_istore_n (lv' := [(3, .int (0 : Int32)), (2, .int (0 : Int32)), (0, .ref (h 10)), (1, .int x1)]) G.1 G.2.1 dX5_used_3 rfl hl (by decide) rfl (fun ls hl => ?_)
  have L4 : ∀ (fu : Nat) (y1 : Int32) (y2 : Int32) (H : Heap) (locs : List Loc) (ls : Array Slot), lz2 (fX5_used_b4 n σ x1) fu y1 y2 = some r → KW D (va_A (wM cy h σ) s.heap.size) s.heap (wM cy h σ) H locs → lv_has ls 4 [(3, .int y1), (2, .int y2), (0, .ref (h 10)), (1, .int x1)] → W p l e (headSpec (ws_ yX5_used cX5_used 4 (some .int)) { frames := 2, cells := 0, slots := 0, locals := 44 }).room s m (([.ref (h 10), .int x1] : List Value).toArray) below meth c H locs 0 0 (MQ below (va_Qi (fun (r' : Int32) (_ : Unit) => r' = r) (fun _ => KB D (va_A (wM cy h σ) s.heap.size) (wM cy h σ)) (va_A (wM cy h σ) s.heap.size)) (([.ref (h 10), .int x1] : List Value).toArray) s 0 0 (va_A (wM cy h σ) s.heap.size)) (F0 m 4 ls []) := by
    intro fu4
    induction fu4 with
    | zero => intro y1 y2 H locs ls hf; cases hf
    | succ fu4 ih4 =>
      intro y1 y2 H locs ls hf hW hl
      rw [lz2_s] at hf
      unfold fX5_used_b4 at hf
      refine lv_iload_n G.1 G.2.1 dX5_used_4 rfl (lv_at hl 0 rfl) ?_
      refine lv_aload_n G.1 G.2.1 dX5_used_5 rfl (lv_at hl 2 rfl) ?_
      refine k_get G inlX5 hK hW 0 rfl rfl 0 (by decide) q_4_6 rfl dX5_used_6 ?_
      refine lv_iconst (v := (1 : Int32)) G.1 G.2.1 dX5_used_9 (by decide) ?_
      obtain ⟨v4, ev4, hf⟩ := ob hf
      refine k_ald G hK hW 1 rfl ev4 dX5_used_10 ?_
      refine lv_icmp_ge (tgt := 38) G.1 G.2.1 dX5_used_11 (by decide) (fun c11 => ?_) (fun c11 => ?_)
      · replace hf := it c11 hf
        refine lv_iload_n G.1 G.2.1 dX5_used_38 rfl (lv_at hl 1 rfl) ?_
        cases hf
        exact k_iret G hr hlk hK hW dX5_used_39
      · replace hf := ie c11 hf
        refine lv_aload_n G.1 G.2.1 dX5_used_14 rfl (lv_at hl 2 rfl) ?_
        refine lv_iload_n G.1 G.2.1 dX5_used_15 rfl (lv_at hl 0 rfl) ?_
        refine lv_iconst (v := (0 : Int32)) G.1 G.2.1 dX5_used_16 (by decide) ?_
        obtain ⟨v5, ev5, hf⟩ := ob hf
        refine kc_i (wr := []) (w := wM cy h σ) (w' := wM cy h σ) (n := 2) (As := [.int y1, .int (0 : Int32)]) (C := RX5) G hK hA hW (mX5_of l D cy h _ n σ y1 (0 : Int32) ev5) (gV q_8_22 q_8_23 q_9_0 q_1_5 q_9_1) ⟨rfl, rfl⟩ (by decide +kernel) ⟨Nat.le_of_ble_eq_true rfl, Nat.le_of_ble_eq_true rfl⟩ (va_recv hK.1 hW.1 (ci := 7) (q0 := 0) rfl rfl) rfl hl.1 rfl (Nat.le_of_ble_eq_true rfl) dX5_used_17 ⟨Nat.le_of_ble_eq_true rfl, Nat.le_of_ble_eq_true rfl⟩ (fun H locs hW => ?_)
        refine lv_iload_n G.1 G.2.1 dX5_used_20 rfl (lv_at hl 3 rfl) ?_
        refine lv_icmp_ne (tgt := 32) G.1 G.2.1 dX5_used_21 (by decide) (fun c21 => ?_) (fun c21 => ?_)
        · replace hf := ie c21 hf
          refine lv_iinc (v := (y1 + (1 : Int32))) (lv' := [(3, .int (y1 + (1 : Int32))), (2, .int y2), (0, .ref (h 10)), (1, .int x1)]) G.1 G.2.1 dX5_used_32 hl (k := 0) rfl (congrArg (y1 + ·) (by decide)) (by decide) rfl (fun ls hl => ?_)
          refine lv_goto (tgt := 4) G.1 G.2.1 dX5_used_35 (by decide) ?_
          exact ih4 _ _ _ _ _ hf hW (lv_sub hl [0, 1, 2, 3] rfl)
        · replace hf := it c21 hf
          refine lv_iload_n G.1 G.2.1 dX5_used_24 rfl (lv_at hl 1 rfl) ?_
          refine lv_aload_n G.1 G.2.1 dX5_used_25 rfl (lv_at hl 2 rfl) ?_
          refine lv_iload_n G.1 G.2.1 dX5_used_26 rfl (lv_at hl 0 rfl) ?_
          obtain ⟨v6, ev6, hf⟩ := ob hf
          refine kc_i (wr := []) (w := wM cy h σ) (w' := wM cy h σ) (n := 1) (As := [.int y1]) (C := RX5) G hK hA hW (mX5_usageOf l D cy h _ n σ y1 ev6) (gV q_13_9 q_13_10 q_13_11 q_1_5 q_13_12) ⟨rfl, rfl⟩ (by decide +kernel) ⟨Nat.le_of_ble_eq_true rfl, Nat.le_of_ble_eq_true rfl⟩ (va_recv hK.1 hW.1 (ci := 7) (q0 := 0) rfl rfl) rfl hl.1 rfl (Nat.le_of_ble_eq_true rfl) dX5_used_27 ⟨Nat.le_of_ble_eq_true rfl, Nat.le_of_ble_eq_true rfl⟩ (fun H locs hW => ?_)
          refine lv_iadd G.1 G.2.1 dX5_used_30 ?_
          refine lv_istore_n (lv' := [(2, .int (y2 + v6)), (3, .int y1), (0, .ref (h 10)), (1, .int x1)]) G.1 G.2.1 dX5_used_31 rfl hl (by decide) rfl (fun ls hl => ?_)
          refine lv_iinc (v := (y1 + (1 : Int32))) (lv' := [(3, .int (y1 + (1 : Int32))), (2, .int (y2 + v6)), (0, .ref (h 10)), (1, .int x1)]) G.1 G.2.1 dX5_used_32 hl (k := 1) rfl (congrArg (y1 + ·) (by decide)) (by decide) rfl (fun ls hl => ?_)
          refine lv_goto (tgt := 4) G.1 G.2.1 dX5_used_35 (by decide) ?_
          exact ih4 _ _ _ _ _ hf hW (lv_sub hl [0, 1, 2, 3] rfl)
  exact L4 _ _ _ _ _ _ hf hW (lv_sub hl [0, 1, 2, 3] rfl)

set_option maxHeartbeats 4000000 in
set_option maxRecDepth 100000 in
theorem mX5_goesAhead (l : Launch) (D : va_G) (cy : ClassId) (h : Nat → Nat) (sz n : Nat) (σ : St) (x1 : Int32) (x2 : Int32) {r : Int32} (hf : fX5_goesAhead n σ x1 x2 = some r) : Mi l yX5_goesAhead (ws_ yX5_goesAhead cX5_goesAhead 3 (some .boolean)) { frames := 1, cells := 0, slots := 0, locals := 22 } D cy (wM cy h σ) (wM cy h σ) sz [.ref (h 10), .int x1, .int x2] r := by
  refine Met.ofW (cc := cX5_goesAhead) (maxL := 3) (ret := (some .boolean)) (by decide) rfl ?_
  intro p e s m args below meth c s₁ B hml hv
  obtain ⟨rfl, hsz, hP, hK, hD0⟩ := hv
  subst hsz
  have hts := atoms_spec (ws := ws_ yX5_goesAhead cX5_goesAhead 3 (some .boolean)) B.pre
  have G : CallFix p m c cX5_goesAhead 3 s _ wA RX5 := ⟨B.exec, B.bytes, hml, findClass_of_methodNamed B.named, fun w h => hts w (List.mem_cons_of_mem _ h)⟩
  have hr := B.returns
  have hlk := B.notSynchronized
  have hW : KW D (va_A (wM cy h σ) s.heap.size) s.heap (wM cy h σ) s.heap [] := ⟨hP, hD0.self, va_S.rf⟩
  have hA : ∀ q, s.heap.size ≤ q → va_A (wM cy h σ) s.heap.size q := fun q h => Or.inr h
  have hl := lv_entry ([.ref (h 10), .int x1, .int x2]) (n := 3) (Nat.le_of_ble_eq_true rfl)
  rw [lg_entry_eq]
  generalize (lg_sl ([.ref (h 10), .int x1, .int x2]) ++ List.replicate (3 - (lg_sl ([.ref (h 10), .int x1, .int x2])).length) Slot.unset).toArray = ls at hl ⊢
  have hl : lv_has ls 3 [(0, .ref (h 10)), (1, .int x1), (2, .int x2)] := hl
  unfold fX5_goesAhead at hf
  refine lv_aload_n G.1 G.2.1 dX5_goesAhead_0 rfl (lv_at hl 0 rfl) ?_
  refine k_get G inlX5 hK hW 0 rfl rfl 0 (by decide) q_4_6 rfl dX5_goesAhead_1 ?_
  refine lv_iconst (v := (3 : Int32)) G.1 G.2.1 dX5_goesAhead_4 (by decide) ?_
  obtain ⟨v1, ev1, hf⟩ := ob hf
  refine k_ald G hK hW 1 rfl ev1 dX5_goesAhead_5 ?_
  refine lv_iconst (v := (1 : Int32)) G.1 G.2.1 dX5_goesAhead_6 (by decide) ?_
  refine lv_icmp_ne (tgt := 66) G.1 G.2.1 dX5_goesAhead_7 (by decide) (fun c7 => ?_) (fun c7 => ?_)
  · replace hf := ie c7 hf
    refine lv_aload_n G.1 G.2.1 dX5_goesAhead_66 rfl (lv_at hl 0 rfl) ?_
    refine lv_iload_n G.1 G.2.1 dX5_goesAhead_67 rfl (lv_at hl 1 rfl) ?_
    refine lv_bipush (v := (6 : Int32)) G.1 G.2.1 dX5_goesAhead_68 (by decide) ?_
    obtain ⟨v2, ev2, hf⟩ := ob hf
    refine kc_i (wr := []) (w := wM cy h σ) (w' := wM cy h σ) (n := 2) (As := [.int x1, .int (6 : Int32)]) (C := RX5) G hK hA hW (mX5_of l D cy h _ n σ x1 (6 : Int32) ev2) (gV q_8_22 q_8_23 q_9_0 q_1_5 q_9_1) ⟨rfl, rfl⟩ (by decide +kernel) ⟨Nat.le_of_ble_eq_true rfl, Nat.le_of_ble_eq_true rfl⟩ (va_recv hK.1 hW.1 (ci := 7) (q0 := 0) rfl rfl) rfl hl.1 rfl (Nat.le_of_ble_eq_true rfl) dX5_goesAhead_70 ⟨Nat.le_of_ble_eq_true rfl, Nat.le_of_ble_eq_true rfl⟩ (fun H locs hW => ?_)
    refine lv_aload_n G.1 G.2.1 dX5_goesAhead_73 rfl (lv_at hl 0 rfl) ?_
    refine lv_iload_n G.1 G.2.1 dX5_goesAhead_74 rfl (lv_at hl 2 rfl) ?_
    refine lv_bipush (v := (6 : Int32)) G.1 G.2.1 dX5_goesAhead_75 (by decide) ?_
    obtain ⟨v3, ev3, hf⟩ := ob hf
    refine kc_i (wr := []) (w := wM cy h σ) (w' := wM cy h σ) (n := 2) (As := [.int x2, .int (6 : Int32)]) (C := RX5) G hK hA hW (mX5_of l D cy h _ n σ x2 (6 : Int32) ev3) (gV q_8_22 q_8_23 q_9_0 q_1_5 q_9_1) ⟨rfl, rfl⟩ (by decide +kernel) ⟨Nat.le_of_ble_eq_true rfl, Nat.le_of_ble_eq_true rfl⟩ (va_recv hK.1 hW.1 (ci := 7) (q0 := 0) rfl rfl) rfl hl.1 rfl (Nat.le_of_ble_eq_true rfl) dX5_goesAhead_77 ⟨Nat.le_of_ble_eq_true rfl, Nat.le_of_ble_eq_true rfl⟩ (fun H locs hW => ?_)
    refine lv_icmp_eq (tgt := 108) G.1 G.2.1 dX5_goesAhead_80 (by decide) (fun c80 => ?_) (fun c80 => ?_)
    · replace hf := it c80 hf
      refine lv_iload_n G.1 G.2.1 dX5_goesAhead_108 rfl (lv_at hl 1 rfl) ?_
      refine lv_iload_n G.1 G.2.1 dX5_goesAhead_109 rfl (lv_at hl 2 rfl) ?_
      refine lv_icmp_ge (tgt := 117) G.1 G.2.1 dX5_goesAhead_110 (by decide) (fun c110 => ?_) (fun c110 => ?_)
      · replace hf := it c110 hf
        refine lv_iconst (v := (0 : Int32)) G.1 G.2.1 dX5_goesAhead_117 (by decide) ?_
        cases hf
        exact k_zret G hr hlk hK hW rfl dX5_goesAhead_118
      · replace hf := ie c110 hf
        refine lv_iconst (v := (1 : Int32)) G.1 G.2.1 dX5_goesAhead_113 (by decide) ?_
        refine lv_goto (tgt := 118) G.1 G.2.1 dX5_goesAhead_114 (by decide) ?_
        cases hf
        exact k_zret G hr hlk hK hW rfl dX5_goesAhead_118
    · replace hf := ie c80 hf
      refine lv_aload_n G.1 G.2.1 dX5_goesAhead_83 rfl (lv_at hl 0 rfl) ?_
      refine lv_iload_n G.1 G.2.1 dX5_goesAhead_84 rfl (lv_at hl 1 rfl) ?_
      refine lv_bipush (v := (6 : Int32)) G.1 G.2.1 dX5_goesAhead_85 (by decide) ?_
      obtain ⟨v4, ev4, hf⟩ := ob hf
      refine kc_i (wr := []) (w := wM cy h σ) (w' := wM cy h σ) (n := 2) (As := [.int x1, .int (6 : Int32)]) (C := RX5) G hK hA hW (mX5_of l D cy h _ n σ x1 (6 : Int32) ev4) (gV q_8_22 q_8_23 q_9_0 q_1_5 q_9_1) ⟨rfl, rfl⟩ (by decide +kernel) ⟨Nat.le_of_ble_eq_true rfl, Nat.le_of_ble_eq_true rfl⟩ (va_recv hK.1 hW.1 (ci := 7) (q0 := 0) rfl rfl) rfl hl.1 rfl (Nat.le_of_ble_eq_true rfl) dX5_goesAhead_87 ⟨Nat.le_of_ble_eq_true rfl, Nat.le_of_ble_eq_true rfl⟩ (fun H locs hW => ?_)
      refine lv_aload_n G.1 G.2.1 dX5_goesAhead_90 rfl (lv_at hl 0 rfl) ?_
      refine lv_iload_n G.1 G.2.1 dX5_goesAhead_91 rfl (lv_at hl 2 rfl) ?_
      refine lv_bipush (v := (6 : Int32)) G.1 G.2.1 dX5_goesAhead_92 (by decide) ?_
      obtain ⟨v5, ev5, hf⟩ := ob hf
      refine kc_i (wr := []) (w := wM cy h σ) (w' := wM cy h σ) (n := 2) (As := [.int x2, .int (6 : Int32)]) (C := RX5) G hK hA hW (mX5_of l D cy h _ n σ x2 (6 : Int32) ev5) (gV q_8_22 q_8_23 q_9_0 q_1_5 q_9_1) ⟨rfl, rfl⟩ (by decide +kernel) ⟨Nat.le_of_ble_eq_true rfl, Nat.le_of_ble_eq_true rfl⟩ (va_recv hK.1 hW.1 (ci := 7) (q0 := 0) rfl rfl) rfl hl.1 rfl (Nat.le_of_ble_eq_true rfl) dX5_goesAhead_94 ⟨Nat.le_of_ble_eq_true rfl, Nat.le_of_ble_eq_true rfl⟩ (fun H locs hW => ?_)
      refine lv_icmp_ge (tgt := 104) G.1 G.2.1 dX5_goesAhead_97 (by decide) (fun c97 => ?_) (fun c97 => ?_)
      · replace hf := it c97 hf
        refine lv_iconst (v := (0 : Int32)) G.1 G.2.1 dX5_goesAhead_104 (by decide) ?_
        refine lv_goto (tgt := 118) G.1 G.2.1 dX5_goesAhead_105 (by decide) ?_
        cases hf
        exact k_zret G hr hlk hK hW rfl dX5_goesAhead_118
      · replace hf := ie c97 hf
        refine lv_iconst (v := (1 : Int32)) G.1 G.2.1 dX5_goesAhead_100 (by decide) ?_
        refine lv_goto (tgt := 118) G.1 G.2.1 dX5_goesAhead_101 (by decide) ?_
        cases hf
        exact k_zret G hr hlk hK hW rfl dX5_goesAhead_118
  · replace hf := it c7 hf
    refine lv_aload_n G.1 G.2.1 dX5_goesAhead_10 rfl (lv_at hl 0 rfl) ?_
    refine k_get G inlX5 hK hW 0 rfl rfl 6 (by decide) q_4_9 rfl dX5_goesAhead_11 ?_
    refine lv_aload_n G.1 G.2.1 dX5_goesAhead_14 rfl (lv_at hl 0 rfl) ?_
    refine lv_iload_n G.1 G.2.1 dX5_goesAhead_15 rfl (lv_at hl 1 rfl) ?_
    refine lv_iconst (v := (0 : Int32)) G.1 G.2.1 dX5_goesAhead_16 (by decide) ?_
    obtain ⟨v6, ev6, hf⟩ := ob hf
    refine kc_i (wr := []) (w := wM cy h σ) (w' := wM cy h σ) (n := 2) (As := [.int x1, .int (0 : Int32)]) (C := RX5) G hK hA hW (mX5_of l D cy h _ n σ x1 (0 : Int32) ev6) (gV q_8_22 q_8_23 q_9_0 q_1_5 q_9_1) ⟨rfl, rfl⟩ (by decide +kernel) ⟨Nat.le_of_ble_eq_true rfl, Nat.le_of_ble_eq_true rfl⟩ (va_recv hK.1 hW.1 (ci := 7) (q0 := 0) rfl rfl) rfl hl.1 rfl (Nat.le_of_ble_eq_true rfl) dX5_goesAhead_17 ⟨Nat.le_of_ble_eq_true rfl, Nat.le_of_ble_eq_true rfl⟩ (fun H locs hW => ?_)
    obtain ⟨v7, ev7, hf⟩ := ob hf
    refine k_ald G hK hW 4 rfl ev7 dX5_goesAhead_20 ?_
    refine lv_aload_n G.1 G.2.1 dX5_goesAhead_21 rfl (lv_at hl 0 rfl) ?_
    refine k_get G inlX5 hK hW 0 rfl rfl 6 (by decide) q_4_9 rfl dX5_goesAhead_22 ?_
    refine lv_aload_n G.1 G.2.1 dX5_goesAhead_25 rfl (lv_at hl 0 rfl) ?_
    refine lv_iload_n G.1 G.2.1 dX5_goesAhead_26 rfl (lv_at hl 2 rfl) ?_
    refine lv_iconst (v := (0 : Int32)) G.1 G.2.1 dX5_goesAhead_27 (by decide) ?_
    obtain ⟨v8, ev8, hf⟩ := ob hf
    refine kc_i (wr := []) (w := wM cy h σ) (w' := wM cy h σ) (n := 2) (As := [.int x2, .int (0 : Int32)]) (C := RX5) G hK hA hW (mX5_of l D cy h _ n σ x2 (0 : Int32) ev8) (gV q_8_22 q_8_23 q_9_0 q_1_5 q_9_1) ⟨rfl, rfl⟩ (by decide +kernel) ⟨Nat.le_of_ble_eq_true rfl, Nat.le_of_ble_eq_true rfl⟩ (va_recv hK.1 hW.1 (ci := 7) (q0 := 0) rfl rfl) rfl hl.1 rfl (Nat.le_of_ble_eq_true rfl) dX5_goesAhead_28 ⟨Nat.le_of_ble_eq_true rfl, Nat.le_of_ble_eq_true rfl⟩ (fun H locs hW => ?_)
    obtain ⟨v9, ev9, hf⟩ := ob hf
    refine k_ald G hK hW 4 rfl ev9 dX5_goesAhead_31 ?_
    refine lv_icmp_eq (tgt := 66) G.1 G.2.1 dX5_goesAhead_32 (by decide) (fun c32 => ?_) (fun c32 => ?_)
    · replace hf := it c32 hf
      refine lv_aload_n G.1 G.2.1 dX5_goesAhead_66 rfl (lv_at hl 0 rfl) ?_
      refine lv_iload_n G.1 G.2.1 dX5_goesAhead_67 rfl (lv_at hl 1 rfl) ?_
      refine lv_bipush (v := (6 : Int32)) G.1 G.2.1 dX5_goesAhead_68 (by decide) ?_
      obtain ⟨v10, ev10, hf⟩ := ob hf
      refine kc_i (wr := []) (w := wM cy h σ) (w' := wM cy h σ) (n := 2) (As := [.int x1, .int (6 : Int32)]) (C := RX5) G hK hA hW (mX5_of l D cy h _ n σ x1 (6 : Int32) ev10) (gV q_8_22 q_8_23 q_9_0 q_1_5 q_9_1) ⟨rfl, rfl⟩ (by decide +kernel) ⟨Nat.le_of_ble_eq_true rfl, Nat.le_of_ble_eq_true rfl⟩ (va_recv hK.1 hW.1 (ci := 7) (q0 := 0) rfl rfl) rfl hl.1 rfl (Nat.le_of_ble_eq_true rfl) dX5_goesAhead_70 ⟨Nat.le_of_ble_eq_true rfl, Nat.le_of_ble_eq_true rfl⟩ (fun H locs hW => ?_)
      refine lv_aload_n G.1 G.2.1 dX5_goesAhead_73 rfl (lv_at hl 0 rfl) ?_
      refine lv_iload_n G.1 G.2.1 dX5_goesAhead_74 rfl (lv_at hl 2 rfl) ?_
      refine lv_bipush (v := (6 : Int32)) G.1 G.2.1 dX5_goesAhead_75 (by decide) ?_
      obtain ⟨v11, ev11, hf⟩ := ob hf
      refine kc_i (wr := []) (w := wM cy h σ) (w' := wM cy h σ) (n := 2) (As := [.int x2, .int (6 : Int32)]) (C := RX5) G hK hA hW (mX5_of l D cy h _ n σ x2 (6 : Int32) ev11) (gV q_8_22 q_8_23 q_9_0 q_1_5 q_9_1) ⟨rfl, rfl⟩ (by decide +kernel) ⟨Nat.le_of_ble_eq_true rfl, Nat.le_of_ble_eq_true rfl⟩ (va_recv hK.1 hW.1 (ci := 7) (q0 := 0) rfl rfl) rfl hl.1 rfl (Nat.le_of_ble_eq_true rfl) dX5_goesAhead_77 ⟨Nat.le_of_ble_eq_true rfl, Nat.le_of_ble_eq_true rfl⟩ (fun H locs hW => ?_)
      refine lv_icmp_eq (tgt := 108) G.1 G.2.1 dX5_goesAhead_80 (by decide) (fun c80 => ?_) (fun c80 => ?_)
      · replace hf := it c80 hf
        refine lv_iload_n G.1 G.2.1 dX5_goesAhead_108 rfl (lv_at hl 1 rfl) ?_
        refine lv_iload_n G.1 G.2.1 dX5_goesAhead_109 rfl (lv_at hl 2 rfl) ?_
        refine lv_icmp_ge (tgt := 117) G.1 G.2.1 dX5_goesAhead_110 (by decide) (fun c110 => ?_) (fun c110 => ?_)
        · replace hf := it c110 hf
          refine lv_iconst (v := (0 : Int32)) G.1 G.2.1 dX5_goesAhead_117 (by decide) ?_
          cases hf
          exact k_zret G hr hlk hK hW rfl dX5_goesAhead_118
        · replace hf := ie c110 hf
          refine lv_iconst (v := (1 : Int32)) G.1 G.2.1 dX5_goesAhead_113 (by decide) ?_
          refine lv_goto (tgt := 118) G.1 G.2.1 dX5_goesAhead_114 (by decide) ?_
          cases hf
          exact k_zret G hr hlk hK hW rfl dX5_goesAhead_118
      · replace hf := ie c80 hf
        refine lv_aload_n G.1 G.2.1 dX5_goesAhead_83 rfl (lv_at hl 0 rfl) ?_
        refine lv_iload_n G.1 G.2.1 dX5_goesAhead_84 rfl (lv_at hl 1 rfl) ?_
        refine lv_bipush (v := (6 : Int32)) G.1 G.2.1 dX5_goesAhead_85 (by decide) ?_
        obtain ⟨v12, ev12, hf⟩ := ob hf
        refine kc_i (wr := []) (w := wM cy h σ) (w' := wM cy h σ) (n := 2) (As := [.int x1, .int (6 : Int32)]) (C := RX5) G hK hA hW (mX5_of l D cy h _ n σ x1 (6 : Int32) ev12) (gV q_8_22 q_8_23 q_9_0 q_1_5 q_9_1) ⟨rfl, rfl⟩ (by decide +kernel) ⟨Nat.le_of_ble_eq_true rfl, Nat.le_of_ble_eq_true rfl⟩ (va_recv hK.1 hW.1 (ci := 7) (q0 := 0) rfl rfl) rfl hl.1 rfl (Nat.le_of_ble_eq_true rfl) dX5_goesAhead_87 ⟨Nat.le_of_ble_eq_true rfl, Nat.le_of_ble_eq_true rfl⟩ (fun H locs hW => ?_)
        refine lv_aload_n G.1 G.2.1 dX5_goesAhead_90 rfl (lv_at hl 0 rfl) ?_
        refine lv_iload_n G.1 G.2.1 dX5_goesAhead_91 rfl (lv_at hl 2 rfl) ?_
        refine lv_bipush (v := (6 : Int32)) G.1 G.2.1 dX5_goesAhead_92 (by decide) ?_
        obtain ⟨v13, ev13, hf⟩ := ob hf
        refine kc_i (wr := []) (w := wM cy h σ) (w' := wM cy h σ) (n := 2) (As := [.int x2, .int (6 : Int32)]) (C := RX5) G hK hA hW (mX5_of l D cy h _ n σ x2 (6 : Int32) ev13) (gV q_8_22 q_8_23 q_9_0 q_1_5 q_9_1) ⟨rfl, rfl⟩ (by decide +kernel) ⟨Nat.le_of_ble_eq_true rfl, Nat.le_of_ble_eq_true rfl⟩ (va_recv hK.1 hW.1 (ci := 7) (q0 := 0) rfl rfl) rfl hl.1 rfl (Nat.le_of_ble_eq_true rfl) dX5_goesAhead_94 ⟨Nat.le_of_ble_eq_true rfl, Nat.le_of_ble_eq_true rfl⟩ (fun H locs hW => ?_)
        refine lv_icmp_ge (tgt := 104) G.1 G.2.1 dX5_goesAhead_97 (by decide) (fun c97 => ?_) (fun c97 => ?_)
        · replace hf := it c97 hf
          refine lv_iconst (v := (0 : Int32)) G.1 G.2.1 dX5_goesAhead_104 (by decide) ?_
          refine lv_goto (tgt := 118) G.1 G.2.1 dX5_goesAhead_105 (by decide) ?_
          cases hf
          exact k_zret G hr hlk hK hW rfl dX5_goesAhead_118
        · replace hf := ie c97 hf
          refine lv_iconst (v := (1 : Int32)) G.1 G.2.1 dX5_goesAhead_100 (by decide) ?_
          refine lv_goto (tgt := 118) G.1 G.2.1 dX5_goesAhead_101 (by decide) ?_
          cases hf
          exact k_zret G hr hlk hK hW rfl dX5_goesAhead_118
    · replace hf := ie c32 hf
      refine lv_aload_n G.1 G.2.1 dX5_goesAhead_35 rfl (lv_at hl 0 rfl) ?_
      refine k_get G inlX5 hK hW 0 rfl rfl 6 (by decide) q_4_9 rfl dX5_goesAhead_36 ?_
      refine lv_aload_n G.1 G.2.1 dX5_goesAhead_39 rfl (lv_at hl 0 rfl) ?_
      refine lv_iload_n G.1 G.2.1 dX5_goesAhead_40 rfl (lv_at hl 1 rfl) ?_
      refine lv_iconst (v := (0 : Int32)) G.1 G.2.1 dX5_goesAhead_41 (by decide) ?_
      obtain ⟨v14, ev14, hf⟩ := ob hf
      refine kc_i (wr := []) (w := wM cy h σ) (w' := wM cy h σ) (n := 2) (As := [.int x1, .int (0 : Int32)]) (C := RX5) G hK hA hW (mX5_of l D cy h _ n σ x1 (0 : Int32) ev14) (gV q_8_22 q_8_23 q_9_0 q_1_5 q_9_1) ⟨rfl, rfl⟩ (by decide +kernel) ⟨Nat.le_of_ble_eq_true rfl, Nat.le_of_ble_eq_true rfl⟩ (va_recv hK.1 hW.1 (ci := 7) (q0 := 0) rfl rfl) rfl hl.1 rfl (Nat.le_of_ble_eq_true rfl) dX5_goesAhead_42 ⟨Nat.le_of_ble_eq_true rfl, Nat.le_of_ble_eq_true rfl⟩ (fun H locs hW => ?_)
      obtain ⟨v15, ev15, hf⟩ := ob hf
      refine k_ald G hK hW 4 rfl ev15 dX5_goesAhead_45 ?_
      refine lv_aload_n G.1 G.2.1 dX5_goesAhead_46 rfl (lv_at hl 0 rfl) ?_
      refine k_get G inlX5 hK hW 0 rfl rfl 6 (by decide) q_4_9 rfl dX5_goesAhead_47 ?_
      refine lv_aload_n G.1 G.2.1 dX5_goesAhead_50 rfl (lv_at hl 0 rfl) ?_
      refine lv_iload_n G.1 G.2.1 dX5_goesAhead_51 rfl (lv_at hl 2 rfl) ?_
      refine lv_iconst (v := (0 : Int32)) G.1 G.2.1 dX5_goesAhead_52 (by decide) ?_
      obtain ⟨v16, ev16, hf⟩ := ob hf
      refine kc_i (wr := []) (w := wM cy h σ) (w' := wM cy h σ) (n := 2) (As := [.int x2, .int (0 : Int32)]) (C := RX5) G hK hA hW (mX5_of l D cy h _ n σ x2 (0 : Int32) ev16) (gV q_8_22 q_8_23 q_9_0 q_1_5 q_9_1) ⟨rfl, rfl⟩ (by decide +kernel) ⟨Nat.le_of_ble_eq_true rfl, Nat.le_of_ble_eq_true rfl⟩ (va_recv hK.1 hW.1 (ci := 7) (q0 := 0) rfl rfl) rfl hl.1 rfl (Nat.le_of_ble_eq_true rfl) dX5_goesAhead_53 ⟨Nat.le_of_ble_eq_true rfl, Nat.le_of_ble_eq_true rfl⟩ (fun H locs hW => ?_)
      obtain ⟨v17, ev17, hf⟩ := ob hf
      refine k_ald G hK hW 4 rfl ev17 dX5_goesAhead_56 ?_
      refine lv_icmp_ge (tgt := 64) G.1 G.2.1 dX5_goesAhead_57 (by decide) (fun c57 => ?_) (fun c57 => ?_)
      · replace hf := it c57 hf
        refine lv_iconst (v := (0 : Int32)) G.1 G.2.1 dX5_goesAhead_64 (by decide) ?_
        cases hf
        exact k_zret G hr hlk hK hW rfl dX5_goesAhead_65
      · replace hf := ie c57 hf
        refine lv_iconst (v := (1 : Int32)) G.1 G.2.1 dX5_goesAhead_60 (by decide) ?_
        refine lv_goto (tgt := 65) G.1 G.2.1 dX5_goesAhead_61 (by decide) ?_
        cases hf
        exact k_zret G hr hlk hK hW rfl dX5_goesAhead_65

set_option maxHeartbeats 4000000 in
set_option maxRecDepth 100000 in
theorem mX5_replans (l : Launch) (D : va_G) (cy : ClassId) (h : Nat → Nat) (sz n : Nat) (σ : St) {σ' : St} (hf : fX5_replans n σ = some σ') : Mv l yX5_replans (ws_ yX5_replans cX5_replans 5 none) { frames := 6, cells := 0, slots := 0, locals := 140 } D cy (wM cy h σ) (wM cy h σ') sz [.ref (h 10)] := by
  refine Met.ofW (cc := cX5_replans) (maxL := 5) (ret := none) (by decide) rfl ?_
  intro p e s m args below meth c s₁ B hml hv
  obtain ⟨rfl, hsz, hP, hK, hD0⟩ := hv
  subst hsz
  have hts := atoms_spec (ws := ws_ yX5_replans cX5_replans 5 none) B.pre
  have G : CallFix p m c cX5_replans 5 s _ wA RX5 := ⟨B.exec, B.bytes, hml, findClass_of_methodNamed B.named, fun w h => hts w (List.mem_cons_of_mem _ h)⟩
  have hr := B.returns
  have hlk := B.notSynchronized
  have hW : KW D (va_A (wM cy h σ) s.heap.size) s.heap (wM cy h σ) s.heap [] := ⟨hP, hD0.self, va_S.rf⟩
  have hA : ∀ q, s.heap.size ≤ q → va_A (wM cy h σ) s.heap.size q := fun q h => Or.inr h
  have hl := lv_entry ([.ref (h 10)]) (n := 5) (Nat.le_of_ble_eq_true rfl)
  rw [lg_entry_eq]
  generalize (lg_sl ([.ref (h 10)]) ++ List.replicate (5 - (lg_sl ([.ref (h 10)])).length) Slot.unset).toArray = ls at hl ⊢
  have hl : lv_has ls 5 [(0, .ref (h 10))] := hl
  unfold fX5_replans at hf
  refine lv_iconst (v := (0 : Int32)) G.1 G.2.1 dX5_replans_0 (by decide) ?_
  refine lv_istore_n (lv' := [(1, .int (0 : Int32)), (0, .ref (h 10))]) G.1 G.2.1 dX5_replans_1 rfl hl (by decide) rfl (fun ls hl => ?_)
  have K2_24 : ∀ (y1 : Int32) (s2 : St) (H : Heap) (locs : List Loc) (ls : Array Slot), fX5_replans_k2_24 n y1 s2 = some σ' → KW D (va_A (wM cy h σ) s.heap.size) s.heap (wM cy h s2) H locs → lv_has ls 5 [(1, .int y1), (0, .ref (h 10))] → W p l e (headSpec (ws_ yX5_replans cX5_replans 5 none) { frames := 6, cells := 0, slots := 0, locals := 140 }).room s m (([.ref (h 10)] : List Value).toArray) below meth c H locs 0 0 (MQ below (va_Qv (fun (_ : Unit) => True) (fun _ => KB D (va_A (wM cy h σ) s.heap.size) (wM cy h σ')) (va_A (wM cy h σ) s.heap.size)) (([.ref (h 10)] : List Value).toArray) s 0 0 (va_A (wM cy h σ) s.heap.size)) (F0 m 24 ls []) := by
    intro y1 s2 H locs ls hf hW hl
    unfold fX5_replans_k2_24 at hf
    refine lv_iconst (v := (0 : Int32)) G.1 G.2.1 dX5_replans_24 (by decide) ?_
    refine lv_istore_n (lv' := [(1, .int (0 : Int32)), (0, .ref (h 10))]) G.1 G.2.1 dX5_replans_25 rfl hl (by decide) rfl (fun ls hl => ?_)
    refine lv_iconst (v := (0 : Int32)) G.1 G.2.1 dX5_replans_26 (by decide) ?_
    refine lv_istore_n (lv' := [(2, .int (0 : Int32)), (1, .int (0 : Int32)), (0, .ref (h 10))]) G.1 G.2.1 dX5_replans_27 rfl hl (by decide) rfl (fun ls hl => ?_)
    have K28_108 : ∀ (y3 : Int32) (y4 : Int32) (s5 : St) (H : Heap) (locs : List Loc) (ls : Array Slot), fX5_replans_k28_108 n y3 y4 s5 = some σ' → KW D (va_A (wM cy h σ) s.heap.size) s.heap (wM cy h s5) H locs → lv_has ls 5 [(2, .int y3), (1, .int y4), (0, .ref (h 10))] → W p l e (headSpec (ws_ yX5_replans cX5_replans 5 none) { frames := 6, cells := 0, slots := 0, locals := 140 }).room s m (([.ref (h 10)] : List Value).toArray) below meth c H locs 0 0 (MQ below (va_Qv (fun (_ : Unit) => True) (fun _ => KB D (va_A (wM cy h σ) s.heap.size) (wM cy h σ')) (va_A (wM cy h σ) s.heap.size)) (([.ref (h 10)] : List Value).toArray) s 0 0 (va_A (wM cy h σ) s.heap.size)) (F0 m 108 ls []) := by
      intro y3 y4 s5 H locs ls hf hW hl
      unfold fX5_replans_k28_108 at hf
      refine lv_iconst (v := (0 : Int32)) G.1 G.2.1 dX5_replans_108 (by decide) ?_
      refine lv_istore_n (lv' := [(2, .int (0 : Int32)), (1, .int y4), (0, .ref (h 10))]) G.1 G.2.1 dX5_replans_109 rfl hl (by decide) rfl (fun ls hl => ?_)
      have L110 : ∀ (fu : Nat) (y6 : Int32) (s7 : St) (H : Heap) (locs : List Loc) (ls : Array Slot), lz2 (fX5_replans_b110 n y4) fu y6 s7 = some σ' → KW D (va_A (wM cy h σ) s.heap.size) s.heap (wM cy h s7) H locs → lv_has ls 5 [(2, .int y6), (1, .int y4), (0, .ref (h 10))] → W p l e (headSpec (ws_ yX5_replans cX5_replans 5 none) { frames := 6, cells := 0, slots := 0, locals := 140 }).room s m (([.ref (h 10)] : List Value).toArray) below meth c H locs 0 0 (MQ below (va_Qv (fun (_ : Unit) => True) (fun _ => KB D (va_A (wM cy h σ) s.heap.size) (wM cy h σ')) (va_A (wM cy h σ) s.heap.size)) (([.ref (h 10)] : List Value).toArray) s 0 0 (va_A (wM cy h σ) s.heap.size)) (F0 m 110 ls []) := by
        intro fu110
        induction fu110 with
        | zero => intro y6 s7 H locs ls hf; cases hf
        | succ fu110 ih110 =>
          intro y6 s7 H locs ls hf hW hl
          rw [lz2_s] at hf
          unfold fX5_replans_b110 at hf
          refine lv_iload_n G.1 G.2.1 dX5_replans_110 rfl (lv_at hl 0 rfl) ?_
          refine lv_iload_n G.1 G.2.1 dX5_replans_111 rfl (lv_at hl 1 rfl) ?_
          refine lv_icmp_ge (tgt := 167) G.1 G.2.1 dX5_replans_112 (by decide) (fun c112 => ?_) (fun c112 => ?_)
          · replace hf := it c112 hf
            cases hf
            exact k_vret G hr hlk hK hW dX5_replans_167
          · replace hf := ie c112 hf
            refine lv_aload_n G.1 G.2.1 dX5_replans_115 rfl (lv_at hl 2 rfl) ?_
            refine k_get G inlX5 hK hW 0 rfl rfl 5 (by decide) q_4_8 rfl dX5_replans_116 ?_
            refine lv_iload_n G.1 G.2.1 dX5_replans_119 rfl (lv_at hl 0 rfl) ?_
            obtain ⟨v9, ev9, hf⟩ := ob hf
            refine k_ald G hK hW 3 rfl ev9 dX5_replans_120 ?_
            refine lv_istore_n (lv' := [(3, .int v9), (2, .int y6), (1, .int y4), (0, .ref (h 10))]) G.1 G.2.1 dX5_replans_121 rfl hl (by decide) rfl (fun ls hl => ?_)
            refine lv_aload_n G.1 G.2.1 dX5_replans_122 rfl (lv_at hl 3 rfl) ?_
            refine lv_iload_n G.1 G.2.1 dX5_replans_123 rfl (lv_at hl 0 rfl) ?_
            refine lv_bipush (v := (6 : Int32)) G.1 G.2.1 dX5_replans_124 (by decide) ?_
            obtain ⟨v10, ev10, hf⟩ := ob hf
            refine kc_i (wr := []) (w := wM cy h s7) (w' := wM cy h s7) (n := 2) (As := [.int v9, .int (6 : Int32)]) (C := RX5) G hK hA hW (mX5_of l D cy h _ n s7 v9 (6 : Int32) ev10) (gV q_8_22 q_8_23 q_9_0 q_1_5 q_9_1) ⟨rfl, rfl⟩ (by decide +kernel) ⟨Nat.le_of_ble_eq_true rfl, Nat.le_of_ble_eq_true rfl⟩ (va_recv hK.1 hW.1 (ci := 7) (q0 := 0) rfl rfl) rfl hl.1 rfl (Nat.le_of_ble_eq_true rfl) dX5_replans_126 ⟨Nat.le_of_ble_eq_true rfl, Nat.le_of_ble_eq_true rfl⟩ (fun H locs hW => ?_)
            refine lv_istore (lv' := [(4, .int v10), (3, .int v9), (2, .int y6), (1, .int y4), (0, .ref (h 10))]) G.1 G.2.1 dX5_replans_129 hl (by decide) rfl (fun ls hl => ?_)
            refine lv_aload_n G.1 G.2.1 dX5_replans_131 rfl (lv_at hl 4 rfl) ?_
            refine lv_iload_n G.1 G.2.1 dX5_replans_132 rfl (lv_at hl 1 rfl) ?_
            refine lv_iconst (v := (4 : Int32)) G.1 G.2.1 dX5_replans_133 (by decide) ?_
            refine lv_iconst (v := (4 : Int32)) G.1 G.2.1 dX5_replans_134 (by decide) ?_
            obtain ⟨s11, es11, hf⟩ := ob hf
            refine kc_v (wr := []) (w := wM cy h s7) (w' := wM cy h s11) (n := 3) (As := [.int v9, .int (4 : Int32), .int (4 : Int32)]) (C := RX5) G hK hA hW (mX5_put l D cy h _ n s7 v9 (4 : Int32) (4 : Int32) es11) (gV q_8_10 q_8_11 q_8_12 q_1_5 q_8_13) ⟨rfl, rfl⟩ (by decide +kernel) ⟨Nat.le_of_ble_eq_true rfl, Nat.le_of_ble_eq_true rfl⟩ (va_recv hK.1 hW.1 (ci := 7) (q0 := 0) rfl rfl) rfl hl.1 rfl (Nat.le_of_ble_eq_true rfl) dX5_replans_135 ⟨Nat.le_of_ble_eq_true rfl, Nat.le_of_ble_eq_true rfl⟩ (fun H locs hW => ?_)
            refine lv_aload_n G.1 G.2.1 dX5_replans_138 rfl (lv_at hl 4 rfl) ?_
            refine lv_iload_n G.1 G.2.1 dX5_replans_139 rfl (lv_at hl 1 rfl) ?_
            obtain ⟨s12, es12, hf⟩ := ob hf
            refine kc_v (wr := []) (w := wM cy h s11) (w' := wM cy h s12) (n := 1) (As := [.int v9]) (C := RX5) G hK hA hW (mX5_plans l D cy h _ n s11 v9 es12) (gV q_8_18 q_8_19 q_8_20 q_1_5 q_8_21) ⟨rfl, rfl⟩ (by decide +kernel) ⟨Nat.le_of_ble_eq_true rfl, Nat.le_of_ble_eq_true rfl⟩ (va_recv hK.1 hW.1 (ci := 7) (q0 := 0) rfl rfl) rfl hl.1 rfl (Nat.le_of_ble_eq_true rfl) dX5_replans_140 ⟨Nat.le_of_ble_eq_true rfl, Nat.le_of_ble_eq_true rfl⟩ (fun H locs hW => ?_)
            refine lv_aload_n G.1 G.2.1 dX5_replans_143 rfl (lv_at hl 4 rfl) ?_
            refine lv_iload_n G.1 G.2.1 dX5_replans_144 rfl (lv_at hl 1 rfl) ?_
            refine lv_bipush (v := (6 : Int32)) G.1 G.2.1 dX5_replans_145 (by decide) ?_
            obtain ⟨v13, ev13, hf⟩ := ob hf
            refine kc_i (wr := []) (w := wM cy h s12) (w' := wM cy h s12) (n := 2) (As := [.int v9, .int (6 : Int32)]) (C := RX5) G hK hA hW (mX5_of l D cy h _ n s12 v9 (6 : Int32) ev13) (gV q_8_22 q_8_23 q_9_0 q_1_5 q_9_1) ⟨rfl, rfl⟩ (by decide +kernel) ⟨Nat.le_of_ble_eq_true rfl, Nat.le_of_ble_eq_true rfl⟩ (va_recv hK.1 hW.1 (ci := 7) (q0 := 0) rfl rfl) rfl hl.1 rfl (Nat.le_of_ble_eq_true rfl) dX5_replans_147 ⟨Nat.le_of_ble_eq_true rfl, Nat.le_of_ble_eq_true rfl⟩ (fun H locs hW => ?_)
            refine lv_iload G.1 G.2.1 dX5_replans_150 (lv_at hl 0 rfl) ?_
            refine lv_icmp_ge (tgt := 161) G.1 G.2.1 dX5_replans_152 (by decide) (fun c152 => ?_) (fun c152 => ?_)
            · replace hf := it c152 hf
              refine lv_iinc (v := (y6 + (1 : Int32))) (lv' := [(2, .int (y6 + (1 : Int32))), (4, .int v10), (3, .int v9), (1, .int y4), (0, .ref (h 10))]) G.1 G.2.1 dX5_replans_161 hl (k := 2) rfl (congrArg (y6 + ·) (by decide)) (by decide) rfl (fun ls hl => ?_)
              refine lv_goto (tgt := 110) G.1 G.2.1 dX5_replans_164 (by decide) ?_
              exact ih110 _ _ _ _ _ hf hW (lv_sub hl [0, 3, 4] rfl)
            · replace hf := ie c152 hf
              refine lv_aload_n G.1 G.2.1 dX5_replans_155 rfl (lv_at hl 4 rfl) ?_
              refine lv_iconst (v := (5 : Int32)) G.1 G.2.1 dX5_replans_156 (by decide) ?_
              refine lv_iload_n G.1 G.2.1 dX5_replans_157 rfl (lv_at hl 1 rfl) ?_
              obtain ⟨s14, es14, hf⟩ := ob hf
              refine kc_v (wr := []) (w := wM cy h s12) (w' := wM cy h s14) (n := 2) (As := [.int (5 : Int32), .int v9]) (C := RX5) G hK hA hW (mX5_records l D cy h _ n s12 (5 : Int32) v9 es14) (gV q_8_14 q_8_15 q_8_16 q_1_5 q_8_17) ⟨rfl, rfl⟩ (by decide +kernel) ⟨Nat.le_of_ble_eq_true rfl, Nat.le_of_ble_eq_true rfl⟩ (va_recv hK.1 hW.1 (ci := 7) (q0 := 0) rfl rfl) rfl hl.1 rfl (Nat.le_of_ble_eq_true rfl) dX5_replans_158 ⟨Nat.le_of_ble_eq_true rfl, Nat.le_of_ble_eq_true rfl⟩ (fun H locs hW => ?_)
              refine lv_iinc (v := (y6 + (1 : Int32))) (lv' := [(2, .int (y6 + (1 : Int32))), (4, .int v10), (3, .int v9), (1, .int y4), (0, .ref (h 10))]) G.1 G.2.1 dX5_replans_161 hl (k := 2) rfl (congrArg (y6 + ·) (by decide)) (by decide) rfl (fun ls hl => ?_)
              refine lv_goto (tgt := 110) G.1 G.2.1 dX5_replans_164 (by decide) ?_
              exact ih110 _ _ _ _ _ hf hW (lv_sub hl [0, 3, 4] rfl)
      exact L110 _ _ _ _ _ _ hf hW (lv_sub hl [0, 1, 2] rfl)
    have L28 : ∀ (fu : Nat) (y15 : Int32) (y16 : Int32) (s17 : St) (H : Heap) (locs : List Loc) (ls : Array Slot), lz3 (fX5_replans_b28 n) fu y15 y16 s17 = some σ' → KW D (va_A (wM cy h σ) s.heap.size) s.heap (wM cy h s17) H locs → lv_has ls 5 [(2, .int y15), (1, .int y16), (0, .ref (h 10))] → W p l e (headSpec (ws_ yX5_replans cX5_replans 5 none) { frames := 6, cells := 0, slots := 0, locals := 140 }).room s m (([.ref (h 10)] : List Value).toArray) below meth c H locs 0 0 (MQ below (va_Qv (fun (_ : Unit) => True) (fun _ => KB D (va_A (wM cy h σ) s.heap.size) (wM cy h σ')) (va_A (wM cy h σ) s.heap.size)) (([.ref (h 10)] : List Value).toArray) s 0 0 (va_A (wM cy h σ) s.heap.size)) (F0 m 28 ls []) := by
      intro fu28
      induction fu28 with
      | zero => intro y15 y16 s17 H locs ls hf; cases hf
      | succ fu28 ih28 =>
        intro y15 y16 s17 H locs ls hf hW hl
        rw [lz3_s] at hf
        unfold fX5_replans_b28 at hf
        refine lv_iload_n G.1 G.2.1 dX5_replans_28 rfl (lv_at hl 0 rfl) ?_
        refine lv_aload_n G.1 G.2.1 dX5_replans_29 rfl (lv_at hl 2 rfl) ?_
        refine k_get G inlX5 hK hW 0 rfl rfl 0 (by decide) q_4_6 rfl dX5_replans_30 ?_
        refine lv_iconst (v := (1 : Int32)) G.1 G.2.1 dX5_replans_33 (by decide) ?_
        obtain ⟨v19, ev19, hf⟩ := ob hf
        refine k_ald G hK hW 1 rfl ev19 dX5_replans_34 ?_
        refine lv_icmp_ge (tgt := 108) G.1 G.2.1 dX5_replans_35 (by decide) (fun c35 => ?_) (fun c35 => ?_)
        · replace hf := it c35 hf
          exact K28_108 _ _ _ _ _ _ hf hW (lv_sub hl [0, 1, 2] rfl)
        · replace hf := ie c35 hf
          refine lv_aload_n G.1 G.2.1 dX5_replans_38 rfl (lv_at hl 2 rfl) ?_
          refine lv_iload_n G.1 G.2.1 dX5_replans_39 rfl (lv_at hl 0 rfl) ?_
          refine lv_iconst (v := (4 : Int32)) G.1 G.2.1 dX5_replans_40 (by decide) ?_
          obtain ⟨v20, ev20, hf⟩ := ob hf
          refine kc_i (wr := []) (w := wM cy h s17) (w' := wM cy h s17) (n := 2) (As := [.int y15, .int (4 : Int32)]) (C := RX5) G hK hA hW (mX5_of l D cy h _ n s17 y15 (4 : Int32) ev20) (gV q_8_22 q_8_23 q_9_0 q_1_5 q_9_1) ⟨rfl, rfl⟩ (by decide +kernel) ⟨Nat.le_of_ble_eq_true rfl, Nat.le_of_ble_eq_true rfl⟩ (va_recv hK.1 hW.1 (ci := 7) (q0 := 0) rfl rfl) rfl hl.1 rfl (Nat.le_of_ble_eq_true rfl) dX5_replans_41 ⟨Nat.le_of_ble_eq_true rfl, Nat.le_of_ble_eq_true rfl⟩ (fun H locs hW => ?_)
          refine lv_if_eq (tgt := 50) G.1 G.2.1 dX5_replans_44 (by decide) (fun c44 => ?_) (fun c44 => ?_)
          · replace hf := it c44 hf
            refine lv_iload_n G.1 G.2.1 dX5_replans_50 rfl (lv_at hl 1 rfl) ?_
            refine lv_iinc (v := (y16 + (1 : Int32))) (lv' := [(1, .int (y16 + (1 : Int32))), (2, .int y15), (0, .ref (h 10))]) G.1 G.2.1 dX5_replans_51 hl (k := 1) rfl (congrArg (y16 + ·) (by decide)) (by decide) rfl (fun ls hl => ?_)
            refine lv_istore_n (lv' := [(3, .int y16), (1, .int (y16 + (1 : Int32))), (2, .int y15), (0, .ref (h 10))]) G.1 G.2.1 dX5_replans_54 rfl hl (by decide) rfl (fun ls hl => ?_)
            have K55_95 : ∀ (y21 : Int32) (s22 : St) (H : Heap) (locs : List Loc) (ls : Array Slot), fX5_replans_k55_95 y15 y16 (lz3 (fX5_replans_b28 n) fu28) y21 s22 = some σ' → KW D (va_A (wM cy h σ) s.heap.size) s.heap (wM cy h s22) H locs → lv_has ls 5 [(3, .int y21), (1, .int (y16 + (1 : Int32))), (2, .int y15), (0, .ref (h 10))] → W p l e (headSpec (ws_ yX5_replans cX5_replans 5 none) { frames := 6, cells := 0, slots := 0, locals := 140 }).room s m (([.ref (h 10)] : List Value).toArray) below meth c H locs 0 0 (MQ below (va_Qv (fun (_ : Unit) => True) (fun _ => KB D (va_A (wM cy h σ) s.heap.size) (wM cy h σ')) (va_A (wM cy h σ) s.heap.size)) (([.ref (h 10)] : List Value).toArray) s 0 0 (va_A (wM cy h σ) s.heap.size)) (F0 m 95 ls []) := by
              intro y21 s22 H locs ls hf hW hl
              unfold fX5_replans_k55_95 at hf
              refine lv_aload_n G.1 G.2.1 dX5_replans_95 rfl (lv_at hl 3 rfl) ?_
              refine k_get G inlX5 hK hW 0 rfl rfl 5 (by decide) q_4_8 rfl dX5_replans_96 ?_
              refine lv_iload_n G.1 G.2.1 dX5_replans_99 rfl (lv_at hl 0 rfl) ?_
              refine lv_iload_n G.1 G.2.1 dX5_replans_100 rfl (lv_at hl 2 rfl) ?_
              obtain ⟨s23, es23, hf⟩ := ob hf
              refine k_ast (w := wM cy h) G hK hW 3 2 24 rfl (fun _ => rfl) es23 dX5_replans_101 (fun H locs hW => ?_)
              refine lv_iinc (v := (y15 + (1 : Int32))) (lv' := [(2, .int (y15 + (1 : Int32))), (3, .int y21), (1, .int (y16 + (1 : Int32))), (0, .ref (h 10))]) G.1 G.2.1 dX5_replans_102 hl (k := 2) rfl (congrArg (y15 + ·) (by decide)) (by decide) rfl (fun ls hl => ?_)
              refine lv_goto (tgt := 28) G.1 G.2.1 dX5_replans_105 (by decide) ?_
              exact ih28 _ _ _ _ _ _ hf hW (lv_sub hl [0, 2, 3] rfl)
            have L55 : ∀ (fu : Nat) (y24 : Int32) (s25 : St) (H : Heap) (locs : List Loc) (ls : Array Slot), lz2 (fX5_replans_b55 n y15 y16 (lz3 (fX5_replans_b28 n) fu28)) fu y24 s25 = some σ' → KW D (va_A (wM cy h σ) s.heap.size) s.heap (wM cy h s25) H locs → lv_has ls 5 [(3, .int y24), (1, .int (y16 + (1 : Int32))), (2, .int y15), (0, .ref (h 10))] → W p l e (headSpec (ws_ yX5_replans cX5_replans 5 none) { frames := 6, cells := 0, slots := 0, locals := 140 }).room s m (([.ref (h 10)] : List Value).toArray) below meth c H locs 0 0 (MQ below (va_Qv (fun (_ : Unit) => True) (fun _ => KB D (va_A (wM cy h σ) s.heap.size) (wM cy h σ')) (va_A (wM cy h σ) s.heap.size)) (([.ref (h 10)] : List Value).toArray) s 0 0 (va_A (wM cy h σ) s.heap.size)) (F0 m 55 ls []) := by
              intro fu55
              induction fu55 with
              | zero => intro y24 s25 H locs ls hf; cases hf
              | succ fu55 ih55 =>
                intro y24 s25 H locs ls hf hW hl
                rw [lz2_s] at hf
                unfold fX5_replans_b55 at hf
                refine lv_iload_n G.1 G.2.1 dX5_replans_55 rfl (lv_at hl 0 rfl) ?_
                refine lv_if_le (tgt := 95) G.1 G.2.1 dX5_replans_56 (by decide) (fun c56 => ?_) (fun c56 => ?_)
                · replace hf := it c56 hf
                  exact K55_95 _ _ _ _ _ hf hW (lv_sub hl [0, 1, 2, 3] rfl)
                · replace hf := ie c56 hf
                  refine lv_aload_n G.1 G.2.1 dX5_replans_59 rfl (lv_at hl 3 rfl) ?_
                  refine lv_iload_n G.1 G.2.1 dX5_replans_60 rfl (lv_at hl 2 rfl) ?_
                  refine lv_aload_n G.1 G.2.1 dX5_replans_61 rfl (lv_at hl 3 rfl) ?_
                  refine k_get G inlX5 hK hW 0 rfl rfl 5 (by decide) q_4_8 rfl dX5_replans_62 ?_
                  refine lv_iload_n G.1 G.2.1 dX5_replans_65 rfl (lv_at hl 0 rfl) ?_
                  refine lv_iconst (v := (1 : Int32)) G.1 G.2.1 dX5_replans_66 (by decide) ?_
                  refine lv_isub G.1 G.2.1 dX5_replans_67 ?_
                  obtain ⟨v27, ev27, hf⟩ := ob hf
                  refine k_ald G hK hW 3 rfl ev27 dX5_replans_68 ?_
                  obtain ⟨v28, ev28, hf⟩ := ob hf
                  refine kc_i (wr := []) (w := wM cy h s25) (w' := wM cy h s25) (n := 2) (As := [.int y15, .int v27]) (C := RX5) G hK hA hW (mX5_goesAhead l D cy h _ n s25 y15 v27 ev28) (gV q_13_13 q_13_14 q_13_15 q_1_5 q_13_16) ⟨rfl, rfl⟩ (by decide +kernel) ⟨Nat.le_of_ble_eq_true rfl, Nat.le_of_ble_eq_true rfl⟩ (va_recv hK.1 hW.1 (ci := 7) (q0 := 0) rfl rfl) rfl hl.1 rfl (Nat.le_of_ble_eq_true rfl) dX5_replans_69 ⟨Nat.le_of_ble_eq_true rfl, Nat.le_of_ble_eq_true rfl⟩ (fun H locs hW => ?_)
                  refine lv_if_eq (tgt := 95) G.1 G.2.1 dX5_replans_72 (by decide) (fun c72 => ?_) (fun c72 => ?_)
                  · replace hf := it c72 hf
                    exact K55_95 _ _ _ _ _ hf hW (lv_sub hl [0, 1, 2, 3] rfl)
                  · replace hf := ie c72 hf
                    refine lv_aload_n G.1 G.2.1 dX5_replans_75 rfl (lv_at hl 3 rfl) ?_
                    refine k_get G inlX5 hK hW 0 rfl rfl 5 (by decide) q_4_8 rfl dX5_replans_76 ?_
                    refine lv_iload_n G.1 G.2.1 dX5_replans_79 rfl (lv_at hl 0 rfl) ?_
                    refine lv_aload_n G.1 G.2.1 dX5_replans_80 rfl (lv_at hl 3 rfl) ?_
                    refine k_get G inlX5 hK hW 0 rfl rfl 5 (by decide) q_4_8 rfl dX5_replans_81 ?_
                    refine lv_iload_n G.1 G.2.1 dX5_replans_84 rfl (lv_at hl 0 rfl) ?_
                    refine lv_iconst (v := (1 : Int32)) G.1 G.2.1 dX5_replans_85 (by decide) ?_
                    refine lv_isub G.1 G.2.1 dX5_replans_86 ?_
                    obtain ⟨v29, ev29, hf⟩ := ob hf
                    refine k_ald G hK hW 3 rfl ev29 dX5_replans_87 ?_
                    obtain ⟨s30, es30, hf⟩ := ob hf
                    refine k_ast (w := wM cy h) G hK hW 3 2 24 rfl (fun _ => rfl) es30 dX5_replans_88 (fun H locs hW => ?_)
                    refine lv_iinc (v := (y24 + (-1 : Int32))) (lv' := [(3, .int (y24 + (-1 : Int32))), (1, .int (y16 + (1 : Int32))), (2, .int y15), (0, .ref (h 10))]) G.1 G.2.1 dX5_replans_89 hl (k := 0) rfl (congrArg (y24 + ·) (by decide)) (by decide) rfl (fun ls hl => ?_)
                    refine lv_goto (tgt := 55) G.1 G.2.1 dX5_replans_92 (by decide) ?_
                    exact ih55 _ _ _ _ _ hf hW (lv_sub hl [0, 1, 2, 3] rfl)
            exact L55 _ _ _ _ _ _ hf hW (lv_sub hl [0, 1, 2, 3] rfl)
          · replace hf := ie c44 hf
            refine lv_goto (tgt := 102) G.1 G.2.1 dX5_replans_47 (by decide) ?_
            refine lv_iinc (v := (y15 + (1 : Int32))) (lv' := [(2, .int (y15 + (1 : Int32))), (1, .int y16), (0, .ref (h 10))]) G.1 G.2.1 dX5_replans_102 hl (k := 0) rfl (congrArg (y15 + ·) (by decide)) (by decide) rfl (fun ls hl => ?_)
            refine lv_goto (tgt := 28) G.1 G.2.1 dX5_replans_105 (by decide) ?_
            exact ih28 _ _ _ _ _ _ hf hW (lv_sub hl [0, 1, 2] rfl)
    exact L28 _ _ _ _ _ _ _ hf hW (lv_sub hl [0, 1, 2] rfl)
  have L2 : ∀ (fu : Nat) (y31 : Int32) (s32 : St) (H : Heap) (locs : List Loc) (ls : Array Slot), lz2 (fX5_replans_b2 n) fu y31 s32 = some σ' → KW D (va_A (wM cy h σ) s.heap.size) s.heap (wM cy h s32) H locs → lv_has ls 5 [(1, .int y31), (0, .ref (h 10))] → W p l e (headSpec (ws_ yX5_replans cX5_replans 5 none) { frames := 6, cells := 0, slots := 0, locals := 140 }).room s m (([.ref (h 10)] : List Value).toArray) below meth c H locs 0 0 (MQ below (va_Qv (fun (_ : Unit) => True) (fun _ => KB D (va_A (wM cy h σ) s.heap.size) (wM cy h σ')) (va_A (wM cy h σ) s.heap.size)) (([.ref (h 10)] : List Value).toArray) s 0 0 (va_A (wM cy h σ) s.heap.size)) (F0 m 2 ls []) := by
    intro fu2
    induction fu2 with
    | zero => intro y31 s32 H locs ls hf; cases hf
    | succ fu2 ih2 =>
      intro y31 s32 H locs ls hf hW hl
      rw [lz2_s] at hf
      unfold fX5_replans_b2 at hf
      refine lv_iload_n G.1 G.2.1 dX5_replans_2 rfl (lv_at hl 0 rfl) ?_
      refine lv_iconst (v := (4 : Int32)) G.1 G.2.1 dX5_replans_3 (by decide) ?_
      refine lv_icmp_ge (tgt := 24) G.1 G.2.1 dX5_replans_4 (by decide) (fun c4 => ?_) (fun c4 => ?_)
      · replace hf := it c4 hf
        exact K2_24 _ _ _ _ _ hf hW (lv_sub hl [0, 1] rfl)
      · replace hf := ie c4 hf
        refine lv_aload_n G.1 G.2.1 dX5_replans_7 rfl (lv_at hl 1 rfl) ?_
        refine k_get G inlX5 hK hW 0 rfl rfl 6 (by decide) q_4_9 rfl dX5_replans_8 ?_
        refine lv_iload_n G.1 G.2.1 dX5_replans_11 rfl (lv_at hl 0 rfl) ?_
        refine lv_aload_n G.1 G.2.1 dX5_replans_12 rfl (lv_at hl 1 rfl) ?_
        refine lv_iload_n G.1 G.2.1 dX5_replans_13 rfl (lv_at hl 0 rfl) ?_
        obtain ⟨v34, ev34, hf⟩ := ob hf
        refine kc_i (wr := []) (w := wM cy h s32) (w' := wM cy h s32) (n := 1) (As := [.int y31]) (C := RX5) G hK hA hW (mX5_used l D cy h _ n s32 y31 ev34) (gV q_13_5 q_13_6 q_13_7 q_1_5 q_13_8) ⟨rfl, rfl⟩ (by decide +kernel) ⟨Nat.le_of_ble_eq_true rfl, Nat.le_of_ble_eq_true rfl⟩ (va_recv hK.1 hW.1 (ci := 7) (q0 := 0) rfl rfl) rfl hl.1 rfl (Nat.le_of_ble_eq_true rfl) dX5_replans_14 ⟨Nat.le_of_ble_eq_true rfl, Nat.le_of_ble_eq_true rfl⟩ (fun H locs hW => ?_)
        obtain ⟨s35, es35, hf⟩ := ob hf
        refine k_ast (w := wM cy h) G hK hW 4 3 4 rfl (fun _ => rfl) es35 dX5_replans_17 (fun H locs hW => ?_)
        refine lv_iinc (v := (y31 + (1 : Int32))) (lv' := [(1, .int (y31 + (1 : Int32))), (0, .ref (h 10))]) G.1 G.2.1 dX5_replans_18 hl (k := 0) rfl (congrArg (y31 + ·) (by decide)) (by decide) rfl (fun ls hl => ?_)
        refine lv_goto (tgt := 2) G.1 G.2.1 dX5_replans_21 (by decide) ?_
        exact ih2 _ _ _ _ _ hf hW (lv_sub hl [0, 1] rfl)
  exact L2 _ _ _ _ _ _ hf hW (lv_sub hl [0, 1] rfl)

set_option maxHeartbeats 4000000 in
set_option maxRecDepth 100000 in
theorem mX5_block (l : Launch) (n : Nat) (x1 : Int32) (x2 : Int32) {r : Int32} (hf : fX5_block n x1 x2 = some r) : Ms l yX5_block (ws_ yX5_block cX5_block 2 (some .int)) { frames := 0, cells := 0, slots := 0, locals := 0 } [.int x1, .int x2] r := by
  refine Met.ofW (cc := cX5_block) (maxL := 2) (ret := (some .int)) (by decide) rfl ?_
  intro p e s m args below meth c s₁ B hml hv
  obtain ⟨rfl, -⟩ := hv
  have hts := atoms_spec (ws := ws_ yX5_block cX5_block 2 (some .int)) B.pre
  have G : CallFix p m c cX5_block 2 s _ wA RX5 := ⟨B.exec, B.bytes, hml, findClass_of_methodNamed B.named, fun w h => hts w (List.mem_cons_of_mem _ h)⟩
  have hr := B.returns
  have hlk := B.notSynchronized
  have hW : KW k_D0 (fun _ => False) s.heap [] s.heap [] := k_W0
  have hl := lv_entry ([.int x1, .int x2]) (n := 2) (Nat.le_of_ble_eq_true rfl)
  rw [lg_entry_eq]
  generalize (lg_sl ([.int x1, .int x2]) ++ List.replicate (2 - (lg_sl ([.int x1, .int x2])).length) Slot.unset).toArray = ls at hl ⊢
  have hl : lv_has ls 2 [(0, .int x1), (1, .int x2)] := hl
  unfold fX5_block at hf
  refine lv_bipush (v := (32 : Int32)) G.1 G.2.1 dX5_block_0 (by decide) ?_
  refine lv_iload_n G.1 G.2.1 dX5_block_2 rfl (lv_at hl 0 rfl) ?_
  refine lv_ishr G.1 G.2.1 dX5_block_3 ?_
  refine lv_iload_n G.1 G.2.1 dX5_block_4 rfl (lv_at hl 1 rfl) ?_
  refine lv_iload_n G.1 G.2.1 dX5_block_5 rfl (lv_at hl 0 rfl) ?_
  refine lv_ishr G.1 G.2.1 dX5_block_6 ?_
  refine lv_iadd G.1 G.2.1 dX5_block_7 ?_
  cases hf
  exact k_siret G hr hlk hW.2.2 dX5_block_8

set_option maxHeartbeats 4000000 in
set_option maxRecDepth 100000 in
theorem mX5_starts (l : Launch) (D : va_G) (cy : ClassId) (h : Nat → Nat) (sz n : Nat) (σ : St) {σ' : St} (hf : fX5_starts n σ = some σ') : Mv l yX5_starts (ws_ yX5_starts cX5_starts 2 none) { frames := 1, cells := 0, slots := 0, locals := 23 } D cy (wM cy h σ) (wM cy h σ') sz [.ref (h 10)] := by
  refine Met.ofW (cc := cX5_starts) (maxL := 2) (ret := none) (by decide) rfl ?_
  intro p e s m args below meth c s₁ B hml hv
  obtain ⟨rfl, hsz, hP, hK, hD0⟩ := hv
  subst hsz
  have hts := atoms_spec (ws := ws_ yX5_starts cX5_starts 2 none) B.pre
  have G : CallFix p m c cX5_starts 2 s _ wA RX5 := ⟨B.exec, B.bytes, hml, findClass_of_methodNamed B.named, fun w h => hts w (List.mem_cons_of_mem _ h)⟩
  have hr := B.returns
  have hlk := B.notSynchronized
  have hW : KW D (va_A (wM cy h σ) s.heap.size) s.heap (wM cy h σ) s.heap [] := ⟨hP, hD0.self, va_S.rf⟩
  have hA : ∀ q, s.heap.size ≤ q → va_A (wM cy h σ) s.heap.size q := fun q h => Or.inr h
  have hl := lv_entry ([.ref (h 10)]) (n := 2) (Nat.le_of_ble_eq_true rfl)
  rw [lg_entry_eq]
  generalize (lg_sl ([.ref (h 10)]) ++ List.replicate (2 - (lg_sl ([.ref (h 10)])).length) Slot.unset).toArray = ls at hl ⊢
  have hl : lv_has ls 2 [(0, .ref (h 10))] := hl
  unfold fX5_starts at hf
  refine lv_iconst (v := (0 : Int32)) G.1 G.2.1 dX5_starts_0 (by decide) ?_
  refine lv_istore_n (lv' := [(1, .int (0 : Int32)), (0, .ref (h 10))]) G.1 G.2.1 dX5_starts_1 rfl hl (by decide) rfl (fun ls hl => ?_)
  have L2 : ∀ (fu : Nat) (y1 : Int32) (s2 : St) (H : Heap) (locs : List Loc) (ls : Array Slot), lz2 (fX5_starts_b2 n) fu y1 s2 = some σ' → KW D (va_A (wM cy h σ) s.heap.size) s.heap (wM cy h s2) H locs → lv_has ls 2 [(1, .int y1), (0, .ref (h 10))] → W p l e (headSpec (ws_ yX5_starts cX5_starts 2 none) { frames := 1, cells := 0, slots := 0, locals := 23 }).room s m (([.ref (h 10)] : List Value).toArray) below meth c H locs 0 0 (MQ below (va_Qv (fun (_ : Unit) => True) (fun _ => KB D (va_A (wM cy h σ) s.heap.size) (wM cy h σ')) (va_A (wM cy h σ) s.heap.size)) (([.ref (h 10)] : List Value).toArray) s 0 0 (va_A (wM cy h σ) s.heap.size)) (F0 m 2 ls []) := by
    intro fu2
    induction fu2 with
    | zero => intro y1 s2 H locs ls hf; cases hf
    | succ fu2 ih2 =>
      intro y1 s2 H locs ls hf hW hl
      rw [lz2_s] at hf
      unfold fX5_starts_b2 at hf
      refine lv_iload_n G.1 G.2.1 dX5_starts_2 rfl (lv_at hl 0 rfl) ?_
      refine lv_aload_n G.1 G.2.1 dX5_starts_3 rfl (lv_at hl 1 rfl) ?_
      refine k_get G inlX5 hK hW 0 rfl rfl 0 (by decide) q_4_6 rfl dX5_starts_4 ?_
      refine lv_iconst (v := (1 : Int32)) G.1 G.2.1 dX5_starts_7 (by decide) ?_
      obtain ⟨v4, ev4, hf⟩ := ob hf
      refine k_ald G hK hW 1 rfl ev4 dX5_starts_8 ?_
      refine lv_icmp_ge (tgt := 110) G.1 G.2.1 dX5_starts_9 (by decide) (fun c9 => ?_) (fun c9 => ?_)
      · replace hf := it c9 hf
        cases hf
        exact k_vret G hr hlk hK hW dX5_starts_110
      · replace hf := ie c9 hf
        refine lv_aload_n G.1 G.2.1 dX5_starts_12 rfl (lv_at hl 1 rfl) ?_
        refine lv_iload_n G.1 G.2.1 dX5_starts_13 rfl (lv_at hl 0 rfl) ?_
        refine lv_iconst (v := (4 : Int32)) G.1 G.2.1 dX5_starts_14 (by decide) ?_
        obtain ⟨v5, ev5, hf⟩ := ob hf
        refine kc_i (wr := []) (w := wM cy h s2) (w' := wM cy h s2) (n := 2) (As := [.int y1, .int (4 : Int32)]) (C := RX5) G hK hA hW (mX5_of l D cy h _ n s2 y1 (4 : Int32) ev5) (gV q_8_22 q_8_23 q_9_0 q_1_5 q_9_1) ⟨rfl, rfl⟩ (by decide +kernel) ⟨Nat.le_of_ble_eq_true rfl, Nat.le_of_ble_eq_true rfl⟩ (va_recv hK.1 hW.1 (ci := 7) (q0 := 0) rfl rfl) rfl hl.1 rfl (Nat.le_of_ble_eq_true rfl) dX5_starts_15 ⟨Nat.le_of_ble_eq_true rfl, Nat.le_of_ble_eq_true rfl⟩ (fun H locs hW => ?_)
        refine lv_if_ne (tgt := 104) G.1 G.2.1 dX5_starts_18 (by decide) (fun c18 => ?_) (fun c18 => ?_)
        · replace hf := ie c18 hf
          refine lv_iinc (v := (y1 + (1 : Int32))) (lv' := [(1, .int (y1 + (1 : Int32))), (0, .ref (h 10))]) G.1 G.2.1 dX5_starts_104 hl (k := 0) rfl (congrArg (y1 + ·) (by decide)) (by decide) rfl (fun ls hl => ?_)
          refine lv_goto (tgt := 2) G.1 G.2.1 dX5_starts_107 (by decide) ?_
          exact ih2 _ _ _ _ _ hf hW (lv_sub hl [0, 1] rfl)
        · replace hf := it c18 hf
          refine lv_aload_n G.1 G.2.1 dX5_starts_21 rfl (lv_at hl 1 rfl) ?_
          refine lv_iload_n G.1 G.2.1 dX5_starts_22 rfl (lv_at hl 0 rfl) ?_
          refine lv_bipush (v := (6 : Int32)) G.1 G.2.1 dX5_starts_23 (by decide) ?_
          obtain ⟨v6, ev6, hf⟩ := ob hf
          refine kc_i (wr := []) (w := wM cy h s2) (w' := wM cy h s2) (n := 2) (As := [.int y1, .int (6 : Int32)]) (C := RX5) G hK hA hW (mX5_of l D cy h _ n s2 y1 (6 : Int32) ev6) (gV q_8_22 q_8_23 q_9_0 q_1_5 q_9_1) ⟨rfl, rfl⟩ (by decide +kernel) ⟨Nat.le_of_ble_eq_true rfl, Nat.le_of_ble_eq_true rfl⟩ (va_recv hK.1 hW.1 (ci := 7) (q0 := 0) rfl rfl) rfl hl.1 rfl (Nat.le_of_ble_eq_true rfl) dX5_starts_25 ⟨Nat.le_of_ble_eq_true rfl, Nat.le_of_ble_eq_true rfl⟩ (fun H locs hW => ?_)
          refine lv_aload_n G.1 G.2.1 dX5_starts_28 rfl (lv_at hl 1 rfl) ?_
          refine k_get G inlX5 hK hW 0 rfl rfl 0 (by decide) q_4_6 rfl dX5_starts_29 ?_
          refine lv_iconst (v := (0 : Int32)) G.1 G.2.1 dX5_starts_32 (by decide) ?_
          obtain ⟨v7, ev7, hf⟩ := ob hf
          refine k_ald G hK hW 1 rfl ev7 dX5_starts_33 ?_
          refine lv_icmp_eq (tgt := 40) G.1 G.2.1 dX5_starts_34 (by decide) (fun c34 => ?_) (fun c34 => ?_)
          · replace hf := it c34 hf
            refine lv_aload_n G.1 G.2.1 dX5_starts_40 rfl (lv_at hl 1 rfl) ?_
            refine lv_iload_n G.1 G.2.1 dX5_starts_41 rfl (lv_at hl 0 rfl) ?_
            refine lv_iconst (v := (4 : Int32)) G.1 G.2.1 dX5_starts_42 (by decide) ?_
            refine lv_iconst (v := (1 : Int32)) G.1 G.2.1 dX5_starts_43 (by decide) ?_
            obtain ⟨s8, es8, hf⟩ := ob hf
            refine kc_v (wr := []) (w := wM cy h s2) (w' := wM cy h s8) (n := 3) (As := [.int y1, .int (4 : Int32), .int (1 : Int32)]) (C := RX5) G hK hA hW (mX5_put l D cy h _ n s2 y1 (4 : Int32) (1 : Int32) es8) (gV q_8_10 q_8_11 q_8_12 q_1_5 q_8_13) ⟨rfl, rfl⟩ (by decide +kernel) ⟨Nat.le_of_ble_eq_true rfl, Nat.le_of_ble_eq_true rfl⟩ (va_recv hK.1 hW.1 (ci := 7) (q0 := 0) rfl rfl) rfl hl.1 rfl (Nat.le_of_ble_eq_true rfl) dX5_starts_44 ⟨Nat.le_of_ble_eq_true rfl, Nat.le_of_ble_eq_true rfl⟩ (fun H locs hW => ?_)
            refine lv_aload_n G.1 G.2.1 dX5_starts_47 rfl (lv_at hl 1 rfl) ?_
            refine lv_iload_n G.1 G.2.1 dX5_starts_48 rfl (lv_at hl 0 rfl) ?_
            refine lv_bipush (v := (12 : Int32)) G.1 G.2.1 dX5_starts_49 (by decide) ?_
            obtain ⟨v9, ev9, hf⟩ := ob hf
            refine kc_i (wr := []) (w := wM cy h s8) (w' := wM cy h s8) (n := 2) (As := [.int y1, .int (12 : Int32)]) (C := RX5) G hK hA hW (mX5_of l D cy h _ n s8 y1 (12 : Int32) ev9) (gV q_8_22 q_8_23 q_9_0 q_1_5 q_9_1) ⟨rfl, rfl⟩ (by decide +kernel) ⟨Nat.le_of_ble_eq_true rfl, Nat.le_of_ble_eq_true rfl⟩ (va_recv hK.1 hW.1 (ci := 7) (q0 := 0) rfl rfl) rfl hl.1 rfl (Nat.le_of_ble_eq_true rfl) dX5_starts_51 ⟨Nat.le_of_ble_eq_true rfl, Nat.le_of_ble_eq_true rfl⟩ (fun H locs hW => ?_)
            refine lv_if_ge (tgt := 70) G.1 G.2.1 dX5_starts_54 (by decide) (fun c54 => ?_) (fun c54 => ?_)
            · replace hf := it c54 hf
              refine lv_aload_n G.1 G.2.1 dX5_starts_70 rfl (lv_at hl 1 rfl) ?_
              refine k_get G inlX5 hK hW 0 rfl rfl 0 (by decide) q_4_6 rfl dX5_starts_71 ?_
              refine lv_sipush (v := (545 : Int32)) G.1 G.2.1 dX5_starts_74 (by decide) ?_
              refine lv_aload_n G.1 G.2.1 dX5_starts_77 rfl (lv_at hl 1 rfl) ?_
              refine lv_iload_n G.1 G.2.1 dX5_starts_78 rfl (lv_at hl 0 rfl) ?_
              refine lv_iconst (v := (1 : Int32)) G.1 G.2.1 dX5_starts_79 (by decide) ?_
              obtain ⟨v10, ev10, hf⟩ := ob hf
              refine kc_i (wr := []) (w := wM cy h s8) (w' := wM cy h s8) (n := 2) (As := [.int y1, .int (1 : Int32)]) (C := RX5) G hK hA hW (mX5_of l D cy h _ n s8 y1 (1 : Int32) ev10) (gV q_8_22 q_8_23 q_9_0 q_1_5 q_9_1) ⟨rfl, rfl⟩ (by decide +kernel) ⟨Nat.le_of_ble_eq_true rfl, Nat.le_of_ble_eq_true rfl⟩ (va_recv hK.1 hW.1 (ci := 7) (q0 := 0) rfl rfl) rfl hl.1 rfl (Nat.le_of_ble_eq_true rfl) dX5_starts_80 ⟨Nat.le_of_ble_eq_true rfl, Nat.le_of_ble_eq_true rfl⟩ (fun H locs hW => ?_)
              refine lv_aload_n G.1 G.2.1 dX5_starts_83 rfl (lv_at hl 1 rfl) ?_
              refine lv_iload_n G.1 G.2.1 dX5_starts_84 rfl (lv_at hl 0 rfl) ?_
              refine lv_iconst (v := (5 : Int32)) G.1 G.2.1 dX5_starts_85 (by decide) ?_
              obtain ⟨v11, ev11, hf⟩ := ob hf
              refine kc_i (wr := []) (w := wM cy h s8) (w' := wM cy h s8) (n := 2) (As := [.int y1, .int (5 : Int32)]) (C := RX5) G hK hA hW (mX5_of l D cy h _ n s8 y1 (5 : Int32) ev11) (gV q_8_22 q_8_23 q_9_0 q_1_5 q_9_1) ⟨rfl, rfl⟩ (by decide +kernel) ⟨Nat.le_of_ble_eq_true rfl, Nat.le_of_ble_eq_true rfl⟩ (va_recv hK.1 hW.1 (ci := 7) (q0 := 0) rfl rfl) rfl hl.1 rfl (Nat.le_of_ble_eq_true rfl) dX5_starts_86 ⟨Nat.le_of_ble_eq_true rfl, Nat.le_of_ble_eq_true rfl⟩ (fun H locs hW => ?_)
              obtain ⟨v12, ev12, hf⟩ := ob hf
              refine kc_s (n := 2) (As := [.int v10, .int v11]) G hW (mX5_block l n v10 v11 ev12) (gS q_10_6 q_10_7 q_1_5 q_10_8) ⟨rfl, rfl⟩ (by decide +kernel) ⟨Nat.le_of_ble_eq_true rfl, Nat.le_of_ble_eq_true rfl⟩ rfl hl.1 rfl (Nat.le_of_ble_eq_true rfl) dX5_starts_89 ⟨Nat.le_of_ble_eq_true rfl, Nat.le_of_ble_eq_true rfl⟩ (fun H locs hW => ?_)
              refine lv_iadd G.1 G.2.1 dX5_starts_92 ?_
              refine lv_dup2_11 G.1 G.2.1 dX5_starts_93 rfl rfl ?_
              obtain ⟨v13, ev13, hf⟩ := ob hf
              refine k_ald G hK hW 1 rfl ev13 dX5_starts_94 ?_
              refine lv_iconst (v := (1 : Int32)) G.1 G.2.1 dX5_starts_95 (by decide) ?_
              refine lv_iadd G.1 G.2.1 dX5_starts_96 ?_
              obtain ⟨s14, es14, hf⟩ := ob hf
              refine k_ast (w := wM cy h) G hK hW 1 0 609 rfl (fun _ => rfl) es14 dX5_starts_97 (fun H locs hW => ?_)
              refine lv_aload_n G.1 G.2.1 dX5_starts_98 rfl (lv_at hl 1 rfl) ?_
              refine lv_iconst (v := (1 : Int32)) G.1 G.2.1 dX5_starts_99 (by decide) ?_
              refine lv_iload_n G.1 G.2.1 dX5_starts_100 rfl (lv_at hl 0 rfl) ?_
              obtain ⟨s15, es15, hf⟩ := ob hf
              refine kc_v (wr := []) (w := wM cy h s14) (w' := wM cy h s15) (n := 2) (As := [.int (1 : Int32), .int y1]) (C := RX5) G hK hA hW (mX5_records l D cy h _ n s14 (1 : Int32) y1 es15) (gV q_8_14 q_8_15 q_8_16 q_1_5 q_8_17) ⟨rfl, rfl⟩ (by decide +kernel) ⟨Nat.le_of_ble_eq_true rfl, Nat.le_of_ble_eq_true rfl⟩ (va_recv hK.1 hW.1 (ci := 7) (q0 := 0) rfl rfl) rfl hl.1 rfl (Nat.le_of_ble_eq_true rfl) dX5_starts_101 ⟨Nat.le_of_ble_eq_true rfl, Nat.le_of_ble_eq_true rfl⟩ (fun H locs hW => ?_)
              refine lv_iinc (v := (y1 + (1 : Int32))) (lv' := [(1, .int (y1 + (1 : Int32))), (0, .ref (h 10))]) G.1 G.2.1 dX5_starts_104 hl (k := 0) rfl (congrArg (y1 + ·) (by decide)) (by decide) rfl (fun ls hl => ?_)
              refine lv_goto (tgt := 2) G.1 G.2.1 dX5_starts_107 (by decide) ?_
              exact ih2 _ _ _ _ _ hf hW (lv_sub hl [0, 1] rfl)
            · replace hf := ie c54 hf
              refine lv_aload_n G.1 G.2.1 dX5_starts_57 rfl (lv_at hl 1 rfl) ?_
              refine lv_iload_n G.1 G.2.1 dX5_starts_58 rfl (lv_at hl 0 rfl) ?_
              refine lv_bipush (v := (12 : Int32)) G.1 G.2.1 dX5_starts_59 (by decide) ?_
              refine lv_aload_n G.1 G.2.1 dX5_starts_61 rfl (lv_at hl 1 rfl) ?_
              refine k_get G inlX5 hK hW 0 rfl rfl 0 (by decide) q_4_6 rfl dX5_starts_62 ?_
              refine lv_iconst (v := (0 : Int32)) G.1 G.2.1 dX5_starts_65 (by decide) ?_
              obtain ⟨v16, ev16, hf⟩ := ob hf
              refine k_ald G hK hW 1 rfl ev16 dX5_starts_66 ?_
              obtain ⟨s17, es17, hf⟩ := ob hf
              refine kc_v (wr := []) (w := wM cy h s8) (w' := wM cy h s17) (n := 3) (As := [.int y1, .int (12 : Int32), .int v16]) (C := RX5) G hK hA hW (mX5_put l D cy h _ n s8 y1 (12 : Int32) v16 es17) (gV q_8_10 q_8_11 q_8_12 q_1_5 q_8_13) ⟨rfl, rfl⟩ (by decide +kernel) ⟨Nat.le_of_ble_eq_true rfl, Nat.le_of_ble_eq_true rfl⟩ (va_recv hK.1 hW.1 (ci := 7) (q0 := 0) rfl rfl) rfl hl.1 rfl (Nat.le_of_ble_eq_true rfl) dX5_starts_67 ⟨Nat.le_of_ble_eq_true rfl, Nat.le_of_ble_eq_true rfl⟩ (fun H locs hW => ?_)
              refine lv_aload_n G.1 G.2.1 dX5_starts_70 rfl (lv_at hl 1 rfl) ?_
              refine k_get G inlX5 hK hW 0 rfl rfl 0 (by decide) q_4_6 rfl dX5_starts_71 ?_
              refine lv_sipush (v := (545 : Int32)) G.1 G.2.1 dX5_starts_74 (by decide) ?_
              refine lv_aload_n G.1 G.2.1 dX5_starts_77 rfl (lv_at hl 1 rfl) ?_
              refine lv_iload_n G.1 G.2.1 dX5_starts_78 rfl (lv_at hl 0 rfl) ?_
              refine lv_iconst (v := (1 : Int32)) G.1 G.2.1 dX5_starts_79 (by decide) ?_
              obtain ⟨v18, ev18, hf⟩ := ob hf
              refine kc_i (wr := []) (w := wM cy h s17) (w' := wM cy h s17) (n := 2) (As := [.int y1, .int (1 : Int32)]) (C := RX5) G hK hA hW (mX5_of l D cy h _ n s17 y1 (1 : Int32) ev18) (gV q_8_22 q_8_23 q_9_0 q_1_5 q_9_1) ⟨rfl, rfl⟩ (by decide +kernel) ⟨Nat.le_of_ble_eq_true rfl, Nat.le_of_ble_eq_true rfl⟩ (va_recv hK.1 hW.1 (ci := 7) (q0 := 0) rfl rfl) rfl hl.1 rfl (Nat.le_of_ble_eq_true rfl) dX5_starts_80 ⟨Nat.le_of_ble_eq_true rfl, Nat.le_of_ble_eq_true rfl⟩ (fun H locs hW => ?_)
              refine lv_aload_n G.1 G.2.1 dX5_starts_83 rfl (lv_at hl 1 rfl) ?_
              refine lv_iload_n G.1 G.2.1 dX5_starts_84 rfl (lv_at hl 0 rfl) ?_
              refine lv_iconst (v := (5 : Int32)) G.1 G.2.1 dX5_starts_85 (by decide) ?_
              obtain ⟨v19, ev19, hf⟩ := ob hf
              refine kc_i (wr := []) (w := wM cy h s17) (w' := wM cy h s17) (n := 2) (As := [.int y1, .int (5 : Int32)]) (C := RX5) G hK hA hW (mX5_of l D cy h _ n s17 y1 (5 : Int32) ev19) (gV q_8_22 q_8_23 q_9_0 q_1_5 q_9_1) ⟨rfl, rfl⟩ (by decide +kernel) ⟨Nat.le_of_ble_eq_true rfl, Nat.le_of_ble_eq_true rfl⟩ (va_recv hK.1 hW.1 (ci := 7) (q0 := 0) rfl rfl) rfl hl.1 rfl (Nat.le_of_ble_eq_true rfl) dX5_starts_86 ⟨Nat.le_of_ble_eq_true rfl, Nat.le_of_ble_eq_true rfl⟩ (fun H locs hW => ?_)
              obtain ⟨v20, ev20, hf⟩ := ob hf
              refine kc_s (n := 2) (As := [.int v18, .int v19]) G hW (mX5_block l n v18 v19 ev20) (gS q_10_6 q_10_7 q_1_5 q_10_8) ⟨rfl, rfl⟩ (by decide +kernel) ⟨Nat.le_of_ble_eq_true rfl, Nat.le_of_ble_eq_true rfl⟩ rfl hl.1 rfl (Nat.le_of_ble_eq_true rfl) dX5_starts_89 ⟨Nat.le_of_ble_eq_true rfl, Nat.le_of_ble_eq_true rfl⟩ (fun H locs hW => ?_)
              refine lv_iadd G.1 G.2.1 dX5_starts_92 ?_
              refine lv_dup2_11 G.1 G.2.1 dX5_starts_93 rfl rfl ?_
              obtain ⟨v21, ev21, hf⟩ := ob hf
              refine k_ald G hK hW 1 rfl ev21 dX5_starts_94 ?_
              refine lv_iconst (v := (1 : Int32)) G.1 G.2.1 dX5_starts_95 (by decide) ?_
              refine lv_iadd G.1 G.2.1 dX5_starts_96 ?_
              obtain ⟨s22, es22, hf⟩ := ob hf
              refine k_ast (w := wM cy h) G hK hW 1 0 609 rfl (fun _ => rfl) es22 dX5_starts_97 (fun H locs hW => ?_)
              refine lv_aload_n G.1 G.2.1 dX5_starts_98 rfl (lv_at hl 1 rfl) ?_
              refine lv_iconst (v := (1 : Int32)) G.1 G.2.1 dX5_starts_99 (by decide) ?_
              refine lv_iload_n G.1 G.2.1 dX5_starts_100 rfl (lv_at hl 0 rfl) ?_
              obtain ⟨s23, es23, hf⟩ := ob hf
              refine kc_v (wr := []) (w := wM cy h s22) (w' := wM cy h s23) (n := 2) (As := [.int (1 : Int32), .int y1]) (C := RX5) G hK hA hW (mX5_records l D cy h _ n s22 (1 : Int32) y1 es23) (gV q_8_14 q_8_15 q_8_16 q_1_5 q_8_17) ⟨rfl, rfl⟩ (by decide +kernel) ⟨Nat.le_of_ble_eq_true rfl, Nat.le_of_ble_eq_true rfl⟩ (va_recv hK.1 hW.1 (ci := 7) (q0 := 0) rfl rfl) rfl hl.1 rfl (Nat.le_of_ble_eq_true rfl) dX5_starts_101 ⟨Nat.le_of_ble_eq_true rfl, Nat.le_of_ble_eq_true rfl⟩ (fun H locs hW => ?_)
              refine lv_iinc (v := (y1 + (1 : Int32))) (lv' := [(1, .int (y1 + (1 : Int32))), (0, .ref (h 10))]) G.1 G.2.1 dX5_starts_104 hl (k := 0) rfl (congrArg (y1 + ·) (by decide)) (by decide) rfl (fun ls hl => ?_)
              refine lv_goto (tgt := 2) G.1 G.2.1 dX5_starts_107 (by decide) ?_
              exact ih2 _ _ _ _ _ hf hW (lv_sub hl [0, 1] rfl)
          · replace hf := ie c34 hf
            refine lv_goto (tgt := 104) G.1 G.2.1 dX5_starts_37 (by decide) ?_
            refine lv_iinc (v := (y1 + (1 : Int32))) (lv' := [(1, .int (y1 + (1 : Int32))), (0, .ref (h 10))]) G.1 G.2.1 dX5_starts_104 hl (k := 0) rfl (congrArg (y1 + ·) (by decide)) (by decide) rfl (fun ls hl => ?_)
            refine lv_goto (tgt := 2) G.1 G.2.1 dX5_starts_107 (by decide) ?_
            exact ih2 _ _ _ _ _ hf hW (lv_sub hl [0, 1] rfl)
  exact L2 _ _ _ _ _ _ hf hW (lv_sub hl [0, 1] rfl)

set_option maxHeartbeats 4000000 in
set_option maxRecDepth 100000 in
theorem mX5_submit (l : Launch) (D : va_G) (cy : ClassId) (h : Nat → Nat) (sz n : Nat) (σ : St) (x1 : Int32) (x2 : Int32) (x3 : Int32) (x4 : Int32) {r : Int32} {σ' : St} (hf : fX5_submit n σ x1 x2 x3 x4 = some (r, σ')) : Mi l yX5_submit (ws_ yX5_submit cX5_submit 7 (some .int)) { frames := 6, cells := 0, slots := 0, locals := 140 } D cy (wM cy h σ) (wM cy h σ') sz [.ref (h 10), .int x1, .int x2, .int x3, .int x4] r := by
  refine Met.ofW (cc := cX5_submit) (maxL := 7) (ret := (some .int)) (by decide) rfl ?_
  intro p e s m args below meth c s₁ B hml hv
  obtain ⟨rfl, hsz, hP, hK, hD0⟩ := hv
  subst hsz
  have hts := atoms_spec (ws := ws_ yX5_submit cX5_submit 7 (some .int)) B.pre
  have G : CallFix p m c cX5_submit 7 s _ wA RX5 := ⟨B.exec, B.bytes, hml, findClass_of_methodNamed B.named, fun w h => hts w (List.mem_cons_of_mem _ h)⟩
  have hr := B.returns
  have hlk := B.notSynchronized
  have hW : KW D (va_A (wM cy h σ) s.heap.size) s.heap (wM cy h σ) s.heap [] := ⟨hP, hD0.self, va_S.rf⟩
  have hA : ∀ q, s.heap.size ≤ q → va_A (wM cy h σ) s.heap.size q := fun q h => Or.inr h
  have hl := lv_entry ([.ref (h 10), .int x1, .int x2, .int x3, .int x4]) (n := 7) (Nat.le_of_ble_eq_true rfl)
  rw [lg_entry_eq]
  generalize (lg_sl ([.ref (h 10), .int x1, .int x2, .int x3, .int x4]) ++ List.replicate (7 - (lg_sl ([.ref (h 10), .int x1, .int x2, .int x3, .int x4])).length) Slot.unset).toArray = ls at hl ⊢
  have hl : lv_has ls 7 [(0, .ref (h 10)), (1, .int x1), (2, .int x2), (3, .int x3), (4, .int x4)] := hl
  unfold fX5_submit at hf
  refine lv_aload_n G.1 G.2.1 dX5_submit_0 rfl (lv_at hl 0 rfl) ?_
  refine lv_iconst (v := (0 : Int32)) G.1 G.2.1 dX5_submit_1 (by decide) ?_
  obtain ⟨s1, es1, hf⟩ := ob hf
  refine k_put (w := wM cy h) G inlX5 tyX5 tyX5_ok nmX5 hK hW 0 6 rfl rfl 4 (by decide) q_8_2 rfl (by decide +kernel) (Nat.le_of_ble_eq_true rfl) rfl es1 dX5_submit_2 (fun H locs hW => ?_)
  refine lv_iload_n G.1 G.2.1 dX5_submit_5 rfl (lv_at hl 1 rfl) ?_
  refine lv_iconst (v := (0 : Int32)) G.1 G.2.1 dX5_submit_6 (by decide) ?_
  refine lv_iconst (v := (3 : Int32)) G.1 G.2.1 dX5_submit_7 (by decide) ?_
  obtain ⟨v2, ev2, hf⟩ := ob hf
  refine kc_s (n := 3) (As := [.int x1, .int (0 : Int32), .int (3 : Int32)]) G hW (mX5_in l n x1 (0 : Int32) (3 : Int32) ev2) (gS q_8_3 q_8_4 q_1_5 q_8_5) ⟨rfl, rfl⟩ (by decide +kernel) ⟨Nat.le_of_ble_eq_true rfl, Nat.le_of_ble_eq_true rfl⟩ rfl hl.1 rfl (Nat.le_of_ble_eq_true rfl) dX5_submit_8 ⟨Nat.le_of_ble_eq_true rfl, Nat.le_of_ble_eq_true rfl⟩ (fun H locs hW => ?_)
  refine lv_if_eq (tgt := 43) G.1 G.2.1 dX5_submit_11 (by decide) (fun c11 => ?_) (fun c11 => ?_)
  · replace hf := it c11 hf
    refine lv_aload_n G.1 G.2.1 dX5_submit_43 rfl (lv_at hl 0 rfl) ?_
    refine lv_iconst (v := (1 : Int32)) G.1 G.2.1 dX5_submit_44 (by decide) ?_
    obtain ⟨v3, s4, ev3, hf⟩ := ob2 hf
    refine kc_i (wr := []) (w := wM cy h s1) (w' := wM cy h s4) (n := 1) (As := [.int (1 : Int32)]) (C := RX5) G hK hA hW (mX5_raises l D cy h _ n s1 (1 : Int32) ev3) (gV q_8_6 q_8_7 q_8_8 q_1_5 q_8_9) ⟨rfl, rfl⟩ (by decide +kernel) ⟨Nat.le_of_ble_eq_true rfl, Nat.le_of_ble_eq_true rfl⟩ (va_recv hK.1 hW.1 (ci := 7) (q0 := 0) rfl rfl) rfl hl.1 rfl (Nat.le_of_ble_eq_true rfl) dX5_submit_45 ⟨Nat.le_of_ble_eq_true rfl, Nat.le_of_ble_eq_true rfl⟩ (fun H locs hW => ?_)
    cases hf
    exact k_iret G hr hlk hK hW dX5_submit_48
  · replace hf := ie c11 hf
    refine lv_iload_n G.1 G.2.1 dX5_submit_14 rfl (lv_at hl 2 rfl) ?_
    refine lv_iconst (v := (0 : Int32)) G.1 G.2.1 dX5_submit_15 (by decide) ?_
    refine lv_iconst (v := (5 : Int32)) G.1 G.2.1 dX5_submit_16 (by decide) ?_
    obtain ⟨v5, ev5, hf⟩ := ob hf
    refine kc_s (n := 3) (As := [.int x2, .int (0 : Int32), .int (5 : Int32)]) G hW (mX5_in l n x2 (0 : Int32) (5 : Int32) ev5) (gS q_8_3 q_8_4 q_1_5 q_8_5) ⟨rfl, rfl⟩ (by decide +kernel) ⟨Nat.le_of_ble_eq_true rfl, Nat.le_of_ble_eq_true rfl⟩ rfl hl.1 rfl (Nat.le_of_ble_eq_true rfl) dX5_submit_17 ⟨Nat.le_of_ble_eq_true rfl, Nat.le_of_ble_eq_true rfl⟩ (fun H locs hW => ?_)
    refine lv_if_eq (tgt := 43) G.1 G.2.1 dX5_submit_20 (by decide) (fun c20 => ?_) (fun c20 => ?_)
    · replace hf := it c20 hf
      refine lv_aload_n G.1 G.2.1 dX5_submit_43 rfl (lv_at hl 0 rfl) ?_
      refine lv_iconst (v := (1 : Int32)) G.1 G.2.1 dX5_submit_44 (by decide) ?_
      obtain ⟨v6, s7, ev6, hf⟩ := ob2 hf
      refine kc_i (wr := []) (w := wM cy h s1) (w' := wM cy h s7) (n := 1) (As := [.int (1 : Int32)]) (C := RX5) G hK hA hW (mX5_raises l D cy h _ n s1 (1 : Int32) ev6) (gV q_8_6 q_8_7 q_8_8 q_1_5 q_8_9) ⟨rfl, rfl⟩ (by decide +kernel) ⟨Nat.le_of_ble_eq_true rfl, Nat.le_of_ble_eq_true rfl⟩ (va_recv hK.1 hW.1 (ci := 7) (q0 := 0) rfl rfl) rfl hl.1 rfl (Nat.le_of_ble_eq_true rfl) dX5_submit_45 ⟨Nat.le_of_ble_eq_true rfl, Nat.le_of_ble_eq_true rfl⟩ (fun H locs hW => ?_)
      cases hf
      exact k_iret G hr hlk hK hW dX5_submit_48
    · replace hf := ie c20 hf
      refine lv_iload_n G.1 G.2.1 dX5_submit_23 rfl (lv_at hl 3 rfl) ?_
      refine lv_iconst (v := (1 : Int32)) G.1 G.2.1 dX5_submit_24 (by decide) ?_
      refine lv_bipush (v := (40 : Int32)) G.1 G.2.1 dX5_submit_25 (by decide) ?_
      obtain ⟨v8, ev8, hf⟩ := ob hf
      refine kc_s (n := 3) (As := [.int x3, .int (1 : Int32), .int (40 : Int32)]) G hW (mX5_in l n x3 (1 : Int32) (40 : Int32) ev8) (gS q_8_3 q_8_4 q_1_5 q_8_5) ⟨rfl, rfl⟩ (by decide +kernel) ⟨Nat.le_of_ble_eq_true rfl, Nat.le_of_ble_eq_true rfl⟩ rfl hl.1 rfl (Nat.le_of_ble_eq_true rfl) dX5_submit_27 ⟨Nat.le_of_ble_eq_true rfl, Nat.le_of_ble_eq_true rfl⟩ (fun H locs hW => ?_)
      refine lv_if_eq (tgt := 43) G.1 G.2.1 dX5_submit_30 (by decide) (fun c30 => ?_) (fun c30 => ?_)
      · replace hf := it c30 hf
        refine lv_aload_n G.1 G.2.1 dX5_submit_43 rfl (lv_at hl 0 rfl) ?_
        refine lv_iconst (v := (1 : Int32)) G.1 G.2.1 dX5_submit_44 (by decide) ?_
        obtain ⟨v9, s10, ev9, hf⟩ := ob2 hf
        refine kc_i (wr := []) (w := wM cy h s1) (w' := wM cy h s10) (n := 1) (As := [.int (1 : Int32)]) (C := RX5) G hK hA hW (mX5_raises l D cy h _ n s1 (1 : Int32) ev9) (gV q_8_6 q_8_7 q_8_8 q_1_5 q_8_9) ⟨rfl, rfl⟩ (by decide +kernel) ⟨Nat.le_of_ble_eq_true rfl, Nat.le_of_ble_eq_true rfl⟩ (va_recv hK.1 hW.1 (ci := 7) (q0 := 0) rfl rfl) rfl hl.1 rfl (Nat.le_of_ble_eq_true rfl) dX5_submit_45 ⟨Nat.le_of_ble_eq_true rfl, Nat.le_of_ble_eq_true rfl⟩ (fun H locs hW => ?_)
        cases hf
        exact k_iret G hr hlk hK hW dX5_submit_48
      · replace hf := ie c30 hf
        refine lv_iload G.1 G.2.1 dX5_submit_33 (lv_at hl 4 rfl) ?_
        refine lv_iconst (v := (1 : Int32)) G.1 G.2.1 dX5_submit_35 (by decide) ?_
        refine lv_iload_n G.1 G.2.1 dX5_submit_36 rfl (lv_at hl 3 rfl) ?_
        obtain ⟨v11, ev11, hf⟩ := ob hf
        refine kc_s (n := 3) (As := [.int x4, .int (1 : Int32), .int x3]) G hW (mX5_in l n x4 (1 : Int32) x3 ev11) (gS q_8_3 q_8_4 q_1_5 q_8_5) ⟨rfl, rfl⟩ (by decide +kernel) ⟨Nat.le_of_ble_eq_true rfl, Nat.le_of_ble_eq_true rfl⟩ rfl hl.1 rfl (Nat.le_of_ble_eq_true rfl) dX5_submit_37 ⟨Nat.le_of_ble_eq_true rfl, Nat.le_of_ble_eq_true rfl⟩ (fun H locs hW => ?_)
        refine lv_if_ne (tgt := 49) G.1 G.2.1 dX5_submit_40 (by decide) (fun c40 => ?_) (fun c40 => ?_)
        · replace hf := ie c40 hf
          refine lv_aload_n G.1 G.2.1 dX5_submit_49 rfl (lv_at hl 0 rfl) ?_
          refine k_get G inlX5 hK hW 0 rfl rfl 0 (by decide) q_4_6 rfl dX5_submit_50 ?_
          refine lv_iconst (v := (1 : Int32)) G.1 G.2.1 dX5_submit_53 (by decide) ?_
          obtain ⟨v12, ev12, hf⟩ := ob hf
          refine k_ald G hK hW 1 rfl ev12 dX5_submit_54 ?_
          refine lv_bipush (v := (24 : Int32)) G.1 G.2.1 dX5_submit_55 (by decide) ?_
          refine lv_icmp_ne (tgt := 66) G.1 G.2.1 dX5_submit_57 (by decide) (fun c57 => ?_) (fun c57 => ?_)
          · replace hf := ie c57 hf
            refine lv_aload_n G.1 G.2.1 dX5_submit_66 rfl (lv_at hl 0 rfl) ?_
            refine k_get G inlX5 hK hW 0 rfl rfl 0 (by decide) q_4_6 rfl dX5_submit_67 ?_
            refine lv_iconst (v := (1 : Int32)) G.1 G.2.1 dX5_submit_70 (by decide) ?_
            obtain ⟨v13, ev13, hf⟩ := ob hf
            refine k_ald G hK hW 1 rfl ev13 dX5_submit_71 ?_
            refine lv_istore (lv' := [(5, .int v13), (0, .ref (h 10)), (1, .int x1), (2, .int x2), (3, .int x3), (4, .int x4)]) G.1 G.2.1 dX5_submit_72 hl (by decide) rfl (fun ls hl => ?_)
            refine lv_aload_n G.1 G.2.1 dX5_submit_74 rfl (lv_at hl 1 rfl) ?_
            refine lv_iload G.1 G.2.1 dX5_submit_75 (lv_at hl 0 rfl) ?_
            refine lv_iconst (v := (0 : Int32)) G.1 G.2.1 dX5_submit_77 (by decide) ?_
            refine lv_iload_n G.1 G.2.1 dX5_submit_78 rfl (lv_at hl 2 rfl) ?_
            obtain ⟨s14, es14, hf⟩ := ob hf
            refine kc_v (wr := []) (w := wM cy h s1) (w' := wM cy h s14) (n := 3) (As := [.int v13, .int (0 : Int32), .int x1]) (C := RX5) G hK hA hW (mX5_put l D cy h _ n s1 v13 (0 : Int32) x1 es14) (gV q_8_10 q_8_11 q_8_12 q_1_5 q_8_13) ⟨rfl, rfl⟩ (by decide +kernel) ⟨Nat.le_of_ble_eq_true rfl, Nat.le_of_ble_eq_true rfl⟩ (va_recv hK.1 hW.1 (ci := 7) (q0 := 0) rfl rfl) rfl hl.1 rfl (Nat.le_of_ble_eq_true rfl) dX5_submit_79 ⟨Nat.le_of_ble_eq_true rfl, Nat.le_of_ble_eq_true rfl⟩ (fun H locs hW => ?_)
            refine lv_aload_n G.1 G.2.1 dX5_submit_82 rfl (lv_at hl 1 rfl) ?_
            refine lv_iload G.1 G.2.1 dX5_submit_83 (lv_at hl 0 rfl) ?_
            refine lv_iconst (v := (1 : Int32)) G.1 G.2.1 dX5_submit_85 (by decide) ?_
            refine lv_iload_n G.1 G.2.1 dX5_submit_86 rfl (lv_at hl 3 rfl) ?_
            obtain ⟨s15, es15, hf⟩ := ob hf
            refine kc_v (wr := []) (w := wM cy h s14) (w' := wM cy h s15) (n := 3) (As := [.int v13, .int (1 : Int32), .int x2]) (C := RX5) G hK hA hW (mX5_put l D cy h _ n s14 v13 (1 : Int32) x2 es15) (gV q_8_10 q_8_11 q_8_12 q_1_5 q_8_13) ⟨rfl, rfl⟩ (by decide +kernel) ⟨Nat.le_of_ble_eq_true rfl, Nat.le_of_ble_eq_true rfl⟩ (va_recv hK.1 hW.1 (ci := 7) (q0 := 0) rfl rfl) rfl hl.1 rfl (Nat.le_of_ble_eq_true rfl) dX5_submit_87 ⟨Nat.le_of_ble_eq_true rfl, Nat.le_of_ble_eq_true rfl⟩ (fun H locs hW => ?_)
            refine lv_aload_n G.1 G.2.1 dX5_submit_90 rfl (lv_at hl 1 rfl) ?_
            refine lv_iload G.1 G.2.1 dX5_submit_91 (lv_at hl 0 rfl) ?_
            refine lv_iconst (v := (2 : Int32)) G.1 G.2.1 dX5_submit_93 (by decide) ?_
            refine lv_iload_n G.1 G.2.1 dX5_submit_94 rfl (lv_at hl 4 rfl) ?_
            obtain ⟨s16, es16, hf⟩ := ob hf
            refine kc_v (wr := []) (w := wM cy h s15) (w' := wM cy h s16) (n := 3) (As := [.int v13, .int (2 : Int32), .int x3]) (C := RX5) G hK hA hW (mX5_put l D cy h _ n s15 v13 (2 : Int32) x3 es16) (gV q_8_10 q_8_11 q_8_12 q_1_5 q_8_13) ⟨rfl, rfl⟩ (by decide +kernel) ⟨Nat.le_of_ble_eq_true rfl, Nat.le_of_ble_eq_true rfl⟩ (va_recv hK.1 hW.1 (ci := 7) (q0 := 0) rfl rfl) rfl hl.1 rfl (Nat.le_of_ble_eq_true rfl) dX5_submit_95 ⟨Nat.le_of_ble_eq_true rfl, Nat.le_of_ble_eq_true rfl⟩ (fun H locs hW => ?_)
            refine lv_aload_n G.1 G.2.1 dX5_submit_98 rfl (lv_at hl 1 rfl) ?_
            refine lv_iload G.1 G.2.1 dX5_submit_99 (lv_at hl 0 rfl) ?_
            refine lv_iconst (v := (3 : Int32)) G.1 G.2.1 dX5_submit_101 (by decide) ?_
            refine lv_iload G.1 G.2.1 dX5_submit_102 (lv_at hl 5 rfl) ?_
            obtain ⟨s17, es17, hf⟩ := ob hf
            refine kc_v (wr := []) (w := wM cy h s16) (w' := wM cy h s17) (n := 3) (As := [.int v13, .int (3 : Int32), .int x4]) (C := RX5) G hK hA hW (mX5_put l D cy h _ n s16 v13 (3 : Int32) x4 es17) (gV q_8_10 q_8_11 q_8_12 q_1_5 q_8_13) ⟨rfl, rfl⟩ (by decide +kernel) ⟨Nat.le_of_ble_eq_true rfl, Nat.le_of_ble_eq_true rfl⟩ (va_recv hK.1 hW.1 (ci := 7) (q0 := 0) rfl rfl) rfl hl.1 rfl (Nat.le_of_ble_eq_true rfl) dX5_submit_104 ⟨Nat.le_of_ble_eq_true rfl, Nat.le_of_ble_eq_true rfl⟩ (fun H locs hW => ?_)
            refine lv_aload_n G.1 G.2.1 dX5_submit_107 rfl (lv_at hl 1 rfl) ?_
            refine lv_iload G.1 G.2.1 dX5_submit_108 (lv_at hl 0 rfl) ?_
            refine lv_bipush (v := (9 : Int32)) G.1 G.2.1 dX5_submit_110 (by decide) ?_
            refine lv_iload G.1 G.2.1 dX5_submit_112 (lv_at hl 5 rfl) ?_
            obtain ⟨s18, es18, hf⟩ := ob hf
            refine kc_v (wr := []) (w := wM cy h s17) (w' := wM cy h s18) (n := 3) (As := [.int v13, .int (9 : Int32), .int x4]) (C := RX5) G hK hA hW (mX5_put l D cy h _ n s17 v13 (9 : Int32) x4 es18) (gV q_8_10 q_8_11 q_8_12 q_1_5 q_8_13) ⟨rfl, rfl⟩ (by decide +kernel) ⟨Nat.le_of_ble_eq_true rfl, Nat.le_of_ble_eq_true rfl⟩ (va_recv hK.1 hW.1 (ci := 7) (q0 := 0) rfl rfl) rfl hl.1 rfl (Nat.le_of_ble_eq_true rfl) dX5_submit_114 ⟨Nat.le_of_ble_eq_true rfl, Nat.le_of_ble_eq_true rfl⟩ (fun H locs hW => ?_)
            refine lv_aload_n G.1 G.2.1 dX5_submit_117 rfl (lv_at hl 1 rfl) ?_
            refine lv_iload G.1 G.2.1 dX5_submit_118 (lv_at hl 0 rfl) ?_
            refine lv_iconst (v := (4 : Int32)) G.1 G.2.1 dX5_submit_120 (by decide) ?_
            refine lv_iconst (v := (4 : Int32)) G.1 G.2.1 dX5_submit_121 (by decide) ?_
            obtain ⟨s19, es19, hf⟩ := ob hf
            refine kc_v (wr := []) (w := wM cy h s18) (w' := wM cy h s19) (n := 3) (As := [.int v13, .int (4 : Int32), .int (4 : Int32)]) (C := RX5) G hK hA hW (mX5_put l D cy h _ n s18 v13 (4 : Int32) (4 : Int32) es19) (gV q_8_10 q_8_11 q_8_12 q_1_5 q_8_13) ⟨rfl, rfl⟩ (by decide +kernel) ⟨Nat.le_of_ble_eq_true rfl, Nat.le_of_ble_eq_true rfl⟩ (va_recv hK.1 hW.1 (ci := 7) (q0 := 0) rfl rfl) rfl hl.1 rfl (Nat.le_of_ble_eq_true rfl) dX5_submit_122 ⟨Nat.le_of_ble_eq_true rfl, Nat.le_of_ble_eq_true rfl⟩ (fun H locs hW => ?_)
            refine lv_aload_n G.1 G.2.1 dX5_submit_125 rfl (lv_at hl 1 rfl) ?_
            refine lv_iload G.1 G.2.1 dX5_submit_126 (lv_at hl 0 rfl) ?_
            refine lv_bipush (v := (8 : Int32)) G.1 G.2.1 dX5_submit_128 (by decide) ?_
            refine lv_aload_n G.1 G.2.1 dX5_submit_130 rfl (lv_at hl 1 rfl) ?_
            refine k_get G inlX5 hK hW 0 rfl rfl 0 (by decide) q_4_6 rfl dX5_submit_131 ?_
            refine lv_iconst (v := (0 : Int32)) G.1 G.2.1 dX5_submit_134 (by decide) ?_
            obtain ⟨v20, ev20, hf⟩ := ob hf
            refine k_ald G hK hW 1 rfl ev20 dX5_submit_135 ?_
            obtain ⟨s21, es21, hf⟩ := ob hf
            refine kc_v (wr := []) (w := wM cy h s19) (w' := wM cy h s21) (n := 3) (As := [.int v13, .int (8 : Int32), .int v20]) (C := RX5) G hK hA hW (mX5_put l D cy h _ n s19 v13 (8 : Int32) v20 es21) (gV q_8_10 q_8_11 q_8_12 q_1_5 q_8_13) ⟨rfl, rfl⟩ (by decide +kernel) ⟨Nat.le_of_ble_eq_true rfl, Nat.le_of_ble_eq_true rfl⟩ (va_recv hK.1 hW.1 (ci := 7) (q0 := 0) rfl rfl) rfl hl.1 rfl (Nat.le_of_ble_eq_true rfl) dX5_submit_136 ⟨Nat.le_of_ble_eq_true rfl, Nat.le_of_ble_eq_true rfl⟩ (fun H locs hW => ?_)
            refine lv_aload_n G.1 G.2.1 dX5_submit_139 rfl (lv_at hl 1 rfl) ?_
            refine lv_iload G.1 G.2.1 dX5_submit_140 (lv_at hl 0 rfl) ?_
            refine lv_bipush (v := (10 : Int32)) G.1 G.2.1 dX5_submit_142 (by decide) ?_
            refine lv_iconst (v := (-1 : Int32)) G.1 G.2.1 dX5_submit_144 (by decide) ?_
            obtain ⟨s22, es22, hf⟩ := ob hf
            refine kc_v (wr := []) (w := wM cy h s21) (w' := wM cy h s22) (n := 3) (As := [.int v13, .int (10 : Int32), .int (-1 : Int32)]) (C := RX5) G hK hA hW (mX5_put l D cy h _ n s21 v13 (10 : Int32) (-1 : Int32) es22) (gV q_8_10 q_8_11 q_8_12 q_1_5 q_8_13) ⟨rfl, rfl⟩ (by decide +kernel) ⟨Nat.le_of_ble_eq_true rfl, Nat.le_of_ble_eq_true rfl⟩ (va_recv hK.1 hW.1 (ci := 7) (q0 := 0) rfl rfl) rfl hl.1 rfl (Nat.le_of_ble_eq_true rfl) dX5_submit_145 ⟨Nat.le_of_ble_eq_true rfl, Nat.le_of_ble_eq_true rfl⟩ (fun H locs hW => ?_)
            refine lv_aload_n G.1 G.2.1 dX5_submit_148 rfl (lv_at hl 1 rfl) ?_
            refine lv_iload G.1 G.2.1 dX5_submit_149 (lv_at hl 0 rfl) ?_
            refine lv_bipush (v := (11 : Int32)) G.1 G.2.1 dX5_submit_151 (by decide) ?_
            refine lv_iconst (v := (0 : Int32)) G.1 G.2.1 dX5_submit_153 (by decide) ?_
            obtain ⟨s23, es23, hf⟩ := ob hf
            refine kc_v (wr := []) (w := wM cy h s22) (w' := wM cy h s23) (n := 3) (As := [.int v13, .int (11 : Int32), .int (0 : Int32)]) (C := RX5) G hK hA hW (mX5_put l D cy h _ n s22 v13 (11 : Int32) (0 : Int32) es23) (gV q_8_10 q_8_11 q_8_12 q_1_5 q_8_13) ⟨rfl, rfl⟩ (by decide +kernel) ⟨Nat.le_of_ble_eq_true rfl, Nat.le_of_ble_eq_true rfl⟩ (va_recv hK.1 hW.1 (ci := 7) (q0 := 0) rfl rfl) rfl hl.1 rfl (Nat.le_of_ble_eq_true rfl) dX5_submit_154 ⟨Nat.le_of_ble_eq_true rfl, Nat.le_of_ble_eq_true rfl⟩ (fun H locs hW => ?_)
            refine lv_aload_n G.1 G.2.1 dX5_submit_157 rfl (lv_at hl 1 rfl) ?_
            refine lv_iload G.1 G.2.1 dX5_submit_158 (lv_at hl 0 rfl) ?_
            refine lv_bipush (v := (12 : Int32)) G.1 G.2.1 dX5_submit_160 (by decide) ?_
            refine lv_iconst (v := (-1 : Int32)) G.1 G.2.1 dX5_submit_162 (by decide) ?_
            obtain ⟨s24, es24, hf⟩ := ob hf
            refine kc_v (wr := []) (w := wM cy h s23) (w' := wM cy h s24) (n := 3) (As := [.int v13, .int (12 : Int32), .int (-1 : Int32)]) (C := RX5) G hK hA hW (mX5_put l D cy h _ n s23 v13 (12 : Int32) (-1 : Int32) es24) (gV q_8_10 q_8_11 q_8_12 q_1_5 q_8_13) ⟨rfl, rfl⟩ (by decide +kernel) ⟨Nat.le_of_ble_eq_true rfl, Nat.le_of_ble_eq_true rfl⟩ (va_recv hK.1 hW.1 (ci := 7) (q0 := 0) rfl rfl) rfl hl.1 rfl (Nat.le_of_ble_eq_true rfl) dX5_submit_163 ⟨Nat.le_of_ble_eq_true rfl, Nat.le_of_ble_eq_true rfl⟩ (fun H locs hW => ?_)
            refine lv_aload_n G.1 G.2.1 dX5_submit_166 rfl (lv_at hl 1 rfl) ?_
            refine lv_iload G.1 G.2.1 dX5_submit_167 (lv_at hl 0 rfl) ?_
            refine lv_bipush (v := (13 : Int32)) G.1 G.2.1 dX5_submit_169 (by decide) ?_
            refine lv_iconst (v := (0 : Int32)) G.1 G.2.1 dX5_submit_171 (by decide) ?_
            obtain ⟨s25, es25, hf⟩ := ob hf
            refine kc_v (wr := []) (w := wM cy h s24) (w' := wM cy h s25) (n := 3) (As := [.int v13, .int (13 : Int32), .int (0 : Int32)]) (C := RX5) G hK hA hW (mX5_put l D cy h _ n s24 v13 (13 : Int32) (0 : Int32) es25) (gV q_8_10 q_8_11 q_8_12 q_1_5 q_8_13) ⟨rfl, rfl⟩ (by decide +kernel) ⟨Nat.le_of_ble_eq_true rfl, Nat.le_of_ble_eq_true rfl⟩ (va_recv hK.1 hW.1 (ci := 7) (q0 := 0) rfl rfl) rfl hl.1 rfl (Nat.le_of_ble_eq_true rfl) dX5_submit_172 ⟨Nat.le_of_ble_eq_true rfl, Nat.le_of_ble_eq_true rfl⟩ (fun H locs hW => ?_)
            refine lv_aload_n G.1 G.2.1 dX5_submit_175 rfl (lv_at hl 1 rfl) ?_
            refine k_get G inlX5 hK hW 0 rfl rfl 0 (by decide) q_4_6 rfl dX5_submit_176 ?_
            refine lv_iconst (v := (1 : Int32)) G.1 G.2.1 dX5_submit_179 (by decide) ?_
            refine lv_dup2_11 G.1 G.2.1 dX5_submit_180 rfl rfl ?_
            obtain ⟨v26, ev26, hf⟩ := ob hf
            refine k_ald G hK hW 1 rfl ev26 dX5_submit_181 ?_
            refine lv_iconst (v := (1 : Int32)) G.1 G.2.1 dX5_submit_182 (by decide) ?_
            refine lv_iadd G.1 G.2.1 dX5_submit_183 ?_
            obtain ⟨s27, es27, hf⟩ := ob hf
            refine k_ast (w := wM cy h) G hK hW 1 0 609 rfl (fun _ => rfl) es27 dX5_submit_184 (fun H locs hW => ?_)
            refine lv_aload_n G.1 G.2.1 dX5_submit_185 rfl (lv_at hl 1 rfl) ?_
            refine lv_iconst (v := (0 : Int32)) G.1 G.2.1 dX5_submit_186 (by decide) ?_
            refine lv_iload G.1 G.2.1 dX5_submit_187 (lv_at hl 0 rfl) ?_
            obtain ⟨s28, es28, hf⟩ := ob hf
            refine kc_v (wr := []) (w := wM cy h s27) (w' := wM cy h s28) (n := 2) (As := [.int (0 : Int32), .int v13]) (C := RX5) G hK hA hW (mX5_records l D cy h _ n s27 (0 : Int32) v13 es28) (gV q_8_14 q_8_15 q_8_16 q_1_5 q_8_17) ⟨rfl, rfl⟩ (by decide +kernel) ⟨Nat.le_of_ble_eq_true rfl, Nat.le_of_ble_eq_true rfl⟩ (va_recv hK.1 hW.1 (ci := 7) (q0 := 0) rfl rfl) rfl hl.1 rfl (Nat.le_of_ble_eq_true rfl) dX5_submit_189 ⟨Nat.le_of_ble_eq_true rfl, Nat.le_of_ble_eq_true rfl⟩ (fun H locs hW => ?_)
            refine lv_aload_n G.1 G.2.1 dX5_submit_192 rfl (lv_at hl 1 rfl) ?_
            refine lv_iload G.1 G.2.1 dX5_submit_193 (lv_at hl 0 rfl) ?_
            obtain ⟨s29, es29, hf⟩ := ob hf
            refine kc_v (wr := []) (w := wM cy h s28) (w' := wM cy h s29) (n := 1) (As := [.int v13]) (C := RX5) G hK hA hW (mX5_plans l D cy h _ n s28 v13 es29) (gV q_8_18 q_8_19 q_8_20 q_1_5 q_8_21) ⟨rfl, rfl⟩ (by decide +kernel) ⟨Nat.le_of_ble_eq_true rfl, Nat.le_of_ble_eq_true rfl⟩ (va_recv hK.1 hW.1 (ci := 7) (q0 := 0) rfl rfl) rfl hl.1 rfl (Nat.le_of_ble_eq_true rfl) dX5_submit_195 ⟨Nat.le_of_ble_eq_true rfl, Nat.le_of_ble_eq_true rfl⟩ (fun H locs hW => ?_)
            refine lv_aload_n G.1 G.2.1 dX5_submit_198 rfl (lv_at hl 1 rfl) ?_
            refine lv_iload G.1 G.2.1 dX5_submit_199 (lv_at hl 0 rfl) ?_
            refine lv_bipush (v := (6 : Int32)) G.1 G.2.1 dX5_submit_201 (by decide) ?_
            obtain ⟨v30, ev30, hf⟩ := ob hf
            refine kc_i (wr := []) (w := wM cy h s29) (w' := wM cy h s29) (n := 2) (As := [.int v13, .int (6 : Int32)]) (C := RX5) G hK hA hW (mX5_of l D cy h _ n s29 v13 (6 : Int32) ev30) (gV q_8_22 q_8_23 q_9_0 q_1_5 q_9_1) ⟨rfl, rfl⟩ (by decide +kernel) ⟨Nat.le_of_ble_eq_true rfl, Nat.le_of_ble_eq_true rfl⟩ (va_recv hK.1 hW.1 (ci := 7) (q0 := 0) rfl rfl) rfl hl.1 rfl (Nat.le_of_ble_eq_true rfl) dX5_submit_203 ⟨Nat.le_of_ble_eq_true rfl, Nat.le_of_ble_eq_true rfl⟩ (fun H locs hW => ?_)
            refine lv_istore (lv' := [(6, .int v30), (5, .int v13), (0, .ref (h 10)), (1, .int x1), (2, .int x2), (3, .int x3), (4, .int x4)]) G.1 G.2.1 dX5_submit_206 hl (by decide) rfl (fun ls hl => ?_)
            refine lv_aload_n G.1 G.2.1 dX5_submit_208 rfl (lv_at hl 2 rfl) ?_
            refine lv_iload G.1 G.2.1 dX5_submit_209 (lv_at hl 1 rfl) ?_
            refine lv_bipush (v := (7 : Int32)) G.1 G.2.1 dX5_submit_211 (by decide) ?_
            refine lv_iload G.1 G.2.1 dX5_submit_213 (lv_at hl 0 rfl) ?_
            obtain ⟨s31, es31, hf⟩ := ob hf
            refine kc_v (wr := []) (w := wM cy h s29) (w' := wM cy h s31) (n := 3) (As := [.int v13, .int (7 : Int32), .int v30]) (C := RX5) G hK hA hW (mX5_put l D cy h _ n s29 v13 (7 : Int32) v30 es31) (gV q_8_10 q_8_11 q_8_12 q_1_5 q_8_13) ⟨rfl, rfl⟩ (by decide +kernel) ⟨Nat.le_of_ble_eq_true rfl, Nat.le_of_ble_eq_true rfl⟩ (va_recv hK.1 hW.1 (ci := 7) (q0 := 0) rfl rfl) rfl hl.1 rfl (Nat.le_of_ble_eq_true rfl) dX5_submit_215 ⟨Nat.le_of_ble_eq_true rfl, Nat.le_of_ble_eq_true rfl⟩ (fun H locs hW => ?_)
            refine lv_aload_n G.1 G.2.1 dX5_submit_218 rfl (lv_at hl 2 rfl) ?_
            obtain ⟨s32, es32, hf⟩ := ob hf
            refine kc_v (wr := []) (w := wM cy h s31) (w' := wM cy h s32) (n := 0) (As := []) (C := RX5) G hK hA hW (mX5_starts l D cy h _ n s31  es32) (gV q_10_2 q_10_3 q_10_4 q_1_5 q_10_5) ⟨rfl, rfl⟩ (by decide +kernel) ⟨Nat.le_of_ble_eq_true rfl, Nat.le_of_ble_eq_true rfl⟩ (va_recv hK.1 hW.1 (ci := 7) (q0 := 0) rfl rfl) rfl hl.1 rfl (Nat.le_of_ble_eq_true rfl) dX5_submit_219 ⟨Nat.le_of_ble_eq_true rfl, Nat.le_of_ble_eq_true rfl⟩ (fun H locs hW => ?_)
            refine lv_iload G.1 G.2.1 dX5_submit_222 (lv_at hl 0 rfl) ?_
            cases hf
            exact k_iret G hr hlk hK hW dX5_submit_224
          · replace hf := it c57 hf
            refine lv_aload_n G.1 G.2.1 dX5_submit_60 rfl (lv_at hl 0 rfl) ?_
            refine lv_iconst (v := (2 : Int32)) G.1 G.2.1 dX5_submit_61 (by decide) ?_
            obtain ⟨v33, s34, ev33, hf⟩ := ob2 hf
            refine kc_i (wr := []) (w := wM cy h s1) (w' := wM cy h s34) (n := 1) (As := [.int (2 : Int32)]) (C := RX5) G hK hA hW (mX5_raises l D cy h _ n s1 (2 : Int32) ev33) (gV q_8_6 q_8_7 q_8_8 q_1_5 q_8_9) ⟨rfl, rfl⟩ (by decide +kernel) ⟨Nat.le_of_ble_eq_true rfl, Nat.le_of_ble_eq_true rfl⟩ (va_recv hK.1 hW.1 (ci := 7) (q0 := 0) rfl rfl) rfl hl.1 rfl (Nat.le_of_ble_eq_true rfl) dX5_submit_62 ⟨Nat.le_of_ble_eq_true rfl, Nat.le_of_ble_eq_true rfl⟩ (fun H locs hW => ?_)
            cases hf
            exact k_iret G hr hlk hK hW dX5_submit_65
        · replace hf := it c40 hf
          refine lv_aload_n G.1 G.2.1 dX5_submit_43 rfl (lv_at hl 0 rfl) ?_
          refine lv_iconst (v := (1 : Int32)) G.1 G.2.1 dX5_submit_44 (by decide) ?_
          obtain ⟨v35, s36, ev35, hf⟩ := ob2 hf
          refine kc_i (wr := []) (w := wM cy h s1) (w' := wM cy h s36) (n := 1) (As := [.int (1 : Int32)]) (C := RX5) G hK hA hW (mX5_raises l D cy h _ n s1 (1 : Int32) ev35) (gV q_8_6 q_8_7 q_8_8 q_1_5 q_8_9) ⟨rfl, rfl⟩ (by decide +kernel) ⟨Nat.le_of_ble_eq_true rfl, Nat.le_of_ble_eq_true rfl⟩ (va_recv hK.1 hW.1 (ci := 7) (q0 := 0) rfl rfl) rfl hl.1 rfl (Nat.le_of_ble_eq_true rfl) dX5_submit_45 ⟨Nat.le_of_ble_eq_true rfl, Nat.le_of_ble_eq_true rfl⟩ (fun H locs hW => ?_)
          cases hf
          exact k_iret G hr hlk hK hW dX5_submit_48

set_option maxHeartbeats 4000000 in
set_option maxRecDepth 100000 in
theorem mX5_ticks (l : Launch) (D : va_G) (cy : ClassId) (h : Nat → Nat) (sz n : Nat) (σ : St) {r : Int32} {σ' : St} (hf : fX5_ticks n σ = some (r, σ')) : Mi l yX5_ticks (ws_ yX5_ticks cX5_ticks 3 (some .int)) { frames := 7, cells := 0, slots := 0, locals := 164 } D cy (wM cy h σ) (wM cy h σ') sz [.ref (h 10)] r := by
  refine Met.ofW (cc := cX5_ticks) (maxL := 3) (ret := (some .int)) (by decide) rfl ?_
  intro p e s m args below meth c s₁ B hml hv
  obtain ⟨rfl, hsz, hP, hK, hD0⟩ := hv
  subst hsz
  have hts := atoms_spec (ws := ws_ yX5_ticks cX5_ticks 3 (some .int)) B.pre
  have G : CallFix p m c cX5_ticks 3 s _ wA RX5 := ⟨B.exec, B.bytes, hml, findClass_of_methodNamed B.named, fun w h => hts w (List.mem_cons_of_mem _ h)⟩
  have hr := B.returns
  have hlk := B.notSynchronized
  have hW : KW D (va_A (wM cy h σ) s.heap.size) s.heap (wM cy h σ) s.heap [] := ⟨hP, hD0.self, va_S.rf⟩
  have hA : ∀ q, s.heap.size ≤ q → va_A (wM cy h σ) s.heap.size q := fun q h => Or.inr h
  have hl := lv_entry ([.ref (h 10)]) (n := 3) (Nat.le_of_ble_eq_true rfl)
  rw [lg_entry_eq]
  generalize (lg_sl ([.ref (h 10)]) ++ List.replicate (3 - (lg_sl ([.ref (h 10)])).length) Slot.unset).toArray = ls at hl ⊢
  have hl : lv_has ls 3 [(0, .ref (h 10))] := hl
  unfold fX5_ticks at hf
  refine lv_aload_n G.1 G.2.1 dX5_ticks_0 rfl (lv_at hl 0 rfl) ?_
  refine k_get G inlX5 hK hW 0 rfl rfl 0 (by decide) q_4_6 rfl dX5_ticks_1 ?_
  refine lv_iconst (v := (0 : Int32)) G.1 G.2.1 dX5_ticks_4 (by decide) ?_
  refine lv_dup2_11 G.1 G.2.1 dX5_ticks_5 rfl rfl ?_
  obtain ⟨v1, ev1, hf⟩ := ob hf
  refine k_ald G hK hW 1 rfl ev1 dX5_ticks_6 ?_
  refine lv_iconst (v := (1 : Int32)) G.1 G.2.1 dX5_ticks_7 (by decide) ?_
  refine lv_iadd G.1 G.2.1 dX5_ticks_8 ?_
  obtain ⟨s2, es2, hf⟩ := ob hf
  refine k_ast (w := wM cy h) G hK hW 1 0 609 rfl (fun _ => rfl) es2 dX5_ticks_9 (fun H locs hW => ?_)
  refine lv_iconst (v := (0 : Int32)) G.1 G.2.1 dX5_ticks_10 (by decide) ?_
  refine lv_istore_n (lv' := [(1, .int (0 : Int32)), (0, .ref (h 10))]) G.1 G.2.1 dX5_ticks_11 rfl hl (by decide) rfl (fun ls hl => ?_)
  refine lv_iconst (v := (0 : Int32)) G.1 G.2.1 dX5_ticks_12 (by decide) ?_
  refine lv_istore_n (lv' := [(2, .int (0 : Int32)), (1, .int (0 : Int32)), (0, .ref (h 10))]) G.1 G.2.1 dX5_ticks_13 rfl hl (by decide) rfl (fun ls hl => ?_)
  have L14 : ∀ (fu : Nat) (y3 : Int32) (y4 : Int32) (s5 : St) (H : Heap) (locs : List Loc) (ls : Array Slot), lz3 (fX5_ticks_b14 n) fu y3 y4 s5 = some (r, σ') → KW D (va_A (wM cy h σ) s.heap.size) s.heap (wM cy h s5) H locs → lv_has ls 3 [(2, .int y3), (1, .int y4), (0, .ref (h 10))] → W p l e (headSpec (ws_ yX5_ticks cX5_ticks 3 (some .int)) { frames := 7, cells := 0, slots := 0, locals := 164 }).room s m (([.ref (h 10)] : List Value).toArray) below meth c H locs 0 0 (MQ below (va_Qi (fun (r' : Int32) (_ : Unit) => r' = r) (fun _ => KB D (va_A (wM cy h σ) s.heap.size) (wM cy h σ')) (va_A (wM cy h σ) s.heap.size)) (([.ref (h 10)] : List Value).toArray) s 0 0 (va_A (wM cy h σ) s.heap.size)) (F0 m 14 ls []) := by
    intro fu14
    induction fu14 with
    | zero => intro y3 y4 s5 H locs ls hf; cases hf
    | succ fu14 ih14 =>
      intro y3 y4 s5 H locs ls hf hW hl
      rw [lz3_s] at hf
      unfold fX5_ticks_b14 at hf
      refine lv_iload_n G.1 G.2.1 dX5_ticks_14 rfl (lv_at hl 0 rfl) ?_
      refine lv_aload_n G.1 G.2.1 dX5_ticks_15 rfl (lv_at hl 2 rfl) ?_
      refine k_get G inlX5 hK hW 0 rfl rfl 0 (by decide) q_4_6 rfl dX5_ticks_16 ?_
      refine lv_iconst (v := (1 : Int32)) G.1 G.2.1 dX5_ticks_19 (by decide) ?_
      obtain ⟨v7, ev7, hf⟩ := ob hf
      refine k_ald G hK hW 1 rfl ev7 dX5_ticks_20 ?_
      refine lv_icmp_ge (tgt := 116) G.1 G.2.1 dX5_ticks_21 (by decide) (fun c21 => ?_) (fun c21 => ?_)
      · replace hf := it c21 hf
        refine lv_iload_n G.1 G.2.1 dX5_ticks_116 rfl (lv_at hl 1 rfl) ?_
        refine lv_if_le (tgt := 124) G.1 G.2.1 dX5_ticks_117 (by decide) (fun c117 => ?_) (fun c117 => ?_)
        · replace hf := it c117 hf
          refine lv_aload_n G.1 G.2.1 dX5_ticks_124 rfl (lv_at hl 2 rfl) ?_
          obtain ⟨s8, es8, hf⟩ := ob hf
          refine kc_v (wr := []) (w := wM cy h s5) (w' := wM cy h s8) (n := 0) (As := []) (C := RX5) G hK hA hW (mX5_starts l D cy h _ n s5  es8) (gV q_10_2 q_10_3 q_10_4 q_1_5 q_10_5) ⟨rfl, rfl⟩ (by decide +kernel) ⟨Nat.le_of_ble_eq_true rfl, Nat.le_of_ble_eq_true rfl⟩ (va_recv hK.1 hW.1 (ci := 7) (q0 := 0) rfl rfl) rfl hl.1 rfl (Nat.le_of_ble_eq_true rfl) dX5_ticks_125 ⟨Nat.le_of_ble_eq_true rfl, Nat.le_of_ble_eq_true rfl⟩ (fun H locs hW => ?_)
          refine lv_iload_n G.1 G.2.1 dX5_ticks_128 rfl (lv_at hl 1 rfl) ?_
          cases hf
          exact k_iret G hr hlk hK hW dX5_ticks_129
        · replace hf := ie c117 hf
          refine lv_aload_n G.1 G.2.1 dX5_ticks_120 rfl (lv_at hl 2 rfl) ?_
          obtain ⟨s9, es9, hf⟩ := ob hf
          refine kc_v (wr := []) (w := wM cy h s5) (w' := wM cy h s9) (n := 0) (As := []) (C := RX5) G hK hA hW (mX5_replans l D cy h _ n s5  es9) (gV q_13_1 q_13_2 q_13_3 q_1_5 q_13_4) ⟨rfl, rfl⟩ (by decide +kernel) ⟨Nat.le_of_ble_eq_true rfl, Nat.le_of_ble_eq_true rfl⟩ (va_recv hK.1 hW.1 (ci := 7) (q0 := 0) rfl rfl) rfl hl.1 rfl (Nat.le_of_ble_eq_true rfl) dX5_ticks_121 ⟨Nat.le_of_ble_eq_true rfl, Nat.le_of_ble_eq_true rfl⟩ (fun H locs hW => ?_)
          refine lv_aload_n G.1 G.2.1 dX5_ticks_124 rfl (lv_at hl 2 rfl) ?_
          obtain ⟨s10, es10, hf⟩ := ob hf
          refine kc_v (wr := []) (w := wM cy h s9) (w' := wM cy h s10) (n := 0) (As := []) (C := RX5) G hK hA hW (mX5_starts l D cy h _ n s9  es10) (gV q_10_2 q_10_3 q_10_4 q_1_5 q_10_5) ⟨rfl, rfl⟩ (by decide +kernel) ⟨Nat.le_of_ble_eq_true rfl, Nat.le_of_ble_eq_true rfl⟩ (va_recv hK.1 hW.1 (ci := 7) (q0 := 0) rfl rfl) rfl hl.1 rfl (Nat.le_of_ble_eq_true rfl) dX5_ticks_125 ⟨Nat.le_of_ble_eq_true rfl, Nat.le_of_ble_eq_true rfl⟩ (fun H locs hW => ?_)
          refine lv_iload_n G.1 G.2.1 dX5_ticks_128 rfl (lv_at hl 1 rfl) ?_
          cases hf
          exact k_iret G hr hlk hK hW dX5_ticks_129
      · replace hf := ie c21 hf
        refine lv_aload_n G.1 G.2.1 dX5_ticks_24 rfl (lv_at hl 2 rfl) ?_
        refine lv_iload_n G.1 G.2.1 dX5_ticks_25 rfl (lv_at hl 0 rfl) ?_
        refine lv_iconst (v := (4 : Int32)) G.1 G.2.1 dX5_ticks_26 (by decide) ?_
        obtain ⟨v11, ev11, hf⟩ := ob hf
        refine kc_i (wr := []) (w := wM cy h s5) (w' := wM cy h s5) (n := 2) (As := [.int y3, .int (4 : Int32)]) (C := RX5) G hK hA hW (mX5_of l D cy h _ n s5 y3 (4 : Int32) ev11) (gV q_8_22 q_8_23 q_9_0 q_1_5 q_9_1) ⟨rfl, rfl⟩ (by decide +kernel) ⟨Nat.le_of_ble_eq_true rfl, Nat.le_of_ble_eq_true rfl⟩ (va_recv hK.1 hW.1 (ci := 7) (q0 := 0) rfl rfl) rfl hl.1 rfl (Nat.le_of_ble_eq_true rfl) dX5_ticks_27 ⟨Nat.le_of_ble_eq_true rfl, Nat.le_of_ble_eq_true rfl⟩ (fun H locs hW => ?_)
        refine lv_iconst (v := (1 : Int32)) G.1 G.2.1 dX5_ticks_30 (by decide) ?_
        refine lv_icmp_ne (tgt := 110) G.1 G.2.1 dX5_ticks_31 (by decide) (fun c31 => ?_) (fun c31 => ?_)
        · replace hf := ie c31 hf
          refine lv_iinc (v := (y3 + (1 : Int32))) (lv' := [(2, .int (y3 + (1 : Int32))), (1, .int y4), (0, .ref (h 10))]) G.1 G.2.1 dX5_ticks_110 hl (k := 0) rfl (congrArg (y3 + ·) (by decide)) (by decide) rfl (fun ls hl => ?_)
          refine lv_goto (tgt := 14) G.1 G.2.1 dX5_ticks_113 (by decide) ?_
          exact ih14 _ _ _ _ _ _ hf hW (lv_sub hl [0, 1, 2] rfl)
        · replace hf := it c31 hf
          refine lv_aload_n G.1 G.2.1 dX5_ticks_34 rfl (lv_at hl 2 rfl) ?_
          refine k_get G inlX5 hK hW 0 rfl rfl 0 (by decide) q_4_6 rfl dX5_ticks_35 ?_
          refine lv_iconst (v := (0 : Int32)) G.1 G.2.1 dX5_ticks_38 (by decide) ?_
          obtain ⟨v12, ev12, hf⟩ := ob hf
          refine k_ald G hK hW 1 rfl ev12 dX5_ticks_39 ?_
          refine lv_aload_n G.1 G.2.1 dX5_ticks_40 rfl (lv_at hl 2 rfl) ?_
          refine lv_iload_n G.1 G.2.1 dX5_ticks_41 rfl (lv_at hl 0 rfl) ?_
          refine lv_bipush (v := (6 : Int32)) G.1 G.2.1 dX5_ticks_42 (by decide) ?_
          obtain ⟨v13, ev13, hf⟩ := ob hf
          refine kc_i (wr := []) (w := wM cy h s5) (w' := wM cy h s5) (n := 2) (As := [.int y3, .int (6 : Int32)]) (C := RX5) G hK hA hW (mX5_of l D cy h _ n s5 y3 (6 : Int32) ev13) (gV q_8_22 q_8_23 q_9_0 q_1_5 q_9_1) ⟨rfl, rfl⟩ (by decide +kernel) ⟨Nat.le_of_ble_eq_true rfl, Nat.le_of_ble_eq_true rfl⟩ (va_recv hK.1 hW.1 (ci := 7) (q0 := 0) rfl rfl) rfl hl.1 rfl (Nat.le_of_ble_eq_true rfl) dX5_ticks_44 ⟨Nat.le_of_ble_eq_true rfl, Nat.le_of_ble_eq_true rfl⟩ (fun H locs hW => ?_)
          refine lv_isub G.1 G.2.1 dX5_ticks_47 ?_
          refine lv_aload_n G.1 G.2.1 dX5_ticks_48 rfl (lv_at hl 2 rfl) ?_
          refine lv_iload_n G.1 G.2.1 dX5_ticks_49 rfl (lv_at hl 0 rfl) ?_
          refine lv_iconst (v := (3 : Int32)) G.1 G.2.1 dX5_ticks_50 (by decide) ?_
          obtain ⟨v14, ev14, hf⟩ := ob hf
          refine kc_i (wr := []) (w := wM cy h s5) (w' := wM cy h s5) (n := 2) (As := [.int y3, .int (3 : Int32)]) (C := RX5) G hK hA hW (mX5_of l D cy h _ n s5 y3 (3 : Int32) ev14) (gV q_8_22 q_8_23 q_9_0 q_1_5 q_9_1) ⟨rfl, rfl⟩ (by decide +kernel) ⟨Nat.le_of_ble_eq_true rfl, Nat.le_of_ble_eq_true rfl⟩ (va_recv hK.1 hW.1 (ci := 7) (q0 := 0) rfl rfl) rfl hl.1 rfl (Nat.le_of_ble_eq_true rfl) dX5_ticks_51 ⟨Nat.le_of_ble_eq_true rfl, Nat.le_of_ble_eq_true rfl⟩ (fun H locs hW => ?_)
          refine lv_icmp_eq (tgt := 60) G.1 G.2.1 dX5_ticks_54 (by decide) (fun c54 => ?_) (fun c54 => ?_)
          · replace hf := it c54 hf
            refine lv_aload_n G.1 G.2.1 dX5_ticks_60 rfl (lv_at hl 2 rfl) ?_
            refine lv_iload_n G.1 G.2.1 dX5_ticks_61 rfl (lv_at hl 0 rfl) ?_
            refine lv_bipush (v := (13 : Int32)) G.1 G.2.1 dX5_ticks_62 (by decide) ?_
            refine lv_aload_n G.1 G.2.1 dX5_ticks_64 rfl (lv_at hl 2 rfl) ?_
            refine lv_iload_n G.1 G.2.1 dX5_ticks_65 rfl (lv_at hl 0 rfl) ?_
            refine lv_bipush (v := (13 : Int32)) G.1 G.2.1 dX5_ticks_66 (by decide) ?_
            obtain ⟨v15, ev15, hf⟩ := ob hf
            refine kc_i (wr := []) (w := wM cy h s5) (w' := wM cy h s5) (n := 2) (As := [.int y3, .int (13 : Int32)]) (C := RX5) G hK hA hW (mX5_of l D cy h _ n s5 y3 (13 : Int32) ev15) (gV q_8_22 q_8_23 q_9_0 q_1_5 q_9_1) ⟨rfl, rfl⟩ (by decide +kernel) ⟨Nat.le_of_ble_eq_true rfl, Nat.le_of_ble_eq_true rfl⟩ (va_recv hK.1 hW.1 (ci := 7) (q0 := 0) rfl rfl) rfl hl.1 rfl (Nat.le_of_ble_eq_true rfl) dX5_ticks_68 ⟨Nat.le_of_ble_eq_true rfl, Nat.le_of_ble_eq_true rfl⟩ (fun H locs hW => ?_)
            refine lv_aload_n G.1 G.2.1 dX5_ticks_71 rfl (lv_at hl 2 rfl) ?_
            refine lv_iload_n G.1 G.2.1 dX5_ticks_72 rfl (lv_at hl 0 rfl) ?_
            refine lv_iconst (v := (3 : Int32)) G.1 G.2.1 dX5_ticks_73 (by decide) ?_
            obtain ⟨v16, ev16, hf⟩ := ob hf
            refine kc_i (wr := []) (w := wM cy h s5) (w' := wM cy h s5) (n := 2) (As := [.int y3, .int (3 : Int32)]) (C := RX5) G hK hA hW (mX5_of l D cy h _ n s5 y3 (3 : Int32) ev16) (gV q_8_22 q_8_23 q_9_0 q_1_5 q_9_1) ⟨rfl, rfl⟩ (by decide +kernel) ⟨Nat.le_of_ble_eq_true rfl, Nat.le_of_ble_eq_true rfl⟩ (va_recv hK.1 hW.1 (ci := 7) (q0 := 0) rfl rfl) rfl hl.1 rfl (Nat.le_of_ble_eq_true rfl) dX5_ticks_74 ⟨Nat.le_of_ble_eq_true rfl, Nat.le_of_ble_eq_true rfl⟩ (fun H locs hW => ?_)
            refine lv_iadd G.1 G.2.1 dX5_ticks_77 ?_
            obtain ⟨s17, es17, hf⟩ := ob hf
            refine kc_v (wr := []) (w := wM cy h s5) (w' := wM cy h s17) (n := 3) (As := [.int y3, .int (13 : Int32), .int (v15 + v16)]) (C := RX5) G hK hA hW (mX5_put l D cy h _ n s5 y3 (13 : Int32) (v15 + v16) es17) (gV q_8_10 q_8_11 q_8_12 q_1_5 q_8_13) ⟨rfl, rfl⟩ (by decide +kernel) ⟨Nat.le_of_ble_eq_true rfl, Nat.le_of_ble_eq_true rfl⟩ (va_recv hK.1 hW.1 (ci := 7) (q0 := 0) rfl rfl) rfl hl.1 rfl (Nat.le_of_ble_eq_true rfl) dX5_ticks_78 ⟨Nat.le_of_ble_eq_true rfl, Nat.le_of_ble_eq_true rfl⟩ (fun H locs hW => ?_)
            refine lv_aload_n G.1 G.2.1 dX5_ticks_81 rfl (lv_at hl 2 rfl) ?_
            refine lv_iload_n G.1 G.2.1 dX5_ticks_82 rfl (lv_at hl 0 rfl) ?_
            refine lv_iconst (v := (4 : Int32)) G.1 G.2.1 dX5_ticks_83 (by decide) ?_
            refine lv_iconst (v := (2 : Int32)) G.1 G.2.1 dX5_ticks_84 (by decide) ?_
            obtain ⟨s18, es18, hf⟩ := ob hf
            refine kc_v (wr := []) (w := wM cy h s17) (w' := wM cy h s18) (n := 3) (As := [.int y3, .int (4 : Int32), .int (2 : Int32)]) (C := RX5) G hK hA hW (mX5_put l D cy h _ n s17 y3 (4 : Int32) (2 : Int32) es18) (gV q_8_10 q_8_11 q_8_12 q_1_5 q_8_13) ⟨rfl, rfl⟩ (by decide +kernel) ⟨Nat.le_of_ble_eq_true rfl, Nat.le_of_ble_eq_true rfl⟩ (va_recv hK.1 hW.1 (ci := 7) (q0 := 0) rfl rfl) rfl hl.1 rfl (Nat.le_of_ble_eq_true rfl) dX5_ticks_85 ⟨Nat.le_of_ble_eq_true rfl, Nat.le_of_ble_eq_true rfl⟩ (fun H locs hW => ?_)
            refine lv_aload_n G.1 G.2.1 dX5_ticks_88 rfl (lv_at hl 2 rfl) ?_
            refine lv_iload_n G.1 G.2.1 dX5_ticks_89 rfl (lv_at hl 0 rfl) ?_
            refine lv_bipush (v := (10 : Int32)) G.1 G.2.1 dX5_ticks_90 (by decide) ?_
            refine lv_aload_n G.1 G.2.1 dX5_ticks_92 rfl (lv_at hl 2 rfl) ?_
            refine k_get G inlX5 hK hW 0 rfl rfl 0 (by decide) q_4_6 rfl dX5_ticks_93 ?_
            refine lv_iconst (v := (0 : Int32)) G.1 G.2.1 dX5_ticks_96 (by decide) ?_
            obtain ⟨v19, ev19, hf⟩ := ob hf
            refine k_ald G hK hW 1 rfl ev19 dX5_ticks_97 ?_
            obtain ⟨s20, es20, hf⟩ := ob hf
            refine kc_v (wr := []) (w := wM cy h s18) (w' := wM cy h s20) (n := 3) (As := [.int y3, .int (10 : Int32), .int v19]) (C := RX5) G hK hA hW (mX5_put l D cy h _ n s18 y3 (10 : Int32) v19 es20) (gV q_8_10 q_8_11 q_8_12 q_1_5 q_8_13) ⟨rfl, rfl⟩ (by decide +kernel) ⟨Nat.le_of_ble_eq_true rfl, Nat.le_of_ble_eq_true rfl⟩ (va_recv hK.1 hW.1 (ci := 7) (q0 := 0) rfl rfl) rfl hl.1 rfl (Nat.le_of_ble_eq_true rfl) dX5_ticks_98 ⟨Nat.le_of_ble_eq_true rfl, Nat.le_of_ble_eq_true rfl⟩ (fun H locs hW => ?_)
            refine lv_aload_n G.1 G.2.1 dX5_ticks_101 rfl (lv_at hl 2 rfl) ?_
            refine lv_iconst (v := (2 : Int32)) G.1 G.2.1 dX5_ticks_102 (by decide) ?_
            refine lv_iload_n G.1 G.2.1 dX5_ticks_103 rfl (lv_at hl 0 rfl) ?_
            obtain ⟨s21, es21, hf⟩ := ob hf
            refine kc_v (wr := []) (w := wM cy h s20) (w' := wM cy h s21) (n := 2) (As := [.int (2 : Int32), .int y3]) (C := RX5) G hK hA hW (mX5_records l D cy h _ n s20 (2 : Int32) y3 es21) (gV q_8_14 q_8_15 q_8_16 q_1_5 q_8_17) ⟨rfl, rfl⟩ (by decide +kernel) ⟨Nat.le_of_ble_eq_true rfl, Nat.le_of_ble_eq_true rfl⟩ (va_recv hK.1 hW.1 (ci := 7) (q0 := 0) rfl rfl) rfl hl.1 rfl (Nat.le_of_ble_eq_true rfl) dX5_ticks_104 ⟨Nat.le_of_ble_eq_true rfl, Nat.le_of_ble_eq_true rfl⟩ (fun H locs hW => ?_)
            refine lv_iinc (v := (y4 + (1 : Int32))) (lv' := [(1, .int (y4 + (1 : Int32))), (2, .int y3), (0, .ref (h 10))]) G.1 G.2.1 dX5_ticks_107 hl (k := 1) rfl (congrArg (y4 + ·) (by decide)) (by decide) rfl (fun ls hl => ?_)
            refine lv_iinc (v := (y3 + (1 : Int32))) (lv' := [(2, .int (y3 + (1 : Int32))), (1, .int (y4 + (1 : Int32))), (0, .ref (h 10))]) G.1 G.2.1 dX5_ticks_110 hl (k := 1) rfl (congrArg (y3 + ·) (by decide)) (by decide) rfl (fun ls hl => ?_)
            refine lv_goto (tgt := 14) G.1 G.2.1 dX5_ticks_113 (by decide) ?_
            exact ih14 _ _ _ _ _ _ hf hW (lv_sub hl [0, 1, 2] rfl)
          · replace hf := ie c54 hf
            refine lv_goto (tgt := 110) G.1 G.2.1 dX5_ticks_57 (by decide) ?_
            refine lv_iinc (v := (y3 + (1 : Int32))) (lv' := [(2, .int (y3 + (1 : Int32))), (1, .int y4), (0, .ref (h 10))]) G.1 G.2.1 dX5_ticks_110 hl (k := 0) rfl (congrArg (y3 + ·) (by decide)) (by decide) rfl (fun ls hl => ?_)
            refine lv_goto (tgt := 14) G.1 G.2.1 dX5_ticks_113 (by decide) ?_
            exact ih14 _ _ _ _ _ _ hf hW (lv_sub hl [0, 1, 2] rfl)
  exact L14 _ _ _ _ _ _ _ hf hW (lv_sub hl [0, 1, 2] rfl)

set_option maxHeartbeats 4000000 in
set_option maxRecDepth 100000 in
theorem mX5_advance (l : Launch) (D : va_G) (cy : ClassId) (h : Nat → Nat) (sz n : Nat) (σ : St) (x1 : Int32) {r : Int32} {σ' : St} (hf : fX5_advance n σ x1 = some (r, σ')) : Mi l yX5_advance (ws_ yX5_advance cX5_advance 4 (some .int)) { frames := 8, cells := 0, slots := 0, locals := 186 } D cy (wM cy h σ) (wM cy h σ') sz [.ref (h 10), .int x1] r := by
  refine Met.ofW (cc := cX5_advance) (maxL := 4) (ret := (some .int)) (by decide) rfl ?_
  intro p e s m args below meth c s₁ B hml hv
  obtain ⟨rfl, hsz, hP, hK, hD0⟩ := hv
  subst hsz
  have hts := atoms_spec (ws := ws_ yX5_advance cX5_advance 4 (some .int)) B.pre
  have G : CallFix p m c cX5_advance 4 s _ wA RX5 := ⟨B.exec, B.bytes, hml, findClass_of_methodNamed B.named, fun w h => hts w (List.mem_cons_of_mem _ h)⟩
  have hr := B.returns
  have hlk := B.notSynchronized
  have hW : KW D (va_A (wM cy h σ) s.heap.size) s.heap (wM cy h σ) s.heap [] := ⟨hP, hD0.self, va_S.rf⟩
  have hA : ∀ q, s.heap.size ≤ q → va_A (wM cy h σ) s.heap.size q := fun q h => Or.inr h
  have hl := lv_entry ([.ref (h 10), .int x1]) (n := 4) (Nat.le_of_ble_eq_true rfl)
  rw [lg_entry_eq]
  generalize (lg_sl ([.ref (h 10), .int x1]) ++ List.replicate (4 - (lg_sl ([.ref (h 10), .int x1])).length) Slot.unset).toArray = ls at hl ⊢
  have hl : lv_has ls 4 [(0, .ref (h 10)), (1, .int x1)] := hl
  unfold fX5_advance at hf
  refine lv_aload_n G.1 G.2.1 dX5_advance_0 rfl (lv_at hl 0 rfl) ?_
  refine lv_iconst (v := (0 : Int32)) G.1 G.2.1 dX5_advance_1 (by decide) ?_
  obtain ⟨s1, es1, hf⟩ := ob hf
  refine k_put (w := wM cy h) G inlX5 tyX5 tyX5_ok nmX5 hK hW 0 6 rfl rfl 4 (by decide) q_8_2 rfl (by decide +kernel) (Nat.le_of_ble_eq_true rfl) rfl es1 dX5_advance_2 (fun H locs hW => ?_)
  refine lv_iload_n G.1 G.2.1 dX5_advance_5 rfl (lv_at hl 1 rfl) ?_
  refine lv_iconst (v := (1 : Int32)) G.1 G.2.1 dX5_advance_6 (by decide) ?_
  refine lv_bipush (v := (50 : Int32)) G.1 G.2.1 dX5_advance_7 (by decide) ?_
  obtain ⟨v2, ev2, hf⟩ := ob hf
  refine kc_s (n := 3) (As := [.int x1, .int (1 : Int32), .int (50 : Int32)]) G hW (mX5_in l n x1 (1 : Int32) (50 : Int32) ev2) (gS q_8_3 q_8_4 q_1_5 q_8_5) ⟨rfl, rfl⟩ (by decide +kernel) ⟨Nat.le_of_ble_eq_true rfl, Nat.le_of_ble_eq_true rfl⟩ rfl hl.1 rfl (Nat.le_of_ble_eq_true rfl) dX5_advance_9 ⟨Nat.le_of_ble_eq_true rfl, Nat.le_of_ble_eq_true rfl⟩ (fun H locs hW => ?_)
  refine lv_if_ne (tgt := 21) G.1 G.2.1 dX5_advance_12 (by decide) (fun c12 => ?_) (fun c12 => ?_)
  · replace hf := ie c12 hf
    refine lv_aload_n G.1 G.2.1 dX5_advance_21 rfl (lv_at hl 0 rfl) ?_
    refine k_get G inlX5 hK hW 0 rfl rfl 0 (by decide) q_4_6 rfl dX5_advance_22 ?_
    refine lv_iconst (v := (0 : Int32)) G.1 G.2.1 dX5_advance_25 (by decide) ?_
    obtain ⟨v3, ev3, hf⟩ := ob hf
    refine k_ald G hK hW 1 rfl ev3 dX5_advance_26 ?_
    refine lv_iload_n G.1 G.2.1 dX5_advance_27 rfl (lv_at hl 1 rfl) ?_
    refine lv_iadd G.1 G.2.1 dX5_advance_28 ?_
    refine lv_sipush (v := (1000 : Int32)) G.1 G.2.1 dX5_advance_29 (by decide) ?_
    refine lv_icmp_le (tgt := 41) G.1 G.2.1 dX5_advance_32 (by decide) (fun c32 => ?_) (fun c32 => ?_)
    · replace hf := it c32 hf
      refine lv_iconst (v := (0 : Int32)) G.1 G.2.1 dX5_advance_41 (by decide) ?_
      refine lv_istore_n (lv' := [(2, .int (0 : Int32)), (0, .ref (h 10)), (1, .int x1)]) G.1 G.2.1 dX5_advance_42 rfl hl (by decide) rfl (fun ls hl => ?_)
      refine lv_iconst (v := (0 : Int32)) G.1 G.2.1 dX5_advance_43 (by decide) ?_
      refine lv_istore_n (lv' := [(3, .int (0 : Int32)), (2, .int (0 : Int32)), (0, .ref (h 10)), (1, .int x1)]) G.1 G.2.1 dX5_advance_44 rfl hl (by decide) rfl (fun ls hl => ?_)
      have L45 : ∀ (fu : Nat) (y4 : Int32) (y5 : Int32) (s6 : St) (H : Heap) (locs : List Loc) (ls : Array Slot), lz3 (fX5_advance_b45 n x1) fu y4 y5 s6 = some (r, σ') → KW D (va_A (wM cy h σ) s.heap.size) s.heap (wM cy h s6) H locs → lv_has ls 4 [(3, .int y4), (2, .int y5), (0, .ref (h 10)), (1, .int x1)] → W p l e (headSpec (ws_ yX5_advance cX5_advance 4 (some .int)) { frames := 8, cells := 0, slots := 0, locals := 186 }).room s m (([.ref (h 10), .int x1] : List Value).toArray) below meth c H locs 0 0 (MQ below (va_Qi (fun (r' : Int32) (_ : Unit) => r' = r) (fun _ => KB D (va_A (wM cy h σ) s.heap.size) (wM cy h σ')) (va_A (wM cy h σ) s.heap.size)) (([.ref (h 10), .int x1] : List Value).toArray) s 0 0 (va_A (wM cy h σ) s.heap.size)) (F0 m 45 ls []) := by
        intro fu45
        induction fu45 with
        | zero => intro y4 y5 s6 H locs ls hf; cases hf
        | succ fu45 ih45 =>
          intro y4 y5 s6 H locs ls hf hW hl
          rw [lz3_s] at hf
          unfold fX5_advance_b45 at hf
          refine lv_iload_n G.1 G.2.1 dX5_advance_45 rfl (lv_at hl 0 rfl) ?_
          refine lv_iload_n G.1 G.2.1 dX5_advance_46 rfl (lv_at hl 3 rfl) ?_
          refine lv_icmp_ge (tgt := 63) G.1 G.2.1 dX5_advance_47 (by decide) (fun c47 => ?_) (fun c47 => ?_)
          · replace hf := it c47 hf
            refine lv_iload_n G.1 G.2.1 dX5_advance_63 rfl (lv_at hl 1 rfl) ?_
            cases hf
            exact k_iret G hr hlk hK hW dX5_advance_64
          · replace hf := ie c47 hf
            refine lv_iload_n G.1 G.2.1 dX5_advance_50 rfl (lv_at hl 1 rfl) ?_
            refine lv_aload_n G.1 G.2.1 dX5_advance_51 rfl (lv_at hl 2 rfl) ?_
            obtain ⟨v8, s9, ev8, hf⟩ := ob2 hf
            refine kc_i (wr := []) (w := wM cy h s6) (w' := wM cy h s9) (n := 0) (As := []) (C := RX5) G hK hA hW (mX5_ticks l D cy h _ n s6  ev8) (gV q_12_21 q_12_22 q_12_23 q_1_5 q_13_0) ⟨rfl, rfl⟩ (by decide +kernel) ⟨Nat.le_of_ble_eq_true rfl, Nat.le_of_ble_eq_true rfl⟩ (va_recv hK.1 hW.1 (ci := 7) (q0 := 0) rfl rfl) rfl hl.1 rfl (Nat.le_of_ble_eq_true rfl) dX5_advance_52 ⟨Nat.le_of_ble_eq_true rfl, Nat.le_of_ble_eq_true rfl⟩ (fun H locs hW => ?_)
            refine lv_iadd G.1 G.2.1 dX5_advance_55 ?_
            refine lv_istore_n (lv' := [(2, .int (y5 + v8)), (3, .int y4), (0, .ref (h 10)), (1, .int x1)]) G.1 G.2.1 dX5_advance_56 rfl hl (by decide) rfl (fun ls hl => ?_)
            refine lv_iinc (v := (y4 + (1 : Int32))) (lv' := [(3, .int (y4 + (1 : Int32))), (2, .int (y5 + v8)), (0, .ref (h 10)), (1, .int x1)]) G.1 G.2.1 dX5_advance_57 hl (k := 1) rfl (congrArg (y4 + ·) (by decide)) (by decide) rfl (fun ls hl => ?_)
            refine lv_goto (tgt := 45) G.1 G.2.1 dX5_advance_60 (by decide) ?_
            exact ih45 _ _ _ _ _ _ hf hW (lv_sub hl [0, 1, 2, 3] rfl)
      exact L45 _ _ _ _ _ _ _ hf hW (lv_sub hl [0, 1, 2, 3] rfl)
    · replace hf := ie c32 hf
      refine lv_aload_n G.1 G.2.1 dX5_advance_35 rfl (lv_at hl 0 rfl) ?_
      refine lv_iconst (v := (2 : Int32)) G.1 G.2.1 dX5_advance_36 (by decide) ?_
      obtain ⟨v10, s11, ev10, hf⟩ := ob2 hf
      refine kc_i (wr := []) (w := wM cy h s1) (w' := wM cy h s11) (n := 1) (As := [.int (2 : Int32)]) (C := RX5) G hK hA hW (mX5_raises l D cy h _ n s1 (2 : Int32) ev10) (gV q_8_6 q_8_7 q_8_8 q_1_5 q_8_9) ⟨rfl, rfl⟩ (by decide +kernel) ⟨Nat.le_of_ble_eq_true rfl, Nat.le_of_ble_eq_true rfl⟩ (va_recv hK.1 hW.1 (ci := 7) (q0 := 0) rfl rfl) rfl hl.1 rfl (Nat.le_of_ble_eq_true rfl) dX5_advance_37 ⟨Nat.le_of_ble_eq_true rfl, Nat.le_of_ble_eq_true rfl⟩ (fun H locs hW => ?_)
      cases hf
      exact k_iret G hr hlk hK hW dX5_advance_40
  · replace hf := it c12 hf
    refine lv_aload_n G.1 G.2.1 dX5_advance_15 rfl (lv_at hl 0 rfl) ?_
    refine lv_iconst (v := (1 : Int32)) G.1 G.2.1 dX5_advance_16 (by decide) ?_
    obtain ⟨v12, s13, ev12, hf⟩ := ob2 hf
    refine kc_i (wr := []) (w := wM cy h s1) (w' := wM cy h s13) (n := 1) (As := [.int (1 : Int32)]) (C := RX5) G hK hA hW (mX5_raises l D cy h _ n s1 (1 : Int32) ev12) (gV q_8_6 q_8_7 q_8_8 q_1_5 q_8_9) ⟨rfl, rfl⟩ (by decide +kernel) ⟨Nat.le_of_ble_eq_true rfl, Nat.le_of_ble_eq_true rfl⟩ (va_recv hK.1 hW.1 (ci := 7) (q0 := 0) rfl rfl) rfl hl.1 rfl (Nat.le_of_ble_eq_true rfl) dX5_advance_17 ⟨Nat.le_of_ble_eq_true rfl, Nat.le_of_ble_eq_true rfl⟩ (fun H locs hW => ?_)
    cases hf
    exact k_iret G hr hlk hK hW dX5_advance_20

set_option maxHeartbeats 4000000 in
set_option maxRecDepth 100000 in
theorem mX5_cancel (l : Launch) (D : va_G) (cy : ClassId) (h : Nat → Nat) (sz n : Nat) (σ : St) (x1 : Int32) {r : Int32} {σ' : St} (hf : fX5_cancel n σ x1 = some (r, σ')) : Mi l yX5_cancel (ws_ yX5_cancel cX5_cancel 3 (some .int)) { frames := 7, cells := 0, slots := 0, locals := 164 } D cy (wM cy h σ) (wM cy h σ') sz [.ref (h 10), .int x1] r := by
  refine Met.ofW (cc := cX5_cancel) (maxL := 3) (ret := (some .int)) (by decide) rfl ?_
  intro p e s m args below meth c s₁ B hml hv
  obtain ⟨rfl, hsz, hP, hK, hD0⟩ := hv
  subst hsz
  have hts := atoms_spec (ws := ws_ yX5_cancel cX5_cancel 3 (some .int)) B.pre
  have G : CallFix p m c cX5_cancel 3 s _ wA RX5 := ⟨B.exec, B.bytes, hml, findClass_of_methodNamed B.named, fun w h => hts w (List.mem_cons_of_mem _ h)⟩
  have hr := B.returns
  have hlk := B.notSynchronized
  have hW : KW D (va_A (wM cy h σ) s.heap.size) s.heap (wM cy h σ) s.heap [] := ⟨hP, hD0.self, va_S.rf⟩
  have hA : ∀ q, s.heap.size ≤ q → va_A (wM cy h σ) s.heap.size q := fun q h => Or.inr h
  have hl := lv_entry ([.ref (h 10), .int x1]) (n := 3) (Nat.le_of_ble_eq_true rfl)
  rw [lg_entry_eq]
  generalize (lg_sl ([.ref (h 10), .int x1]) ++ List.replicate (3 - (lg_sl ([.ref (h 10), .int x1])).length) Slot.unset).toArray = ls at hl ⊢
  have hl : lv_has ls 3 [(0, .ref (h 10)), (1, .int x1)] := hl
  unfold fX5_cancel at hf
  refine lv_aload_n G.1 G.2.1 dX5_cancel_0 rfl (lv_at hl 0 rfl) ?_
  refine lv_iconst (v := (0 : Int32)) G.1 G.2.1 dX5_cancel_1 (by decide) ?_
  obtain ⟨s1, es1, hf⟩ := ob hf
  refine k_put (w := wM cy h) G inlX5 tyX5 tyX5_ok nmX5 hK hW 0 6 rfl rfl 4 (by decide) q_8_2 rfl (by decide +kernel) (Nat.le_of_ble_eq_true rfl) rfl es1 dX5_cancel_2 (fun H locs hW => ?_)
  refine lv_aload_n G.1 G.2.1 dX5_cancel_5 rfl (lv_at hl 0 rfl) ?_
  refine lv_iload_n G.1 G.2.1 dX5_cancel_6 rfl (lv_at hl 1 rfl) ?_
  obtain ⟨v2, ev2, hf⟩ := ob hf
  refine kc_i (wr := []) (w := wM cy h s1) (w' := wM cy h s1) (n := 1) (As := [.int x1]) (C := RX5) G hK hA hW (mX5_isJob l D cy h _ n s1 x1 ev2) (gV q_14_20 q_14_21 q_14_22 q_1_5 q_14_23) ⟨rfl, rfl⟩ (by decide +kernel) ⟨Nat.le_of_ble_eq_true rfl, Nat.le_of_ble_eq_true rfl⟩ (va_recv hK.1 hW.1 (ci := 7) (q0 := 0) rfl rfl) rfl hl.1 rfl (Nat.le_of_ble_eq_true rfl) dX5_cancel_7 ⟨Nat.le_of_ble_eq_true rfl, Nat.le_of_ble_eq_true rfl⟩ (fun H locs hW => ?_)
  refine lv_if_ne (tgt := 19) G.1 G.2.1 dX5_cancel_10 (by decide) (fun c10 => ?_) (fun c10 => ?_)
  · replace hf := ie c10 hf
    refine lv_aload_n G.1 G.2.1 dX5_cancel_19 rfl (lv_at hl 0 rfl) ?_
    refine lv_iload_n G.1 G.2.1 dX5_cancel_20 rfl (lv_at hl 1 rfl) ?_
    refine lv_iconst (v := (4 : Int32)) G.1 G.2.1 dX5_cancel_21 (by decide) ?_
    obtain ⟨v3, ev3, hf⟩ := ob hf
    refine kc_i (wr := []) (w := wM cy h s1) (w' := wM cy h s1) (n := 2) (As := [.int x1, .int (4 : Int32)]) (C := RX5) G hK hA hW (mX5_of l D cy h _ n s1 x1 (4 : Int32) ev3) (gV q_8_22 q_8_23 q_9_0 q_1_5 q_9_1) ⟨rfl, rfl⟩ (by decide +kernel) ⟨Nat.le_of_ble_eq_true rfl, Nat.le_of_ble_eq_true rfl⟩ (va_recv hK.1 hW.1 (ci := 7) (q0 := 0) rfl rfl) rfl hl.1 rfl (Nat.le_of_ble_eq_true rfl) dX5_cancel_22 ⟨Nat.le_of_ble_eq_true rfl, Nat.le_of_ble_eq_true rfl⟩ (fun H locs hW => ?_)
    refine lv_istore_n (lv' := [(2, .int v3), (0, .ref (h 10)), (1, .int x1)]) G.1 G.2.1 dX5_cancel_25 rfl hl (by decide) rfl (fun ls hl => ?_)
    refine lv_iload_n G.1 G.2.1 dX5_cancel_26 rfl (lv_at hl 0 rfl) ?_
    refine lv_iconst (v := (1 : Int32)) G.1 G.2.1 dX5_cancel_27 (by decide) ?_
    refine lv_icmp_le (tgt := 37) G.1 G.2.1 dX5_cancel_28 (by decide) (fun c28 => ?_) (fun c28 => ?_)
    · replace hf := it c28 hf
      refine lv_iload_n G.1 G.2.1 dX5_cancel_37 rfl (lv_at hl 0 rfl) ?_
      refine lv_iconst (v := (1 : Int32)) G.1 G.2.1 dX5_cancel_38 (by decide) ?_
      refine lv_icmp_ne (tgt := 71) G.1 G.2.1 dX5_cancel_39 (by decide) (fun c39 => ?_) (fun c39 => ?_)
      · replace hf := ie c39 hf
        refine lv_aload_n G.1 G.2.1 dX5_cancel_71 rfl (lv_at hl 1 rfl) ?_
        refine lv_iload_n G.1 G.2.1 dX5_cancel_72 rfl (lv_at hl 2 rfl) ?_
        refine lv_iconst (v := (4 : Int32)) G.1 G.2.1 dX5_cancel_73 (by decide) ?_
        refine lv_iconst (v := (3 : Int32)) G.1 G.2.1 dX5_cancel_74 (by decide) ?_
        obtain ⟨s4, es4, hf⟩ := ob hf
        refine kc_v (wr := []) (w := wM cy h s1) (w' := wM cy h s4) (n := 3) (As := [.int x1, .int (4 : Int32), .int (3 : Int32)]) (C := RX5) G hK hA hW (mX5_put l D cy h _ n s1 x1 (4 : Int32) (3 : Int32) es4) (gV q_8_10 q_8_11 q_8_12 q_1_5 q_8_13) ⟨rfl, rfl⟩ (by decide +kernel) ⟨Nat.le_of_ble_eq_true rfl, Nat.le_of_ble_eq_true rfl⟩ (va_recv hK.1 hW.1 (ci := 7) (q0 := 0) rfl rfl) rfl hl.1 rfl (Nat.le_of_ble_eq_true rfl) dX5_cancel_75 ⟨Nat.le_of_ble_eq_true rfl, Nat.le_of_ble_eq_true rfl⟩ (fun H locs hW => ?_)
        refine lv_aload_n G.1 G.2.1 dX5_cancel_78 rfl (lv_at hl 1 rfl) ?_
        refine lv_iconst (v := (3 : Int32)) G.1 G.2.1 dX5_cancel_79 (by decide) ?_
        refine lv_iload_n G.1 G.2.1 dX5_cancel_80 rfl (lv_at hl 2 rfl) ?_
        obtain ⟨s5, es5, hf⟩ := ob hf
        refine kc_v (wr := []) (w := wM cy h s4) (w' := wM cy h s5) (n := 2) (As := [.int (3 : Int32), .int x1]) (C := RX5) G hK hA hW (mX5_records l D cy h _ n s4 (3 : Int32) x1 es5) (gV q_8_14 q_8_15 q_8_16 q_1_5 q_8_17) ⟨rfl, rfl⟩ (by decide +kernel) ⟨Nat.le_of_ble_eq_true rfl, Nat.le_of_ble_eq_true rfl⟩ (va_recv hK.1 hW.1 (ci := 7) (q0 := 0) rfl rfl) rfl hl.1 rfl (Nat.le_of_ble_eq_true rfl) dX5_cancel_81 ⟨Nat.le_of_ble_eq_true rfl, Nat.le_of_ble_eq_true rfl⟩ (fun H locs hW => ?_)
        refine lv_aload_n G.1 G.2.1 dX5_cancel_84 rfl (lv_at hl 1 rfl) ?_
        obtain ⟨s6, es6, hf⟩ := ob hf
        refine kc_v (wr := []) (w := wM cy h s5) (w' := wM cy h s6) (n := 0) (As := []) (C := RX5) G hK hA hW (mX5_replans l D cy h _ n s5  es6) (gV q_13_1 q_13_2 q_13_3 q_1_5 q_13_4) ⟨rfl, rfl⟩ (by decide +kernel) ⟨Nat.le_of_ble_eq_true rfl, Nat.le_of_ble_eq_true rfl⟩ (va_recv hK.1 hW.1 (ci := 7) (q0 := 0) rfl rfl) rfl hl.1 rfl (Nat.le_of_ble_eq_true rfl) dX5_cancel_85 ⟨Nat.le_of_ble_eq_true rfl, Nat.le_of_ble_eq_true rfl⟩ (fun H locs hW => ?_)
        refine lv_aload_n G.1 G.2.1 dX5_cancel_88 rfl (lv_at hl 1 rfl) ?_
        obtain ⟨s7, es7, hf⟩ := ob hf
        refine kc_v (wr := []) (w := wM cy h s6) (w' := wM cy h s7) (n := 0) (As := []) (C := RX5) G hK hA hW (mX5_starts l D cy h _ n s6  es7) (gV q_10_2 q_10_3 q_10_4 q_1_5 q_10_5) ⟨rfl, rfl⟩ (by decide +kernel) ⟨Nat.le_of_ble_eq_true rfl, Nat.le_of_ble_eq_true rfl⟩ (va_recv hK.1 hW.1 (ci := 7) (q0 := 0) rfl rfl) rfl hl.1 rfl (Nat.le_of_ble_eq_true rfl) dX5_cancel_89 ⟨Nat.le_of_ble_eq_true rfl, Nat.le_of_ble_eq_true rfl⟩ (fun H locs hW => ?_)
        refine lv_iload_n G.1 G.2.1 dX5_cancel_92 rfl (lv_at hl 0 rfl) ?_
        cases hf
        exact k_iret G hr hlk hK hW dX5_cancel_93
      · replace hf := it c39 hf
        refine lv_aload_n G.1 G.2.1 dX5_cancel_42 rfl (lv_at hl 1 rfl) ?_
        refine lv_iload_n G.1 G.2.1 dX5_cancel_43 rfl (lv_at hl 2 rfl) ?_
        refine lv_bipush (v := (13 : Int32)) G.1 G.2.1 dX5_cancel_44 (by decide) ?_
        refine lv_aload_n G.1 G.2.1 dX5_cancel_46 rfl (lv_at hl 1 rfl) ?_
        refine lv_iload_n G.1 G.2.1 dX5_cancel_47 rfl (lv_at hl 2 rfl) ?_
        refine lv_bipush (v := (13 : Int32)) G.1 G.2.1 dX5_cancel_48 (by decide) ?_
        obtain ⟨v8, ev8, hf⟩ := ob hf
        refine kc_i (wr := []) (w := wM cy h s1) (w' := wM cy h s1) (n := 2) (As := [.int x1, .int (13 : Int32)]) (C := RX5) G hK hA hW (mX5_of l D cy h _ n s1 x1 (13 : Int32) ev8) (gV q_8_22 q_8_23 q_9_0 q_1_5 q_9_1) ⟨rfl, rfl⟩ (by decide +kernel) ⟨Nat.le_of_ble_eq_true rfl, Nat.le_of_ble_eq_true rfl⟩ (va_recv hK.1 hW.1 (ci := 7) (q0 := 0) rfl rfl) rfl hl.1 rfl (Nat.le_of_ble_eq_true rfl) dX5_cancel_50 ⟨Nat.le_of_ble_eq_true rfl, Nat.le_of_ble_eq_true rfl⟩ (fun H locs hW => ?_)
        refine lv_aload_n G.1 G.2.1 dX5_cancel_53 rfl (lv_at hl 1 rfl) ?_
        refine k_get G inlX5 hK hW 0 rfl rfl 0 (by decide) q_4_6 rfl dX5_cancel_54 ?_
        refine lv_iconst (v := (0 : Int32)) G.1 G.2.1 dX5_cancel_57 (by decide) ?_
        obtain ⟨v9, ev9, hf⟩ := ob hf
        refine k_ald G hK hW 1 rfl ev9 dX5_cancel_58 ?_
        refine lv_iadd G.1 G.2.1 dX5_cancel_59 ?_
        refine lv_aload_n G.1 G.2.1 dX5_cancel_60 rfl (lv_at hl 1 rfl) ?_
        refine lv_iload_n G.1 G.2.1 dX5_cancel_61 rfl (lv_at hl 2 rfl) ?_
        refine lv_bipush (v := (6 : Int32)) G.1 G.2.1 dX5_cancel_62 (by decide) ?_
        obtain ⟨v10, ev10, hf⟩ := ob hf
        refine kc_i (wr := []) (w := wM cy h s1) (w' := wM cy h s1) (n := 2) (As := [.int x1, .int (6 : Int32)]) (C := RX5) G hK hA hW (mX5_of l D cy h _ n s1 x1 (6 : Int32) ev10) (gV q_8_22 q_8_23 q_9_0 q_1_5 q_9_1) ⟨rfl, rfl⟩ (by decide +kernel) ⟨Nat.le_of_ble_eq_true rfl, Nat.le_of_ble_eq_true rfl⟩ (va_recv hK.1 hW.1 (ci := 7) (q0 := 0) rfl rfl) rfl hl.1 rfl (Nat.le_of_ble_eq_true rfl) dX5_cancel_64 ⟨Nat.le_of_ble_eq_true rfl, Nat.le_of_ble_eq_true rfl⟩ (fun H locs hW => ?_)
        refine lv_isub G.1 G.2.1 dX5_cancel_67 ?_
        obtain ⟨s11, es11, hf⟩ := ob hf
        refine kc_v (wr := []) (w := wM cy h s1) (w' := wM cy h s11) (n := 3) (As := [.int x1, .int (13 : Int32), .int ((v8 + v9) - v10)]) (C := RX5) G hK hA hW (mX5_put l D cy h _ n s1 x1 (13 : Int32) ((v8 + v9) - v10) es11) (gV q_8_10 q_8_11 q_8_12 q_1_5 q_8_13) ⟨rfl, rfl⟩ (by decide +kernel) ⟨Nat.le_of_ble_eq_true rfl, Nat.le_of_ble_eq_true rfl⟩ (va_recv hK.1 hW.1 (ci := 7) (q0 := 0) rfl rfl) rfl hl.1 rfl (Nat.le_of_ble_eq_true rfl) dX5_cancel_68 ⟨Nat.le_of_ble_eq_true rfl, Nat.le_of_ble_eq_true rfl⟩ (fun H locs hW => ?_)
        refine lv_aload_n G.1 G.2.1 dX5_cancel_71 rfl (lv_at hl 1 rfl) ?_
        refine lv_iload_n G.1 G.2.1 dX5_cancel_72 rfl (lv_at hl 2 rfl) ?_
        refine lv_iconst (v := (4 : Int32)) G.1 G.2.1 dX5_cancel_73 (by decide) ?_
        refine lv_iconst (v := (3 : Int32)) G.1 G.2.1 dX5_cancel_74 (by decide) ?_
        obtain ⟨s12, es12, hf⟩ := ob hf
        refine kc_v (wr := []) (w := wM cy h s11) (w' := wM cy h s12) (n := 3) (As := [.int x1, .int (4 : Int32), .int (3 : Int32)]) (C := RX5) G hK hA hW (mX5_put l D cy h _ n s11 x1 (4 : Int32) (3 : Int32) es12) (gV q_8_10 q_8_11 q_8_12 q_1_5 q_8_13) ⟨rfl, rfl⟩ (by decide +kernel) ⟨Nat.le_of_ble_eq_true rfl, Nat.le_of_ble_eq_true rfl⟩ (va_recv hK.1 hW.1 (ci := 7) (q0 := 0) rfl rfl) rfl hl.1 rfl (Nat.le_of_ble_eq_true rfl) dX5_cancel_75 ⟨Nat.le_of_ble_eq_true rfl, Nat.le_of_ble_eq_true rfl⟩ (fun H locs hW => ?_)
        refine lv_aload_n G.1 G.2.1 dX5_cancel_78 rfl (lv_at hl 1 rfl) ?_
        refine lv_iconst (v := (3 : Int32)) G.1 G.2.1 dX5_cancel_79 (by decide) ?_
        refine lv_iload_n G.1 G.2.1 dX5_cancel_80 rfl (lv_at hl 2 rfl) ?_
        obtain ⟨s13, es13, hf⟩ := ob hf
        refine kc_v (wr := []) (w := wM cy h s12) (w' := wM cy h s13) (n := 2) (As := [.int (3 : Int32), .int x1]) (C := RX5) G hK hA hW (mX5_records l D cy h _ n s12 (3 : Int32) x1 es13) (gV q_8_14 q_8_15 q_8_16 q_1_5 q_8_17) ⟨rfl, rfl⟩ (by decide +kernel) ⟨Nat.le_of_ble_eq_true rfl, Nat.le_of_ble_eq_true rfl⟩ (va_recv hK.1 hW.1 (ci := 7) (q0 := 0) rfl rfl) rfl hl.1 rfl (Nat.le_of_ble_eq_true rfl) dX5_cancel_81 ⟨Nat.le_of_ble_eq_true rfl, Nat.le_of_ble_eq_true rfl⟩ (fun H locs hW => ?_)
        refine lv_aload_n G.1 G.2.1 dX5_cancel_84 rfl (lv_at hl 1 rfl) ?_
        obtain ⟨s14, es14, hf⟩ := ob hf
        refine kc_v (wr := []) (w := wM cy h s13) (w' := wM cy h s14) (n := 0) (As := []) (C := RX5) G hK hA hW (mX5_replans l D cy h _ n s13  es14) (gV q_13_1 q_13_2 q_13_3 q_1_5 q_13_4) ⟨rfl, rfl⟩ (by decide +kernel) ⟨Nat.le_of_ble_eq_true rfl, Nat.le_of_ble_eq_true rfl⟩ (va_recv hK.1 hW.1 (ci := 7) (q0 := 0) rfl rfl) rfl hl.1 rfl (Nat.le_of_ble_eq_true rfl) dX5_cancel_85 ⟨Nat.le_of_ble_eq_true rfl, Nat.le_of_ble_eq_true rfl⟩ (fun H locs hW => ?_)
        refine lv_aload_n G.1 G.2.1 dX5_cancel_88 rfl (lv_at hl 1 rfl) ?_
        obtain ⟨s15, es15, hf⟩ := ob hf
        refine kc_v (wr := []) (w := wM cy h s14) (w' := wM cy h s15) (n := 0) (As := []) (C := RX5) G hK hA hW (mX5_starts l D cy h _ n s14  es15) (gV q_10_2 q_10_3 q_10_4 q_1_5 q_10_5) ⟨rfl, rfl⟩ (by decide +kernel) ⟨Nat.le_of_ble_eq_true rfl, Nat.le_of_ble_eq_true rfl⟩ (va_recv hK.1 hW.1 (ci := 7) (q0 := 0) rfl rfl) rfl hl.1 rfl (Nat.le_of_ble_eq_true rfl) dX5_cancel_89 ⟨Nat.le_of_ble_eq_true rfl, Nat.le_of_ble_eq_true rfl⟩ (fun H locs hW => ?_)
        refine lv_iload_n G.1 G.2.1 dX5_cancel_92 rfl (lv_at hl 0 rfl) ?_
        cases hf
        exact k_iret G hr hlk hK hW dX5_cancel_93
    · replace hf := ie c28 hf
      refine lv_aload_n G.1 G.2.1 dX5_cancel_31 rfl (lv_at hl 1 rfl) ?_
      refine lv_iconst (v := (2 : Int32)) G.1 G.2.1 dX5_cancel_32 (by decide) ?_
      obtain ⟨v16, s17, ev16, hf⟩ := ob2 hf
      refine kc_i (wr := []) (w := wM cy h s1) (w' := wM cy h s17) (n := 1) (As := [.int (2 : Int32)]) (C := RX5) G hK hA hW (mX5_raises l D cy h _ n s1 (2 : Int32) ev16) (gV q_8_6 q_8_7 q_8_8 q_1_5 q_8_9) ⟨rfl, rfl⟩ (by decide +kernel) ⟨Nat.le_of_ble_eq_true rfl, Nat.le_of_ble_eq_true rfl⟩ (va_recv hK.1 hW.1 (ci := 7) (q0 := 0) rfl rfl) rfl hl.1 rfl (Nat.le_of_ble_eq_true rfl) dX5_cancel_33 ⟨Nat.le_of_ble_eq_true rfl, Nat.le_of_ble_eq_true rfl⟩ (fun H locs hW => ?_)
      cases hf
      exact k_iret G hr hlk hK hW dX5_cancel_36
  · replace hf := it c10 hf
    refine lv_aload_n G.1 G.2.1 dX5_cancel_13 rfl (lv_at hl 0 rfl) ?_
    refine lv_iconst (v := (1 : Int32)) G.1 G.2.1 dX5_cancel_14 (by decide) ?_
    obtain ⟨v18, s19, ev18, hf⟩ := ob2 hf
    refine kc_i (wr := []) (w := wM cy h s1) (w' := wM cy h s19) (n := 1) (As := [.int (1 : Int32)]) (C := RX5) G hK hA hW (mX5_raises l D cy h _ n s1 (1 : Int32) ev18) (gV q_8_6 q_8_7 q_8_8 q_1_5 q_8_9) ⟨rfl, rfl⟩ (by decide +kernel) ⟨Nat.le_of_ble_eq_true rfl, Nat.le_of_ble_eq_true rfl⟩ (va_recv hK.1 hW.1 (ci := 7) (q0 := 0) rfl rfl) rfl hl.1 rfl (Nat.le_of_ble_eq_true rfl) dX5_cancel_15 ⟨Nat.le_of_ble_eq_true rfl, Nat.le_of_ble_eq_true rfl⟩ (fun H locs hW => ?_)
    cases hf
    exact k_iret G hr hlk hK hW dX5_cancel_18
