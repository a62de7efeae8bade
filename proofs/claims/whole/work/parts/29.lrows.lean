theorem KW.perm {D : va_G} {A : Nat → Prop} {H0 H : Heap} {w w' : va_W} {locs : List Loc} (hW : KW D A H0 w H locs) (perm : List Nat) (hnd : va_nd perm = true) (h1 : perm.map (fun i => w[i]?) = w'.map some) (h2 : perm.filterMap (fun i => w[i]?) = w') : KW D A H0 w' H locs := ⟨hW.1.sub perm h2, hW.2.1.sub perm hnd h1, hW.2.2⟩
set_option maxHeartbeats 4000000 in
set_option maxRecDepth 100000 in
theorem mX4_save (l : Launch) (D : va_G) (cy : ClassId) (h h2 : Nat → Nat) (sz n : Nat) (σ2 σ : St) {σ2' σ' : St} (hf : fX4_save n σ2 σ = some (σ2', σ')) : Mv l yX4_save (ws_ yX4_save cX4_save 1 none) { frames := 3, cells := 0, slots := 0, locals := 102 } D cy (wBB cy h h2 σ2 σ) (wBB cy h h2 σ2' σ') sz [.ref (h 104)] := by
  refine Met.ofW (cc := cX4_save) (maxL := 1) (ret := none) (by decide) rfl ?_
  intro p e s m args below meth c s₁ B hml hv
  obtain ⟨rfl, hsz, hP, hK, hD0⟩ := hv
  subst hsz
  have hts := atoms_spec (ws := ws_ yX4_save cX4_save 1 none) B.pre
  have G : CallFix p m c cX4_save 1 s _ wA RX4 := ⟨B.exec, B.bytes, hml, findClass_of_methodNamed B.named, fun w h => hts w (List.mem_cons_of_mem _ h)⟩
  have hr := B.returns
  have hlk := B.notSynchronized
  have hW : KW D (va_A (wBB cy h h2 σ2 σ) s.heap.size) s.heap (wBB cy h h2 σ2 σ) s.heap [] := ⟨hP, hD0.self, va_S.rf⟩
  have hA : ∀ q, s.heap.size ≤ q → va_A (wBB cy h h2 σ2 σ) s.heap.size q := fun q h => Or.inr h
  have hl := lv_entry ([.ref (h 104)]) (n := 1) (Nat.le_of_ble_eq_true rfl)
  rw [lg_entry_eq]
  generalize (lg_sl ([.ref (h 104)]) ++ List.replicate (1 - (lg_sl ([.ref (h 104)])).length) Slot.unset).toArray = ls at hl ⊢
  have hl : lv_has ls 1 [(0, .ref (h 104))] := hl
  unfold fX4_save at hf
  refine lv_aload_n G.1 G.2.1 dX4_save_0 rfl (lv_at hl 0 rfl) ?_
  refine k_get G inlX4 hK hW 0 rfl rfl 1 (by decide) q_1_18 rfl dX4_save_1 ?_
  refine lv_aload_n G.1 G.2.1 dX4_save_4 rfl (lv_at hl 0 rfl) ?_
  refine k_get G inlX4 hK hW 0 rfl rfl 0 (by decide) q_1_17 rfl dX4_save_5 ?_
  obtain ⟨s1, es1, hf⟩ := ob hf
  have hW2 := hW.perm (w' := [(h 104, .inr (6, [.ref (h 103), .ref (h2 103), .int (σ 28 0), .int (σ 29 0)]))] ++ wCC cy h2 h σ σ2) [0, 27, 28, 29, 30, 31, 32, 33, 34, 35, 36, 37, 38, 39, 40, 41, 42, 43, 44, 45, 46, 47, 48, 49, 50, 51, 52, 1, 2, 3, 4, 5, 6, 7, 8, 9, 10, 11, 12, 13, 14, 15, 16, 17, 18, 19, 20, 21, 22, 23, 24, 25, 26] rfl rfl rfl
  refine kc_v (wr := [(h 104, .inr (6, [.ref (h 103), .ref (h2 103), .int (σ 28 0), .int (σ 29 0)]))]) (w := wCC cy h2 h σ σ2) (w' := wCC cy h2 h σ s1) (n := 1) (As := [.ref (h 103)]) (C := RX0) G hK hA hW2 (mX0_copyFrom l D cy h2 h _ n σ σ2 es1) (gV q_34_0 q_34_1 q_34_2 q_1_16 q_34_3) ⟨rfl, rfl⟩ (by decide +kernel) ⟨Nat.le_of_ble_eq_true rfl, Nat.le_of_ble_eq_true rfl⟩ (va_recv hK.1 hW2.1 (ci := 2) (q0 := 1) rfl rfl) rfl hl.1 rfl (Nat.le_of_ble_eq_true rfl) dX4_save_8 ⟨Nat.le_of_ble_eq_true rfl, Nat.le_of_ble_eq_true rfl⟩ (fun H locs hW3 => ?_)
  have hW4 : KW D (va_A (wBB cy h h2 σ2 σ) s.heap.size) s.heap (wBB cy h h2 s1 σ) H locs := hW3.perm [0, 27, 28, 29, 30, 31, 32, 33, 34, 35, 36, 37, 38, 39, 40, 41, 42, 43, 44, 45, 46, 47, 48, 49, 50, 51, 52, 1, 2, 3, 4, 5, 6, 7, 8, 9, 10, 11, 12, 13, 14, 15, 16, 17, 18, 19, 20, 21, 22, 23, 24, 25, 26] rfl rfl rfl
  refine lv_aload_n G.1 G.2.1 dX4_save_11 rfl (lv_at hl 0 rfl) ?_
  refine lv_iconst (v := (1 : Int32)) G.1 G.2.1 dX4_save_12 (by decide) ?_
  obtain ⟨s2, es2, hf⟩ := ob hf
  refine k_putz (w := wBB cy h h2 s1) G inlX4 tyX4 tyX4_ok nmX4 hK hW4 0 28 rfl rfl 2 (by decide) q_1_19 rfl (by decide +kernel) (Nat.le_of_ble_eq_true rfl) rfl es2 dX4_save_13 (fun H locs hW5 => ?_)
  cases hf
  exact k_vret G hr hlk hK hW5 dX4_save_16
/-! MY ROWS for the law's wrappers -/
theorem k_in01 : vp_in (0 : Int32) 1 := show ¬ ((0 : Int32) < 0 ∨ 1 ≤ (0 : Int32).toNatClampNeg) by decide
def kNc (U : State) : Prop := va_Nc xIS xIA U ∧ va_Nc xIS xIO U ∧ va_Nc xIA xIO U ∧ va_Nc xNS xIA U
theorem kNc.moved {s U : State} (h : kNc s) (hv : s.vm.Alike U.vm) : kNc U := ⟨va_Nc.moved hv h.1, va_Nc.moved hv h.2.1, va_Nc.moved hv h.2.2.1, va_Nc.moved hv h.2.2.2⟩
def KL (D : va_G) (cy cl cd : ClassId) (U : State) : Prop := va_K D vwCl [(cy, .int), (cl, .long), (cd, .double)] U ∧ kN U ∧ kNc U
theorem KL.KK {D : va_G} {cy cl cd : ClassId} {U : State} (h : KL D cy cl cd U) : KK D cy U := ⟨h.1.sub (tys' := [(cy, .int)]) [0] rfl, h.2.1⟩
theorem KL.warm {D : va_G} {cy cl cd : ClassId} {s U : State} (h : KL D cy cl cd s) (hW : s.WarmedH U.vm) : KL D cy cl cd U := ⟨va_K.moved hW.alike h.1, h.2.1.warm hW, h.2.2.moved hW.alike⟩
abbrev KPL (D : va_G) (cy cl cd : ClassId) (w : va_W) (sz : Nat) (av : List Value) : Array Value → State → Prop := va_Pc av (fun U => U.heap.size = sz ∧ va_P D vwCl w U.heap ∧ KL D cy cl cd U ∧ va_D (fun _ => True) w ∧ KX (va_A w sz) U)
section KRL
variable {p : Program} {l : Launch} {e : Env} {R : Room} {s : State} {m : MethodId} {args : Array Value} {below : List Frame} {meth : Method} {c : Code} {H : Heap} {locs : List Loc} {cells slots : Nat} {Q : State → Prop}
variable {cc : ByteArray} {nL pc : Nat} {ls : Array Slot} {rest : List Value} {D : va_G} {A : Nat → Prop} {a : Nat} {cy cl cd : ClassId} {ws : va_W} {H0 : Heap} {own : String} {mc ms : Nat}
theorem k_lret {w0 w1 w2 : va_W} {v r : Int32} (G : CallFix p m c cc nL s args wA own) (hr : meth.sig.returnType = some .int) (hlk : meth.locks = false) (hW : KW D (va_A w0 s.heap.size) s.heap w1 H locs) (hv : v = r) (hw : w1 = w2) (hdg : decode cc pc = .ok (.ireturn, 1)) : W p l e R s m args below meth c H locs mc ms (MQ below (va_Qi (fun (r' : Int32) (_ : Unit) => r' = r) (fun _ => KB D (va_A w0 s.heap.size) w2) (va_A w0 s.heap.size)) args s mc ms (va_A w0 s.heap.size)) (F0 m pc ls [.int v]) := by
  subst hw
  exact W.iret G.1 G.2.1 hr (fun t ht hWm => ⟨⟨v, (), rfl, hv, by rw [ht]; exact hW.1, hW.2.1⟩, hW.2.2.F ht⟩) hW.2.2.2.2 hdg hlk
theorem kxl_i {w : St → va_W} {σ : St} {wr : va_W} {o : XRg Int32} {y : MethodName} {bytes : ByteArray} {maxL n index mc1 ms1 : Nat} {ret : Option FieldType} {rm : Room} {C : String} {b : Nat} {As st0 : List Value} (G : CallFix p m c cc nL s args wA own) (hK : KK D cy s) (hX : KX A s) (hA : ∀ q, s.heap.size ≤ q → A q) (hW : KW D A s.heap (wr ++ w σ) H locs) (hM : Xi l y (ws_ y bytes maxL ret) rm D cy w σ H.size (.ref b :: As) o mc1 ms1)
    (hG : GoodIn wA (wsV own index C y (ws_ y bytes maxL ret))) (hrm : rm.cells = mc1 ∧ rm.slots = ms1) (hd : y.cls = C ∧ y.cls ≠ "java/lang/invoke/MethodHandle" ∧ y.cls ≠ "java/lang/invoke/VarHandle" ∧ (parseMethodDescriptor y.desc).map (fun d => d.parameters.length) = some n) (hR : rm.frames + 1 ≤ R.frames ∧ 8 + (maxL + 11) + rm.locals ≤ R.locals) (hrecv : ∃ cell : Cell, H[b]? = some cell ∧ cell.vm.isStatics = false ∧ s.vm.findClass C = some cell.cls)
    (hn : As.length = n) (hsz : ls.size = nL) (hst : st0 = As.reverse ++ .ref b :: rest) (hroom : (rest.map fun v => v.category).sum ≤ 8) (hdg : decode cc pc = .ok (.invokevirtual index, 3)) (hcs : cells + mc1 ≤ R.cells ∧ slots + ms1 ≤ R.slots)
    (kx : ∀ (E : String) (u : St) (ce : Cell) (q9 : Addr) (H1 : Heap) (locs1 : List Loc), o = .inl (E, u) → KW D A s.heap (wr ++ w u) H1 locs1 → H1[q9]? = some ce → ce.vm = .none → s.vm.findClass E = some ce.cls → vx_W p l e R s m args below meth c H1 locs1 (cells + mc1) (slots + ms1) Q (F0 m pc ls rest) q9)
    (kk : ∀ (v : Int32) (u : St) (H1 : Heap) (locs1 : List Loc), o = .inr (v, u) → KW D A s.heap (wr ++ w u) H1 locs1 → W p l e R s m args below meth c H1 locs1 (cells + mc1) (slots + ms1) Q (F0 m (pc + 3) ls (.int v :: rest))) : W p l e R s m args below meth c H locs cells slots Q (F0 m pc ls st0) := by
  subst hst
  have hF : ∀ q, va_A (w σ) H.size q → A q := kfree (H := H) hA hW.2.1 hW.2.2
  refine vx_calli (vx_runV (As := As) (rest := rest) G hM (cwV n G.2.2.2.2 hG rfl hrm.1 hrm.2 hd hR) ⟨fun a U g mk q => ?_, hrecv, fun U hU hWm => ?_⟩ rfl hn hsz rfl (lv_room hroom) hdg ⟨hcs.1, hcs.2⟩) hW.2.2 (fun q _ h => hF q h) hF (fun q _ h => hF q h) (fun E ce q9 u t H1 locs1 ht hvm _ hB hz1 hk1 hS1 hc1 hv1 hcl => ?_) (fun r1 u t H1 locs1 ht hvm hw hB hz1 hk1 hS1 => ?_)
  · obtain ⟨q0, q1, qP, qK, qD, qX⟩ := q
    exact ⟨q0, q1, qP, ⟨va_K.moved (u := U) (U := U.calling g mk a) (Vm.Alike.refl U.vm) qK.1, qK.2.same rfl⟩, qD, qX.same rfl rfl⟩
  · exact ⟨rfl, by rw [hU], by rw [hU]; exact kright hW.1, hK.warm hWm, krightD hW.2.1, hX.go hW.2.2 hF hU hWm⟩
  · obtain ⟨hzE, hP1, hD1⟩ := hB
    rw [ht] at hP1
    obtain ⟨hP2, hD2⟩ := kj hW.1 hW.2.1 hk1 hF hP1 hD1
    exact kx E u ce q9 H1 locs1 hzE ⟨hP2, hD2, hS1⟩ hc1 hv1 hcl
  · obtain ⟨hP1, hD1⟩ := hB
    rw [ht] at hP1
    obtain ⟨hP2, hD2⟩ := kj hW.1 hW.2.1 hk1 hF hP1 hD1
    exact kk r1 u H1 locs1 hw ⟨hP2, hD2, hS1⟩
theorem kxl_d {w : St → va_W} {σ : St} {wr : va_W} {o : XRg UInt64} {y : MethodName} {bytes : ByteArray} {maxL n index mc1 ms1 : Nat} {ret : Option FieldType} {rm : Room} {C : String} {b : Nat} {As st0 : List Value} (G : CallFix p m c cc nL s args wA own) (hK : KK D cy s) (hX : KX A s) (hA : ∀ q, s.heap.size ≤ q → A q) (hW : KW D A s.heap (wr ++ w σ) H locs) (hM : Xd l y (ws_ y bytes maxL ret) rm D cy w σ H.size (.ref b :: As) o mc1 ms1)
    (hG : GoodIn wA (wsV own index C y (ws_ y bytes maxL ret))) (hrm : rm.cells = mc1 ∧ rm.slots = ms1) (hd : y.cls = C ∧ y.cls ≠ "java/lang/invoke/MethodHandle" ∧ y.cls ≠ "java/lang/invoke/VarHandle" ∧ (parseMethodDescriptor y.desc).map (fun d => d.parameters.length) = some n) (hR : rm.frames + 1 ≤ R.frames ∧ 8 + (maxL + 11) + rm.locals ≤ R.locals) (hrecv : ∃ cell : Cell, H[b]? = some cell ∧ cell.vm.isStatics = false ∧ s.vm.findClass C = some cell.cls)
    (hn : As.length = n) (hsz : ls.size = nL) (hst : st0 = As.reverse ++ .ref b :: rest) (hroom : (rest.map fun v => v.category).sum ≤ 8) (hdg : decode cc pc = .ok (.invokevirtual index, 3)) (hcs : cells + mc1 ≤ R.cells ∧ slots + ms1 ≤ R.slots)
    (kx : ∀ (E : String) (u : St) (ce : Cell) (q9 : Addr) (H1 : Heap) (locs1 : List Loc), o = .inl (E, u) → KW D A s.heap (wr ++ w u) H1 locs1 → H1[q9]? = some ce → ce.vm = .none → s.vm.findClass E = some ce.cls → vx_W p l e R s m args below meth c H1 locs1 (cells + mc1) (slots + ms1) Q (F0 m pc ls rest) q9)
    (kk : ∀ (v : UInt64) (u : St) (H1 : Heap) (locs1 : List Loc), o = .inr (v, u) → KW D A s.heap (wr ++ w u) H1 locs1 → W p l e R s m args below meth c H1 locs1 (cells + mc1) (slots + ms1) Q (F0 m (pc + 3) ls (.double v :: rest))) : W p l e R s m args below meth c H locs cells slots Q (F0 m pc ls st0) := by
  subst hst
  have hF : ∀ q, va_A (w σ) H.size q → A q := kfree (H := H) hA hW.2.1 hW.2.2
  refine vx_calld (vx_runV (As := As) (rest := rest) G hM (cwV n G.2.2.2.2 hG rfl hrm.1 hrm.2 hd hR) ⟨fun a U g mk q => ?_, hrecv, fun U hU hWm => ?_⟩ rfl hn hsz rfl (lv_room hroom) hdg ⟨hcs.1, hcs.2⟩) hW.2.2 (fun q _ h => hF q h) hF (fun q _ h => hF q h) (fun E ce q9 u t H1 locs1 ht hvm _ hB hz1 hk1 hS1 hc1 hv1 hcl => ?_) (fun r1 u t H1 locs1 ht hvm hw hB hz1 hk1 hS1 => ?_)
  · obtain ⟨q0, q1, qP, qK, qD, qX⟩ := q
    exact ⟨q0, q1, qP, ⟨va_K.moved (u := U) (U := U.calling g mk a) (Vm.Alike.refl U.vm) qK.1, qK.2.same rfl⟩, qD, qX.same rfl rfl⟩
  · exact ⟨rfl, by rw [hU], by rw [hU]; exact kright hW.1, hK.warm hWm, krightD hW.2.1, hX.go hW.2.2 hF hU hWm⟩
  · obtain ⟨hzE, hP1, hD1⟩ := hB
    rw [ht] at hP1
    obtain ⟨hP2, hD2⟩ := kj hW.1 hW.2.1 hk1 hF hP1 hD1
    exact kx E u ce q9 H1 locs1 hzE ⟨hP2, hD2, hS1⟩ hc1 hv1 hcl
  · obtain ⟨hP1, hD1⟩ := hB
    rw [ht] at hP1
    obtain ⟨hP2, hD2⟩ := kj hW.1 hW.2.1 hk1 hF hP1 hD1
    exact kk r1 u H1 locs1 hw ⟨hP2, hD2, hS1⟩
theorem kxl_f {w : St → va_W} {σ : St} {wr : va_W} {o : XRg UInt32} {y : MethodName} {bytes : ByteArray} {maxL n index mc1 ms1 : Nat} {ret : Option FieldType} {rm : Room} {C : String} {b : Nat} {As st0 : List Value} (G : CallFix p m c cc nL s args wA own) (hK : KK D cy s) (hX : KX A s) (hA : ∀ q, s.heap.size ≤ q → A q) (hW : KW D A s.heap (wr ++ w σ) H locs) (hM : Xf l y (ws_ y bytes maxL ret) rm D cy w σ H.size (.ref b :: As) o mc1 ms1)
    (hG : GoodIn wA (wsV own index C y (ws_ y bytes maxL ret))) (hrm : rm.cells = mc1 ∧ rm.slots = ms1) (hd : y.cls = C ∧ y.cls ≠ "java/lang/invoke/MethodHandle" ∧ y.cls ≠ "java/lang/invoke/VarHandle" ∧ (parseMethodDescriptor y.desc).map (fun d => d.parameters.length) = some n) (hR : rm.frames + 1 ≤ R.frames ∧ 8 + (maxL + 11) + rm.locals ≤ R.locals) (hrecv : ∃ cell : Cell, H[b]? = some cell ∧ cell.vm.isStatics = false ∧ s.vm.findClass C = some cell.cls)
    (hn : As.length = n) (hsz : ls.size = nL) (hst : st0 = As.reverse ++ .ref b :: rest) (hroom : (rest.map fun v => v.category).sum ≤ 8) (hdg : decode cc pc = .ok (.invokevirtual index, 3)) (hcs : cells + mc1 ≤ R.cells ∧ slots + ms1 ≤ R.slots)
    (kx : ∀ (E : String) (u : St) (ce : Cell) (q9 : Addr) (H1 : Heap) (locs1 : List Loc), o = .inl (E, u) → KW D A s.heap (wr ++ w u) H1 locs1 → H1[q9]? = some ce → ce.vm = .none → s.vm.findClass E = some ce.cls → vx_W p l e R s m args below meth c H1 locs1 (cells + mc1) (slots + ms1) Q (F0 m pc ls rest) q9)
    (kk : ∀ (v : UInt32) (u : St) (H1 : Heap) (locs1 : List Loc), o = .inr (v, u) → KW D A s.heap (wr ++ w u) H1 locs1 → W p l e R s m args below meth c H1 locs1 (cells + mc1) (slots + ms1) Q (F0 m (pc + 3) ls (.float v :: rest))) : W p l e R s m args below meth c H locs cells slots Q (F0 m pc ls st0) := by
  subst hst
  have hF : ∀ q, va_A (w σ) H.size q → A q := kfree (H := H) hA hW.2.1 hW.2.2
  refine vx_callf (vx_runV (As := As) (rest := rest) G hM (cwV n G.2.2.2.2 hG rfl hrm.1 hrm.2 hd hR) ⟨fun a U g mk q => ?_, hrecv, fun U hU hWm => ?_⟩ rfl hn hsz rfl (lv_room hroom) hdg ⟨hcs.1, hcs.2⟩) hW.2.2 (fun q _ h => hF q h) hF (fun q _ h => hF q h) (fun E ce q9 u t H1 locs1 ht hvm _ hB hz1 hk1 hS1 hc1 hv1 hcl => ?_) (fun r1 u t H1 locs1 ht hvm hw hB hz1 hk1 hS1 => ?_)
  · obtain ⟨q0, q1, qP, qK, qD, qX⟩ := q
    exact ⟨q0, q1, qP, ⟨va_K.moved (u := U) (U := U.calling g mk a) (Vm.Alike.refl U.vm) qK.1, qK.2.same rfl⟩, qD, qX.same rfl rfl⟩
  · exact ⟨rfl, by rw [hU], by rw [hU]; exact kright hW.1, hK.warm hWm, krightD hW.2.1, hX.go hW.2.2 hF hU hWm⟩
  · obtain ⟨hzE, hP1, hD1⟩ := hB
    rw [ht] at hP1
    obtain ⟨hP2, hD2⟩ := kj hW.1 hW.2.1 hk1 hF hP1 hD1
    exact kx E u ce q9 H1 locs1 hzE ⟨hP2, hD2, hS1⟩ hc1 hv1 hcl
  · obtain ⟨hP1, hD1⟩ := hB
    rw [ht] at hP1
    obtain ⟨hP2, hD2⟩ := kj hW.1 hW.2.1 hk1 hF hP1 hD1
    exact kk r1 u H1 locs1 hw ⟨hP2, hD2, hS1⟩
theorem kxl_v {w : St → va_W} {σ : St} {wr : va_W} {o : XRg Int32} {y : MethodName} {bytes : ByteArray} {maxL n index mc1 ms1 : Nat} {ret : Option FieldType} {rm : Room} {C : String} {b : Nat} {As st0 : List Value} (G : CallFix p m c cc nL s args wA own) (hK : KK D cy s) (hX : KX A s) (hA : ∀ q, s.heap.size ≤ q → A q) (hW : KW D A s.heap (wr ++ w σ) H locs) (hM : Xv l y (ws_ y bytes maxL ret) rm D cy w σ H.size (.ref b :: As) o mc1 ms1)
    (hG : GoodIn wA (wsV own index C y (ws_ y bytes maxL ret))) (hrm : rm.cells = mc1 ∧ rm.slots = ms1) (hd : y.cls = C ∧ y.cls ≠ "java/lang/invoke/MethodHandle" ∧ y.cls ≠ "java/lang/invoke/VarHandle" ∧ (parseMethodDescriptor y.desc).map (fun d => d.parameters.length) = some n) (hR : rm.frames + 1 ≤ R.frames ∧ 8 + (maxL + 11) + rm.locals ≤ R.locals) (hrecv : ∃ cell : Cell, H[b]? = some cell ∧ cell.vm.isStatics = false ∧ s.vm.findClass C = some cell.cls)
    (hn : As.length = n) (hsz : ls.size = nL) (hst : st0 = As.reverse ++ .ref b :: rest) (hroom : (rest.map fun v => v.category).sum ≤ 8) (hdg : decode cc pc = .ok (.invokevirtual index, 3)) (hcs : cells + mc1 ≤ R.cells ∧ slots + ms1 ≤ R.slots)
    (kx : ∀ (E : String) (u : St) (ce : Cell) (q9 : Addr) (H1 : Heap) (locs1 : List Loc), o = .inl (E, u) → KW D A s.heap (wr ++ w u) H1 locs1 → H1[q9]? = some ce → ce.vm = .none → s.vm.findClass E = some ce.cls → vx_W p l e R s m args below meth c H1 locs1 (cells + mc1) (slots + ms1) Q (F0 m pc ls rest) q9)
    (kk : ∀ (v : Int32) (u : St) (H1 : Heap) (locs1 : List Loc), o = .inr (v, u) → KW D A s.heap (wr ++ w u) H1 locs1 → W p l e R s m args below meth c H1 locs1 (cells + mc1) (slots + ms1) Q (F0 m (pc + 3) ls (rest))) : W p l e R s m args below meth c H locs cells slots Q (F0 m pc ls st0) := by
  subst hst
  have hF : ∀ q, va_A (w σ) H.size q → A q := kfree (H := H) hA hW.2.1 hW.2.2
  refine vx_callv (vx_runV (As := As) (rest := rest) G hM (cwV n G.2.2.2.2 hG rfl hrm.1 hrm.2 hd hR) ⟨fun a U g mk q => ?_, hrecv, fun U hU hWm => ?_⟩ rfl hn hsz rfl (lv_room hroom) hdg ⟨hcs.1, hcs.2⟩) hW.2.2 (fun q _ h => hF q h) hF (fun q _ h => hF q h) (fun E ce q9 u t H1 locs1 ht hvm _ hB hz1 hk1 hS1 hc1 hv1 hcl => ?_) (fun u t H1 locs1 ht hvm hw hB hz1 hk1 hS1 => ?_)
  · obtain ⟨q0, q1, qP, qK, qD, qX⟩ := q
    exact ⟨q0, q1, qP, ⟨va_K.moved (u := U) (U := U.calling g mk a) (Vm.Alike.refl U.vm) qK.1, qK.2.same rfl⟩, qD, qX.same rfl rfl⟩
  · exact ⟨rfl, by rw [hU], by rw [hU]; exact kright hW.1, hK.warm hWm, krightD hW.2.1, hX.go hW.2.2 hF hU hWm⟩
  · obtain ⟨hzE, hP1, hD1⟩ := hB
    rw [ht] at hP1
    obtain ⟨hP2, hD2⟩ := kj hW.1 hW.2.1 hk1 hF hP1 hD1
    exact kx E u ce q9 H1 locs1 hzE ⟨hP2, hD2, hS1⟩ hc1 hv1 hcl
  · obtain ⟨hP1, hD1⟩ := hB
    rw [ht] at hP1
    obtain ⟨hP2, hD2⟩ := kj hW.1 hW.2.1 hk1 hF hP1 hD1
    exact kk 0 u H1 locs1 hw ⟨hP2, hD2, hS1⟩
end KRL
