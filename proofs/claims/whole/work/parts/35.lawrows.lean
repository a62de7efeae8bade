/-! MY ROWS for the law itself -/
def wLaw (cy cl cd : ClassId) (ao ad : Nat) (h h2 hm : Nat → Nat) (f : Nat → Int64) (g : Nat → UInt64) (σ2 σ τ : St) : va_W := (ao, .inl (cl, 1, .inr (.inl f))) :: (ad, .inl (cd, 1, .inr (.inr (.inr (.inl g))))) :: (wBB cy h h2 σ2 σ ++ wM cy hm τ)
abbrev kA (s : State) : Nat → Prop := fun q => s.heap.size ≤ q
theorem gSW {own : String} {idx : Nat} {y : MethodName} {b : ByteArray} {n : Nat} {r : Option FieldType} {hh : List (Nat × Nat × Nat × Nat)} (h1 : Cond.methodLink own idx y ∈ wA) (h2 : Cond.static y ∈ wA) (h4 : Cond.initialized y.cls ∈ wA) (h5 : Cond.codeWith y b n r hh ∈ wA) : GoodIn wA (va_wsS own idx y (Cond.codeWith y b n r hh :: wA)) := by
  intro w hw
  refine gW ?_
  rcases List.mem_append.mp hw with h | h
  · simp only [List.mem_cons, List.not_mem_nil, or_false] at h
    rcases h with rfl | rfl | rfl
    · exact h1
    · exact h2
    · exact h4
  · exact (List.mem_cons.mp h).elim (fun e => e ▸ h5) id
section KRW
variable {p : Program} {l : Launch} {e : Env} {R : Room} {s : State} {m : MethodId} {args : Array Value} {below : List Frame} {meth : Method} {c : Code} {H : Heap} {locs : List Loc} {cells slots : Nat} {Q : State → Prop}
variable {cc : ByteArray} {nL pc : Nat} {ls : Array Slot} {rest : List Value} {D : va_G} {A : Nat → Prop} {a : Nat} {cy cl cd : ClassId} {ws : va_W} {H0 : Heap} {own : String}
/-- a call of one of the law's wrappers -/
theorem kl_w {wr w w' : va_W} {y : MethodName} {bytes : ByteArray} {maxL n index mc1 ms1 : Nat} {ret : Option FieldType} {hh : List (Nat × Nat × Nat × Nat)} {rm : Room} {As st0 : List Value} {r : Int32} (G : CallFix p m c cc nL s args wA own) (hKL : KL D cy cl cd s) (hX : KX A s) (hA : ∀ q, s.heap.size ≤ q → A q) (hW : KW D A s.heap (wr ++ w) H locs) (hM : Met l y (Cond.codeWith y bytes maxL ret hh :: wA) rm (KPL D cy cl cd w H.size As) (va_Qi (fun (r' : Int32) (_ : Unit) => r' = r) (fun _ => KB D (va_A w H.size) w') (va_A w H.size)) mc1 ms1 (va_A w H.size))
    (hG : GoodIn wA (va_wsS own index y (Cond.codeWith y bytes maxL ret hh :: wA))) (hrm : rm.cells = mc1 ∧ rm.slots = ms1) (hd : y.cls ≠ "java/lang/invoke/MethodHandle" ∧ y.cls ≠ "java/lang/invoke/VarHandle" ∧ (parseMethodDescriptor y.desc).map (fun d => d.parameters.length) = some n) (hR : rm.frames + 1 ≤ R.frames ∧ 8 + (maxL + 11) + rm.locals ≤ R.locals)
    (hn : As.length = n) (hsz : ls.size = nL) (hst : st0 = As.reverse ++ rest) (hroom : (rest.map fun v => v.category).sum ≤ 8) (hdg : decode cc pc = .ok (.invokestatic index, 3)) (hcs : cells + mc1 ≤ R.cells ∧ slots + ms1 ≤ R.slots)
    (kk : ∀ (H1 : Heap) (locs1 : List Loc), KW D A s.heap (wr ++ w') H1 locs1 → W p l e R s m args below meth c H1 locs1 (cells + mc1) (slots + ms1) Q (F0 m (pc + 3) ls (.int r :: rest))) : W p l e R s m args below meth c H locs cells slots Q (F0 m pc ls st0) := by
  subst hst
  have hF : ∀ q, va_A w H.size q → A q := kfree (H := H) hA hW.2.1 hW.2.2
  refine va_calli (vx_runSW (As := As) (rest := rest) G hM (vx_cwSW n G.2.2.2.2 hG rfl hrm.1 hrm.2 hd hR) ⟨fun a U g mk q => ?_, fun U hU hWm => ?_⟩ rfl hn hsz rfl (lv_room hroom) hdg ⟨hcs.1, hcs.2⟩) hW.2.2 (fun q _ h => hF q h) hF (fun r1 u t H1 locs1 ht hvm hw hB hz1 hk1 hS1 => ?_)
  · obtain ⟨q0, q1, qP, qK, qD, qX⟩ := q
    exact ⟨q0, q1, qP, ⟨va_K.moved (u := U) (U := U.calling g mk a) (Vm.Alike.refl U.vm) qK.1, qK.2.1.same rfl, qK.2.2.moved (U := U.calling g mk a) (Vm.Alike.refl U.vm)⟩, qD, qX.same rfl rfl⟩
  · exact ⟨rfl, by rw [hU], by rw [hU]; exact kright hW.1, hKL.warm hWm, krightD hW.2.1, hX.go hW.2.2 hF hU hWm⟩
  · obtain ⟨hP1, hD1⟩ := hB
    rw [ht] at hP1
    have hw : r1 = r := hw
    subst hw
    obtain ⟨hP2, hD2⟩ := kj hW.1 hW.2.1 hk1 hF hP1 hD1
    exact kk H1 locs1 ⟨hP2, hD2, hS1⟩
theorem kc_d {wr w w' : va_W} {y : MethodName} {bytes : ByteArray} {maxL n index : Nat} {ret : Option FieldType} {rm : Room} {C : String} {b : Nat} {As st0 : List Value} {r : UInt64} (G : CallFix p m c cc nL s args wA own) (hK : KK D cy s) (hA : ∀ q, H0.size ≤ q → A q) (hW : KW D A H0 (wr ++ w) H locs) (hM : Md l y (ws_ y bytes maxL ret) rm D cy w w' H.size (.ref b :: As) r)
    (hG : GoodIn wA (wsV own index C y (ws_ y bytes maxL ret))) (hrm : rm.cells = 0 ∧ rm.slots = 0) (hd : y.cls = C ∧ y.cls ≠ "java/lang/invoke/MethodHandle" ∧ y.cls ≠ "java/lang/invoke/VarHandle" ∧ (parseMethodDescriptor y.desc).map (fun d => d.parameters.length) = some n) (hR : rm.frames + 1 ≤ R.frames ∧ 8 + (maxL + 11) + rm.locals ≤ R.locals) (hrecv : ∃ cell : Cell, H[b]? = some cell ∧ cell.vm.isStatics = false ∧ s.vm.findClass C = some cell.cls)
    (hn : As.length = n) (hsz : ls.size = nL) (hst : st0 = As.reverse ++ .ref b :: rest) (hroom : (rest.map fun v => v.category).sum ≤ 8) (hdg : decode cc pc = .ok (.invokevirtual index, 3)) (hcs : cells ≤ R.cells ∧ slots ≤ R.slots)
    (kk : ∀ (H1 : Heap) (locs1 : List Loc), KW D A H0 (wr ++ w') H1 locs1 → W p l e R s m args below meth c H1 locs1 cells slots Q (F0 m (pc + 3) ls (.double r :: rest))) : W p l e R s m args below meth c H locs cells slots Q (F0 m pc ls st0) := by
  subst hst
  have hF := kfree (H := H) hA hW.2.1 hW.2.2
  refine va_calld (va_runV (As := As) (rest := rest) G hM (cwV n G.2.2.2.2 hG rfl hrm.1 hrm.2 hd hR) ⟨fun a U g mk q => ?_, hrecv, fun U hU hWm => ?_⟩ rfl hn hsz rfl (lv_room hroom) hdg ⟨hcs.1, hcs.2⟩) hW.2.2 (fun q _ h => hF q h) hF (fun r1 u t H1 locs1 ht hvm hw hB hz1 hk1 hS1 => ?_)
  · obtain ⟨q0, q1, qP, qK, qD⟩ := q
    exact ⟨q0, q1, qP, ⟨va_K.moved (u := U) (U := U.calling g mk a) (Vm.Alike.refl U.vm) qK.1, qK.2.same rfl⟩, qD⟩
  · exact ⟨rfl, by rw [hU], by rw [hU]; exact kright hW.1, hK.warm hWm, krightD hW.2.1⟩
  · obtain ⟨hP1, hD1⟩ := hB
    rw [ht] at hP1
    have hw : r1 = r := hw
    subst hw
    obtain ⟨hP2, hD2⟩ := kj hW.1 hW.2.1 hk1 hF hP1 hD1
    exact kk H1 locs1 ⟨hP2, hD2, hS1⟩
theorem kc_f {wr w w' : va_W} {y : MethodName} {bytes : ByteArray} {maxL n index : Nat} {ret : Option FieldType} {rm : Room} {C : String} {b : Nat} {As st0 : List Value} {r : UInt32} (G : CallFix p m c cc nL s args wA own) (hK : KK D cy s) (hA : ∀ q, H0.size ≤ q → A q) (hW : KW D A H0 (wr ++ w) H locs) (hM : Mf l y (ws_ y bytes maxL ret) rm D cy w w' H.size (.ref b :: As) r)
    (hG : GoodIn wA (wsV own index C y (ws_ y bytes maxL ret))) (hrm : rm.cells = 0 ∧ rm.slots = 0) (hd : y.cls = C ∧ y.cls ≠ "java/lang/invoke/MethodHandle" ∧ y.cls ≠ "java/lang/invoke/VarHandle" ∧ (parseMethodDescriptor y.desc).map (fun d => d.parameters.length) = some n) (hR : rm.frames + 1 ≤ R.frames ∧ 8 + (maxL + 11) + rm.locals ≤ R.locals) (hrecv : ∃ cell : Cell, H[b]? = some cell ∧ cell.vm.isStatics = false ∧ s.vm.findClass C = some cell.cls)
    (hn : As.length = n) (hsz : ls.size = nL) (hst : st0 = As.reverse ++ .ref b :: rest) (hroom : (rest.map fun v => v.category).sum ≤ 8) (hdg : decode cc pc = .ok (.invokevirtual index, 3)) (hcs : cells ≤ R.cells ∧ slots ≤ R.slots)
    (kk : ∀ (H1 : Heap) (locs1 : List Loc), KW D A H0 (wr ++ w') H1 locs1 → W p l e R s m args below meth c H1 locs1 cells slots Q (F0 m (pc + 3) ls (.float r :: rest))) : W p l e R s m args below meth c H locs cells slots Q (F0 m pc ls st0) := by
  subst hst
  have hF := kfree (H := H) hA hW.2.1 hW.2.2
  refine va_callf (va_runV (As := As) (rest := rest) G hM (cwV n G.2.2.2.2 hG rfl hrm.1 hrm.2 hd hR) ⟨fun a U g mk q => ?_, hrecv, fun U hU hWm => ?_⟩ rfl hn hsz rfl (lv_room hroom) hdg ⟨hcs.1, hcs.2⟩) hW.2.2 (fun q _ h => hF q h) hF (fun r1 u t H1 locs1 ht hvm hw hB hz1 hk1 hS1 => ?_)
  · obtain ⟨q0, q1, qP, qK, qD⟩ := q
    exact ⟨q0, q1, qP, ⟨va_K.moved (u := U) (U := U.calling g mk a) (Vm.Alike.refl U.vm) qK.1, qK.2.same rfl⟩, qD⟩
  · exact ⟨rfl, by rw [hU], by rw [hU]; exact kright hW.1, hK.warm hWm, krightD hW.2.1⟩
  · obtain ⟨hP1, hD1⟩ := hB
    rw [ht] at hP1
    have hw : r1 = r := hw
    subst hw
    obtain ⟨hP2, hD2⟩ := kj hW.1 hW.2.1 hk1 hF hP1 hD1
    exact kk H1 locs1 ⟨hP2, hD2, hS1⟩
end KRW
set_option maxRecDepth 100000 in
theorem pmL_in {D : va_G} {A : Nat → Prop} {H0 H : Heap} {locs : List Loc} {cy cl cd : ClassId} {ao ad : Nat} {h h2 hm : Nat → Nat} {f : Nat → Int64} {g : Nat → UInt64} {σ2 σ τ : St} (hW : KW D A H0 (wLaw cy cl cd ao ad h h2 hm f g σ2 σ τ) H locs) : KW D A H0 (([(ad, .inl (cd, 1, .inr (.inr (.inr (.inl g)))))] ++ (wC cy h2 σ2 ++ wM cy hm τ)) ++ ((ao, .inl (cl, 1, .inr (.inl f))) :: wB cy h (h2 103) σ)) H locs := hW.perm [1, 29, 30, 31, 32, 33, 34, 35, 36, 37, 38, 39, 40, 41, 42, 43, 44, 45, 46, 47, 48, 49, 50, 51, 52, 53, 54, 55, 56, 57, 58, 59, 0, 2, 3, 4, 5, 6, 7, 8, 9, 10, 11, 12, 13, 14, 15, 16, 17, 18, 19, 20, 21, 22, 23, 24, 25, 26, 27, 28] rfl rfl rfl
set_option maxRecDepth 100000 in
theorem pmL_out {D : va_G} {A : Nat → Prop} {H0 H : Heap} {locs : List Loc} {cy cl cd : ClassId} {ao ad : Nat} {h h2 hm : Nat → Nat} {f : Nat → Int64} {g : Nat → UInt64} {σ2 σ τ : St} (hW : KW D A H0 (([(ad, .inl (cd, 1, .inr (.inr (.inr (.inl g)))))] ++ (wC cy h2 σ2 ++ wM cy hm τ)) ++ ((ao, .inl (cl, 1, .inr (.inl f))) :: wB cy h (h2 103) σ)) H locs) : KW D A H0 (wLaw cy cl cd ao ad h h2 hm f g σ2 σ τ) H locs := hW.perm [32, 0, 33, 34, 35, 36, 37, 38, 39, 40, 41, 42, 43, 44, 45, 46, 47, 48, 49, 50, 51, 52, 53, 54, 55, 56, 57, 58, 59, 1, 2, 3, 4, 5, 6, 7, 8, 9, 10, 11, 12, 13, 14, 15, 16, 17, 18, 19, 20, 21, 22, 23, 24, 25, 26, 27, 28, 29, 30, 31] rfl rfl rfl
set_option maxRecDepth 100000 in
theorem pmD_in {D : va_G} {A : Nat → Prop} {H0 H : Heap} {locs : List Loc} {cy cl cd : ClassId} {ao ad : Nat} {h h2 hm : Nat → Nat} {f : Nat → Int64} {g : Nat → UInt64} {σ2 σ τ : St} (hW : KW D A H0 (wLaw cy cl cd ao ad h h2 hm f g σ2 σ τ) H locs) : KW D A H0 (([(ao, .inl (cl, 1, .inr (.inl f)))] ++ (wC cy h2 σ2 ++ wM cy hm τ)) ++ ((ad, .inl (cd, 1, .inr (.inr (.inr (.inl g))))) :: wB cy h (h2 103) σ)) H locs := hW.perm [0, 29, 30, 31, 32, 33, 34, 35, 36, 37, 38, 39, 40, 41, 42, 43, 44, 45, 46, 47, 48, 49, 50, 51, 52, 53, 54, 55, 56, 57, 58, 59, 1, 2, 3, 4, 5, 6, 7, 8, 9, 10, 11, 12, 13, 14, 15, 16, 17, 18, 19, 20, 21, 22, 23, 24, 25, 26, 27, 28] rfl rfl rfl
set_option maxRecDepth 100000 in
theorem pmD_out {D : va_G} {A : Nat → Prop} {H0 H : Heap} {locs : List Loc} {cy cl cd : ClassId} {ao ad : Nat} {h h2 hm : Nat → Nat} {f : Nat → Int64} {g : Nat → UInt64} {σ2 σ τ : St} (hW : KW D A H0 (([(ao, .inl (cl, 1, .inr (.inl f)))] ++ (wC cy h2 σ2 ++ wM cy hm τ)) ++ ((ad, .inl (cd, 1, .inr (.inr (.inr (.inl g))))) :: wB cy h (h2 103) σ)) H locs) : KW D A H0 (wLaw cy cl cd ao ad h h2 hm f g σ2 σ τ) H locs := hW.perm [0, 32, 33, 34, 35, 36, 37, 38, 39, 40, 41, 42, 43, 44, 45, 46, 47, 48, 49, 50, 51, 52, 53, 54, 55, 56, 57, 58, 59, 1, 2, 3, 4, 5, 6, 7, 8, 9, 10, 11, 12, 13, 14, 15, 16, 17, 18, 19, 20, 21, 22, 23, 24, 25, 26, 27, 28, 29, 30, 31] rfl rfl rfl
set_option maxRecDepth 100000 in
theorem pmN_in {D : va_G} {A : Nat → Prop} {H0 H : Heap} {locs : List Loc} {cy cl cd : ClassId} {ao ad : Nat} {h h2 hm : Nat → Nat} {f : Nat → Int64} {g : Nat → UInt64} {σ2 σ τ : St} (hW : KW D A H0 (wLaw cy cl cd ao ad h h2 hm f g σ2 σ τ) H locs) : KW D A H0 (([(ao, .inl (cl, 1, .inr (.inl f))), (ad, .inl (cd, 1, .inr (.inr (.inr (.inl g)))))] ++ (wC cy h2 σ2 ++ wM cy hm τ)) ++ (wB cy h (h2 103) σ)) H locs := hW.perm [0, 1, 29, 30, 31, 32, 33, 34, 35, 36, 37, 38, 39, 40, 41, 42, 43, 44, 45, 46, 47, 48, 49, 50, 51, 52, 53, 54, 55, 56, 57, 58, 59, 2, 3, 4, 5, 6, 7, 8, 9, 10, 11, 12, 13, 14, 15, 16, 17, 18, 19, 20, 21, 22, 23, 24, 25, 26, 27, 28] rfl rfl rfl
set_option maxRecDepth 100000 in
theorem pmN_out {D : va_G} {A : Nat → Prop} {H0 H : Heap} {locs : List Loc} {cy cl cd : ClassId} {ao ad : Nat} {h h2 hm : Nat → Nat} {f : Nat → Int64} {g : Nat → UInt64} {σ2 σ τ : St} (hW : KW D A H0 (([(ao, .inl (cl, 1, .inr (.inl f))), (ad, .inl (cd, 1, .inr (.inr (.inr (.inl g)))))] ++ (wC cy h2 σ2 ++ wM cy hm τ)) ++ (wB cy h (h2 103) σ)) H locs) : KW D A H0 (wLaw cy cl cd ao ad h h2 hm f g σ2 σ τ) H locs := hW.perm [0, 1, 33, 34, 35, 36, 37, 38, 39, 40, 41, 42, 43, 44, 45, 46, 47, 48, 49, 50, 51, 52, 53, 54, 55, 56, 57, 58, 59, 2, 3, 4, 5, 6, 7, 8, 9, 10, 11, 12, 13, 14, 15, 16, 17, 18, 19, 20, 21, 22, 23, 24, 25, 26, 27, 28, 29, 30, 31, 32] rfl rfl rfl
set_option maxRecDepth 100000 in
theorem pmR_in {D : va_G} {A : Nat → Prop} {H0 H : Heap} {locs : List Loc} {cy cl cd : ClassId} {ao ad : Nat} {h h2 hm : Nat → Nat} {f : Nat → Int64} {g : Nat → UInt64} {σ2 σ τ : St} (hW : KW D A H0 (wLaw cy cl cd ao ad h h2 hm f g σ2 σ τ) H locs) : KW D A H0 (([(ad, .inl (cd, 1, .inr (.inr (.inr (.inl g)))))] ++ wM cy hm τ) ++ ((ao, .inl (cl, 1, .inr (.inl f))) :: wBB cy h h2 σ2 σ)) H locs := hW.perm [1, 55, 56, 57, 58, 59, 0, 2, 3, 4, 5, 6, 7, 8, 9, 10, 11, 12, 13, 14, 15, 16, 17, 18, 19, 20, 21, 22, 23, 24, 25, 26, 27, 28, 29, 30, 31, 32, 33, 34, 35, 36, 37, 38, 39, 40, 41, 42, 43, 44, 45, 46, 47, 48, 49, 50, 51, 52, 53, 54] rfl rfl rfl
set_option maxRecDepth 100000 in
theorem pmR_out {D : va_G} {A : Nat → Prop} {H0 H : Heap} {locs : List Loc} {cy cl cd : ClassId} {ao ad : Nat} {h h2 hm : Nat → Nat} {f : Nat → Int64} {g : Nat → UInt64} {σ2 σ τ : St} (hW : KW D A H0 (([(ad, .inl (cd, 1, .inr (.inr (.inr (.inl g)))))] ++ wM cy hm τ) ++ ((ao, .inl (cl, 1, .inr (.inl f))) :: wBB cy h h2 σ2 σ)) H locs) : KW D A H0 (wLaw cy cl cd ao ad h h2 hm f g σ2 σ τ) H locs := hW.perm [6, 0, 7, 8, 9, 10, 11, 12, 13, 14, 15, 16, 17, 18, 19, 20, 21, 22, 23, 24, 25, 26, 27, 28, 29, 30, 31, 32, 33, 34, 35, 36, 37, 38, 39, 40, 41, 42, 43, 44, 45, 46, 47, 48, 49, 50, 51, 52, 53, 54, 55, 56, 57, 58, 59, 1, 2, 3, 4, 5] rfl rfl rfl
set_option maxRecDepth 100000 in
theorem pmS_in {D : va_G} {A : Nat → Prop} {H0 H : Heap} {locs : List Loc} {cy cl cd : ClassId} {ao ad : Nat} {h h2 hm : Nat → Nat} {f : Nat → Int64} {g : Nat → UInt64} {σ2 σ τ : St} (hW : KW D A H0 (wLaw cy cl cd ao ad h h2 hm f g σ2 σ τ) H locs) : KW D A H0 (([(ao, .inl (cl, 1, .inr (.inl f))), (ad, .inl (cd, 1, .inr (.inr (.inr (.inl g)))))] ++ wM cy hm τ) ++ (wBB cy h h2 σ2 σ)) H locs := hW.perm [0, 1, 55, 56, 57, 58, 59, 2, 3, 4, 5, 6, 7, 8, 9, 10, 11, 12, 13, 14, 15, 16, 17, 18, 19, 20, 21, 22, 23, 24, 25, 26, 27, 28, 29, 30, 31, 32, 33, 34, 35, 36, 37, 38, 39, 40, 41, 42, 43, 44, 45, 46, 47, 48, 49, 50, 51, 52, 53, 54] rfl rfl rfl
set_option maxRecDepth 100000 in
theorem pmS_out {D : va_G} {A : Nat → Prop} {H0 H : Heap} {locs : List Loc} {cy cl cd : ClassId} {ao ad : Nat} {h h2 hm : Nat → Nat} {f : Nat → Int64} {g : Nat → UInt64} {σ2 σ τ : St} (hW : KW D A H0 (([(ao, .inl (cl, 1, .inr (.inl f))), (ad, .inl (cd, 1, .inr (.inr (.inr (.inl g)))))] ++ wM cy hm τ) ++ (wBB cy h h2 σ2 σ)) H locs) : KW D A H0 (wLaw cy cl cd ao ad h h2 hm f g σ2 σ τ) H locs := hW.perm [0, 1, 7, 8, 9, 10, 11, 12, 13, 14, 15, 16, 17, 18, 19, 20, 21, 22, 23, 24, 25, 26, 27, 28, 29, 30, 31, 32, 33, 34, 35, 36, 37, 38, 39, 40, 41, 42, 43, 44, 45, 46, 47, 48, 49, 50, 51, 52, 53, 54, 55, 56, 57, 58, 59, 2, 3, 4, 5, 6] rfl rfl rfl
theorem k_cmp0 (f : Nat → Int64) (v : Int32) (u : St) : lg_cmp (woL (.inr (v, u)) f (0 : Int32).toNatClampNeg) v.toInt64 = 0 := by
  have h0 : (0 : Int32).toNatClampNeg = 0 := by decide
  show lg_cmp (vp_updL f 0 v.toInt64 (0 : Int32).toNatClampNeg) v.toInt64 = 0
  rw [h0, pk_uLs]
  simp [lg_cmp]
