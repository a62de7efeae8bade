/-! MY ROWS for methods that throw -/
abbrev xNm : List String := ["java/lang/RuntimeException", "java/lang/Exception"]
/-- the classes that are thrown: their link to the constructor, and the name -/
def xE : List (Nat × String) := [(41, xIA), (57, xIS), (165, xIO), (154, xAE), (210, xNS)]
/-- those whose constructor is of the bundle's form -/
def xE4 : List (Nat × String) := [(41, xIA), (57, xIS), (165, xIO), (154, xAE)]
theorem xE4_in : ∀ q ∈ xE4, q ∈ xE := by decide +kernel
def xStr : List (Nat × String) := [(103, "the reservation is refused"), (144, "the job was never started"), (152, "no job was started"), (163, "there is no such user"), (169, "the clock is 0"), (179, "there is no such processor or unit"), (184, "the unit is negative"), (194, "there is no such order"), (208, "no processor is free"), (217, "no block of this order is free in the interval"), (223, "there is no such block"), (238, "there is no such event or column"), (247, "nothing was saved"), (249, "there is no such job"), (251, "the job is neither waiting nor running"), (253, "the job is not finished"), (258, "there is no such reservation"), (263, "the reservation is cancelled"), (39, "a number is out of range"), (55, "there are 24 jobs"), (62, "the number of ticks is out of range"), (67, "the clock would become greater than 1000"), (87, "the cost is out of range"), (89, "the job is not running")]
def xNb (X : String) : List Cond := [.castable X X, .declares (Bundle.initS "java/lang/RuntimeException"), .declares (Bundle.initS "java/lang/Exception"), .declares (Bundle.initS Bundle.tN)]
theorem xE_nb : ∀ q ∈ xE, ∀ w ∈ (vx_atS RX4 q.1 q.2 xNm).filter (fun w => !goodWord w), w ∈ xNb q.2 := by decide +kernel
theorem xE_ot : ∀ q ∈ xE, ∀ w ∈ vx_atS RX4 q.1 q.2 xNm, vx_ot w = true := by decide +kernel
theorem xE_fit : ∀ q ∈ xE, Bundle.fit q.2 = true := by decide +kernel
theorem xNm_fit : ∀ n ∈ xNm, Bundle.fit n = true := by decide +kernel
theorem xE_in : ∀ q ∈ xE4, ∀ w ∈ (vx_atS RX4 q.1 q.2 xNm).filter goodWord, w ∈ wA := by
  intro q hq w hw
  simp only [xE4, List.mem_cons, List.not_mem_nil, or_false] at hq
  unfold wA wsL_law
  rcases hq with rfl | rfl | rfl | rfl
  · exact List.mem_append_left _ (List.mem_append_left _ (List.mem_append_left _ (List.mem_append_left _ (List.mem_append_left _ (List.mem_append_right _ hw)))))
  · exact List.mem_append_left _ (List.mem_append_left _ (List.mem_append_left _ (List.mem_append_left _ (List.mem_append_right _ hw))))
  · exact List.mem_append_left _ (List.mem_append_left _ (List.mem_append_left _ (List.mem_append_right _ hw)))
  · exact List.mem_append_left _ (List.mem_append_left _ (List.mem_append_right _ hw))
abbrev xNl : List Cond := (xnA RX4 210 xNS 13 prog_21_method_4_code "java/lang/RuntimeException" ["java/lang/Exception"]).filter vx_no
theorem xN_in : ∀ w ∈ xNl.filter goodWord, w ∈ wA := fun w hw => List.mem_append_left _ (List.mem_append_right _ hw)
theorem xN_nb : ∀ w ∈ xNl.filter (fun w => !goodWord w), w ∈ xNb xNS := by decide +kernel
theorem xN_ot : ∀ w ∈ xNl, vx_ot w = true := by decide +kernel
theorem xN_0 : decode prog_21_method_4_code 0 = .ok (.aload_n 0, 1) := by decide +kernel
theorem xN_1 : decode prog_21_method_4_code 1 = .ok (.aload_n 1, 1) := by decide +kernel
theorem xN_2 : decode prog_21_method_4_code 2 = .ok (.invokespecial 13, 3) := by decide +kernel
theorem xN_5 : decode prog_21_method_4_code 5 = .ok (.return_, 1) := by decide +kernel
/-- what a throw needs of the state beside the words -/
def kXn (U : State) : Prop := (∀ q ∈ xE, va_Nw (.castable q.2 q.2) U) ∧ va_Nw (.declares (Bundle.initS "java/lang/RuntimeException")) U ∧ va_Nw (.declares (Bundle.initS "java/lang/Exception")) U ∧ va_Nw (.declares (Bundle.initS Bundle.tN)) U
def kXs (U : State) : Prop := ∀ q ∈ xStr, ∃ sa, vk_R RX4 q.1 q.2 sa U
theorem kXn.warm {s U : State} (h : kXn s) (hW : s.WarmedH U.vm) : kXn U := ⟨fun q hq => va_Nw.warmC hW (h.1 q hq), va_Nw.warmD hW h.2.1, va_Nw.warmD hW h.2.2.1, va_Nw.warmD hW h.2.2.2⟩
theorem kXn.same {s U : State} (h : kXn s) (hW : s.vm = U.vm) : kXn U := ⟨fun q hq => va_Nw.same rfl hW (h.1 q hq), va_Nw.same rfl hW h.2.1, va_Nw.same rfl hW h.2.2.1, va_Nw.same rfl hW h.2.2.2⟩
theorem kXs.warm {s U : State} (h : kXs s) (hW : s.WarmedH U.vm) : kXs U := fun q hq => let ⟨sa, hs⟩ := h q hq; ⟨sa, vk_R.warm hW hs⟩
theorem kXs.same {s U : State} (h : kXs s) (hW : s.vm = U.vm) : kXs U := fun q hq => let ⟨sa, hs⟩ := h q hq; ⟨sa, vk_R.same hW.symm hs⟩
def KX (A : Nat → Prop) (U : State) : Prop := kXn U ∧ kXs U ∧ vx_Zq Bundle.tN "UNASSIGNED_STACK" Bundle.steD A U U.heap ∧ vx_Zq Bundle.tN "SUPPRESSED_SENTINEL" Bundle.listD A U U.heap
theorem KX.go {A B : Nat → Prop} {s U : State} {H : Heap} {locs : List Loc} (h : KX A s) (hS : va_S A s.heap H locs) (hB : ∀ q, B q → A q) (hU : U.heap = H) (hW : s.WarmedH U.vm) : KX B U := by
  refine ⟨h.1.warm hW, h.2.1.warm hW, ?_, ?_⟩
  · rw [hU]; exact ((h.2.2.1.kept hS.2.1).narrow hB).moved hW.alike
  · rw [hU]; exact ((h.2.2.2.kept hS.2.1).narrow hB).moved hW.alike
theorem KX.same {A : Nat → Prop} {s U : State} (h : KX A s) (hv : s.vm = U.vm) (hh : s.heap = U.heap) : KX A U := by
  have ha : s.vm.Alike U.vm := by rw [hv]; exact Vm.Alike.refl U.vm
  refine ⟨h.1.same hv, h.2.1.same hv, ?_, ?_⟩
  · rw [← hh]; exact h.2.2.1.moved ha
  · rw [← hh]; exact h.2.2.2.moved ha
theorem wBm (cy : ClassId) (h : Nat → Nat) (kp : Nat) (σ s1 : St) : [(h 104, (.inr (6, [.ref (h 103), .ref kp, .int (σ 28 0), .int (σ 29 0)]) : va_E))] ++ wC cy h s1 = wB cy h kp (mrg σ s1) := rfl
abbrev KPX (D : va_G) (cy : ClassId) (w : va_W) (sz : Nat) (av : List Value) : Array Value → State → Prop := va_Pc av (fun U => U.heap.size = sz ∧ va_P D vwCl w U.heap ∧ KK D cy U ∧ va_D (fun _ => True) w ∧ KX (va_A w sz) U)
abbrev XCo {α : Type} (D : va_G) (A : Nat → Prop) (w : St → va_W) (o : XRg α) : String → State → State → Prop := vx_X (fun (_ : St) => True) (fun E u t => o = .inl (E, u) ∧ KB D A (w u) t) A
abbrev XQi (D : va_G) (A : Nat → Prop) (w : St → va_W) (o : XR) : Array Value → State → Outcome → State → Prop := va_Qi (fun (r' : Int32) (u : St) => o = .inr (r', u)) (fun u => KB D A (w u)) A
abbrev XQv (D : va_G) (A : Nat → Prop) (w : St → va_W) (o : XR) : Array Value → State → Outcome → State → Prop := va_Qv (fun (u : St) => o = .inr (0, u)) (fun u => KB D A (w u)) A
abbrev XQd (D : va_G) (A : Nat → Prop) (w : St → va_W) (o : XRg UInt64) : Array Value → State → Outcome → State → Prop := va_Qd (fun (r' : UInt64) (u : St) => o = .inr (r', u)) (fun u => KB D A (w u)) A
abbrev XQf (D : va_G) (A : Nat → Prop) (w : St → va_W) (o : XRg UInt32) : Array Value → State → Outcome → State → Prop := va_Qf (fun (r' : UInt32) (u : St) => o = .inr (r', u)) (fun u => KB D A (w u)) A
abbrev Xd (l : Launch) (y : MethodName) (ws : List Cond) (rm : Room) (D : va_G) (cy : ClassId) (w : St → va_W) (σ : St) (sz : Nat) (av : List Value) (o : XRg UInt64) (mc ms : Nat) : Prop := vx_Met l y ws rm (KPX D cy (w σ) sz av) (XQd D (va_A (w σ) sz) w o) (XCo D (va_A (w σ) sz) w o) mc ms (va_A (w σ) sz)
abbrev Xf (l : Launch) (y : MethodName) (ws : List Cond) (rm : Room) (D : va_G) (cy : ClassId) (w : St → va_W) (σ : St) (sz : Nat) (av : List Value) (o : XRg UInt32) (mc ms : Nat) : Prop := vx_Met l y ws rm (KPX D cy (w σ) sz av) (XQf D (va_A (w σ) sz) w o) (XCo D (va_A (w σ) sz) w o) mc ms (va_A (w σ) sz)
abbrev Xi (l : Launch) (y : MethodName) (ws : List Cond) (rm : Room) (D : va_G) (cy : ClassId) (w : St → va_W) (σ : St) (sz : Nat) (av : List Value) (o : XR) (mc ms : Nat) : Prop := vx_Met l y ws rm (KPX D cy (w σ) sz av) (XQi D (va_A (w σ) sz) w o) (XCo D (va_A (w σ) sz) w o) mc ms (va_A (w σ) sz)
abbrev Xv (l : Launch) (y : MethodName) (ws : List Cond) (rm : Room) (D : va_G) (cy : ClassId) (w : St → va_W) (σ : St) (sz : Nat) (av : List Value) (o : XR) (mc ms : Nat) : Prop := vx_Met l y ws rm (KPX D cy (w σ) sz av) (XQv D (va_A (w σ) sz) w o) (XCo D (va_A (w σ) sz) w o) mc ms (va_A (w σ) sz)
section KRX
variable {p : Program} {l : Launch} {e : Env} {R : Room} {s : State} {m : MethodId} {args : Array Value} {below : List Frame} {meth : Method} {c : Code} {H : Heap} {locs : List Loc} {cells slots : Nat} {Q : State → Prop}
variable {cc : ByteArray} {nL pc : Nat} {ls : Array Slot} {rest : List Value} {D : va_G} {A : Nat → Prop} {a : Nat} {cy : ClassId} {ws : va_W} {H0 : Heap} {own : String} {mc ms : Nat} {Qc : Array Value → State → Outcome → State → Prop}
theorem x_hat (G : CallFix p m c cc nL s args wA own) (hX : kXn s) {q : Nat × String} (hq4 : q ∈ xE4) : ∀ w ∈ vx_atS RX4 q.1 q.2 xNm, w.before args s = true := by
  have hq := xE4_in q hq4
  refine vx_hat (B := xNb q.2) (fun w hw => G.2.2.2.2 w (xE_in q hq4 w hw)) (xE_nb q hq) (fun w hw => ?_)
  simp only [xNb, List.mem_cons, List.not_mem_nil, or_false] at hw
  rcases hw with rfl | rfl | rfl | rfl
  · exact va_Nw.use rfl (hX.1 q hq)
  · exact va_Nw.use rfl hX.2.1
  · exact va_Nw.use rfl hX.2.2.1
  · exact va_Nw.use rfl hX.2.2.2
theorem x_hatN (G : CallFix p m c cc nL s args wA own) (hX : kXn s) : ∀ w ∈ xNl, w.before args s = true := by
  refine vx_hat (B := xNb xNS) (fun w hw => G.2.2.2.2 w (xN_in w hw)) xN_nb (fun w hw => ?_)
  simp only [xNb, List.mem_cons, List.not_mem_nil, or_false] at hw
  rcases hw with rfl | rfl | rfl | rfl
  · exact va_Nw.use rfl (hX.1 (210, xNS) (List.mem_of_getElem? (i := 4) rfl))
  · exact va_Nw.use rfl hX.2.1
  · exact va_Nw.use rfl hX.2.2.1
  · exact va_Nw.use rfl hX.2.2.2
theorem x_goodN {ik : Nat} : ∀ w ∈ Cond.classLink RX4 ik xNS :: Cond.initialized xNS :: xNl, vx_ot w = true := by
  intro w hw
  rcases List.mem_cons.mp hw with rfl | hw
  · rfl
  · rcases List.mem_cons.mp hw with rfl | hw
    · rfl
    · exact xN_ot w hw
theorem x_good {ik : Nat} {q : Nat × String} (hq : q ∈ xE) : ∀ w ∈ Cond.classLink RX4 ik q.2 :: Cond.initialized q.2 :: vx_atS RX4 q.1 q.2 xNm, vx_ot w = true := by
  intro w hw
  rcases List.mem_cons.mp hw with rfl | hw
  · rfl
  · rcases List.mem_cons.mp hw with rfl | hw
    · rfl
    · exact xE_ot q hq w hw
/-- what holds of the world where a method has thrown in it -/
theorem x_here {α : Type} {w : St → va_W} {σ : St} {o : XRg α} {cls : String} (hW : KW D A s.heap (w σ) H locs) (ho : o = .inl (cls, σ)) : ∀ t : State, s.vm.Alike t.vm → H.size ≤ t.heap.size → (∀ q : Nat, q < H.size → t.heap[q]? = H[q]?) → XCo D A w o cls s t := by
  intro t _ hz hk
  refine ⟨σ, trivial, ⟨ho, fun k q hq => (hW.1 k q hq).kept (hk q.1 (hW.1 k q hq).lt), hW.2.1⟩, Nat.le_trans hW.2.2.1 hz, fun q h1 h2 => ?_⟩
  rw [hk q (Nat.lt_of_lt_of_le h1 hW.2.2.1)]
  exact hW.2.2.2.1 q h1 h2
/-- throw new E("text") -/
theorem kx_throw {α : Type} {w : St → va_W} {σ : St} {o : XRg α} (G : CallFix p m c cc nL s args wA RX4) (hT : l.stackTraces = false) (hX : KX A s) (hW : KW D A s.heap (w σ) H locs) (htab : ∀ x ∈ c.exceptionTable.toList, False) (hlk : meth.locks = false) (hsz : ls.size = nL) {ik : Nat} (q : Nat × String) (hq4 : q ∈ xE4) (t : Nat × String) (ht : t ∈ xStr) (hk : Cond.classLink RX4 ik q.2 ∈ wA) (hini : Cond.initialized q.2 ∈ wA)
    (d0 : decode cc pc = .ok (.new ik, 3)) (d3 : decode cc (pc + 3) = .ok (.dup, 1)) (d4 : decode cc (pc + 4) = .ok (.ldc t.1, 2)) (d6 : decode cc (pc + 6) = .ok (.invokespecial q.1, 3)) (d9 : decode cc (pc + 9) = .ok (.athrow, 1))
    (hRf : 5 < R.frames) (hRl : (rest.map fun v => v.category).sum + 82 ≤ R.locals) (hRc : cells + 1 ≤ R.cells) (hRs : slots + 6 ≤ R.slots) (ho : o = .inl (q.2, σ)) (hc : cells + 1 ≤ mc) (hs : slots + 6 ≤ ms) : W p l e R s m args below meth c H locs cells slots (vx_MQ below Qc (XCo D A w o) args s mc ms A) (F0 m pc ls rest) := by
  have hq := xE4_in q hq4
  obtain ⟨sa, hstr⟩ := hX.2.1 t ht
  exact vx_throwS (names := xNm) G.1 G.2.1 hT G.2.2.2.1 (xE_fit q hq) xNm_fit (G.2.2.2.2 _ hk) (G.2.2.2.2 _ hini) hstr (x_hat G hX.1 hq4) (x_good hq) hX.2.2.1 hX.2.2.2 hW.2.2 (hsz.trans G.2.2.1.symm) d0 d3 d4 d6 d9 (fun x hx => (htab x hx).elim) hRf hRl hRc hRs hlk (x_here hW ho) hW.2.2.2.2 hc hs
theorem kx_throwW {α : Type} {w : St → va_W} {σ : St} {o : XRg α} (G : CallFix p m c cc nL s args wA RX4) (hT : l.stackTraces = false) (hX : KX A s) (hW : KW D A s.heap (w σ) H locs) (htab : ∀ x ∈ c.exceptionTable.toList, False) (hlk : meth.locks = false) (hsz : ls.size = nL) {ik : Nat} (q : Nat × String) (hq4 : q ∈ xE4) (t : Nat × String) (ht : t ∈ xStr) (hk : Cond.classLink RX4 ik q.2 ∈ wA) (hini : Cond.initialized q.2 ∈ wA)
    (d0 : decode cc pc = .ok (.new ik, 3)) (d3 : decode cc (pc + 3) = .ok (.dup, 1)) (d4 : decode cc (pc + 4) = .ok (.ldc_w t.1, 3)) (d7 : decode cc (pc + 7) = .ok (.invokespecial q.1, 3)) (d10 : decode cc (pc + 10) = .ok (.athrow, 1))
    (hRf : 5 < R.frames) (hRl : (rest.map fun v => v.category).sum + 82 ≤ R.locals) (hRc : cells + 1 ≤ R.cells) (hRs : slots + 6 ≤ R.slots) (ho : o = .inl (q.2, σ)) (hc : cells + 1 ≤ mc) (hs : slots + 6 ≤ ms) : W p l e R s m args below meth c H locs cells slots (vx_MQ below Qc (XCo D A w o) args s mc ms A) (F0 m pc ls rest) := by
  have hq := xE4_in q hq4
  obtain ⟨sa, hstr⟩ := hX.2.1 t ht
  exact vx_throwSW (names := xNm) G.1 G.2.1 hT G.2.2.2.1 (xE_fit q hq) xNm_fit (G.2.2.2.2 _ hk) (G.2.2.2.2 _ hini) hstr (x_hat G hX.1 hq4) (x_good hq) hX.2.2.1 hX.2.2.2 hW.2.2 (hsz.trans G.2.2.1.symm) d0 d3 d4 d7 d10 (fun x hx => (htab x hx).elim) hRf hRl hRc hRs hlk (x_here hW ho) hW.2.2.2.2 hc hs
/-- throw new NoSuchElementException("text") -/
theorem kx_throwN {α : Type} {w : St → va_W} {σ : St} {o : XRg α} (G : CallFix p m c cc nL s args wA RX4) (hT : l.stackTraces = false) (hX : KX A s) (hW : KW D A s.heap (w σ) H locs) (htab : ∀ x ∈ c.exceptionTable.toList, False) (hlk : meth.locks = false) (hsz : ls.size = nL) {ik : Nat} (t : Nat × String) (ht : t ∈ xStr) (hk : Cond.classLink RX4 ik xNS ∈ wA) (hini : Cond.initialized xNS ∈ wA)
    (d0 : decode cc pc = .ok (.new ik, 3)) (d3 : decode cc (pc + 3) = .ok (.dup, 1)) (d4 : decode cc (pc + 4) = .ok (.ldc t.1, 2)) (d6 : decode cc (pc + 6) = .ok (.invokespecial 210, 3)) (d9 : decode cc (pc + 9) = .ok (.athrow, 1))
    (hRf : 5 < R.frames) (hRl : (rest.map fun v => v.category).sum + 82 ≤ R.locals) (hRc : cells + 1 ≤ R.cells) (hRs : slots + 6 ≤ R.slots) (ho : o = .inl (xNS, σ)) (hc : cells + 1 ≤ mc) (hs : slots + 6 ≤ ms) : W p l e R s m args below meth c H locs cells slots (vx_MQ below Qc (XCo D A w o) args s mc ms A) (F0 m pc ls rest) := by
  obtain ⟨sa, hstr⟩ := hX.2.1 t ht
  exact xn_throwS (Y1 := "java/lang/RuntimeException") (r := ["java/lang/Exception"]) (ix := 13) (rx := prog_21_method_4_code) G.1 G.2.1 hT xN_0 xN_1 xN_2 xN_5 G.2.2.2.1 (by decide +kernel) (by decide +kernel) (by decide +kernel) (G.2.2.2.2 _ hk) (G.2.2.2.2 _ hini) hstr (x_hatN G hX.1) x_goodN hX.2.2.1 hX.2.2.2 hW.2.2 (hsz.trans G.2.2.1.symm) d0 d3 d4 d6 d9 (fun x hx => (htab x hx).elim) hRf hRl hRc hRs hlk (x_here hW ho) hW.2.2.2.2 hc hs
/-- the ends of a body that may throw -/
theorem kx_iret {w : St → va_W} {σ : St} {o : XR} (G : CallFix p m c cc nL s args wA own) (hr : meth.sig.returnType = some .int) (hlk : meth.locks = false) (hW : KW D A s.heap (w σ) H locs) {v : Int32} (ho : o = .inr (v, σ)) (hc : cells ≤ mc) (hs : slots ≤ ms) (hdg : decode cc pc = .ok (.ireturn, 1)) : W p l e R s m args below meth c H locs cells slots (vx_MQ below (XQi D A w o) (XCo D A w o) args s mc ms A) (F0 m pc ls [.int v]) :=
  vx_ret (W.widen hc hs (W.iret G.1 G.2.1 hr (fun t ht hWm => ⟨⟨v, σ, rfl, ho, by rw [ht]; exact hW.1, hW.2.1⟩, hW.2.2.F ht⟩) hW.2.2.2.2 hdg hlk))
theorem kx_vret {w : St → va_W} {σ : St} {o : XR} (G : CallFix p m c cc nL s args wA own) (hr : meth.sig.returnType = none) (hlk : meth.locks = false) (hW : KW D A s.heap (w σ) H locs) (ho : o = .inr (0, σ)) (hc : cells ≤ mc) (hs : slots ≤ ms) (hdg : decode cc pc = .ok (.return_, 1)) : W p l e R s m args below meth c H locs cells slots (vx_MQ below (XQv D A w o) (XCo D A w o) args s mc ms A) (F0 m pc ls []) :=
  vx_ret (W.widen hc hs (W.vret G.1 G.2.1 hr (fun t ht hWm => ⟨⟨σ, rfl, ho, by rw [ht]; exact hW.1, hW.2.1⟩, hW.2.2.F ht⟩) hW.2.2.2.2 hdg hlk))
theorem kx_dret {w : St → va_W} {σ : St} {o : XRg UInt64} (G : CallFix p m c cc nL s args wA own) (hr : meth.sig.returnType = some .double) (hlk : meth.locks = false) (hW : KW D A s.heap (w σ) H locs) {v : UInt64} (ho : o = .inr (v, σ)) (hc : cells ≤ mc) (hs : slots ≤ ms) (hdg : decode cc pc = .ok (.dreturn, 1)) : W p l e R s m args below meth c H locs cells slots (vx_MQ below (XQd D A w o) (XCo D A w o) args s mc ms A) (F0 m pc ls [.double v]) :=
  vx_ret (W.widen hc hs (W.dret G.1 G.2.1 hr (fun t ht hWm => ⟨⟨v, σ, rfl, ho, by rw [ht]; exact hW.1, hW.2.1⟩, hW.2.2.F ht⟩) hW.2.2.2.2 hdg hlk))
theorem kx_fret {w : St → va_W} {σ : St} {o : XRg UInt32} (G : CallFix p m c cc nL s args wA own) (hr : meth.sig.returnType = some .float) (hlk : meth.locks = false) (hW : KW D A s.heap (w σ) H locs) {v : UInt32} (ho : o = .inr (v, σ)) (hc : cells ≤ mc) (hs : slots ≤ ms) (hdg : decode cc pc = .ok (.freturn, 1)) : W p l e R s m args below meth c H locs cells slots (vx_MQ below (XQf D A w o) (XCo D A w o) args s mc ms A) (F0 m pc ls [.float v]) :=
  vx_ret (W.widen hc hs (W.fret G.1 G.2.1 hr (fun t ht hWm => ⟨⟨v, σ, rfl, ho, by rw [ht]; exact hW.1, hW.2.1⟩, hW.2.2.F ht⟩) hW.2.2.2.2 hdg hlk))
/-- a call of a method that may throw, over the same world, in a method that catches nothing -/
theorem kxc_v {α : Type} {w : St → va_W} {σ : St} {o : XRg α} {y : MethodName} {bytes : ByteArray} {maxL n index mc1 ms1 : Nat} {ret : Option FieldType} {rm : Room} {C : String} {b : Nat} {As st0 : List Value} {f1 : Option XR} {K : Int32 → St → Option (XRg α)} (G : CallFix p m c cc nL s args wA own) (hK : KK D cy s) (hX : KX A s) (hA : ∀ q, s.heap.size ≤ q → A q) (hW : KW D A s.heap (w σ) H locs) (htab : ∀ x ∈ c.exceptionTable.toList, False) (hlk : meth.locks = false) (hf : bx f1 K = some o) (hM : ∀ z, f1 = some z → Xv l y (ws_ y bytes maxL ret) rm D cy w σ H.size (.ref b :: As) z mc1 ms1)
    (hG : GoodIn wA (wsV own index C y (ws_ y bytes maxL ret))) (hrm : rm.cells = mc1 ∧ rm.slots = ms1) (hd : y.cls = C ∧ y.cls ≠ "java/lang/invoke/MethodHandle" ∧ y.cls ≠ "java/lang/invoke/VarHandle" ∧ (parseMethodDescriptor y.desc).map (fun d => d.parameters.length) = some n) (hR : rm.frames + 1 ≤ R.frames ∧ 8 + (maxL + 11) + rm.locals ≤ R.locals) (hrecv : ∃ cell : Cell, H[b]? = some cell ∧ cell.vm.isStatics = false ∧ s.vm.findClass C = some cell.cls)
    (hn : As.length = n) (hsz : ls.size = nL) (hst : st0 = As.reverse ++ .ref b :: rest) (hroom : (rest.map fun v => v.category).sum ≤ 8) (hdg : decode cc pc = .ok (.invokevirtual index, 3)) (hcs : cells + mc1 ≤ R.cells ∧ slots + ms1 ≤ R.slots) (hc : cells + mc1 ≤ mc) (hs : slots + ms1 ≤ ms)
    (kk : ∀ (x : Int32) (u : St) (H1 : Heap) (locs1 : List Loc), K x u = some o → KW D A s.heap (w u) H1 locs1 → W p l e R s m args below meth c H1 locs1 (cells + mc1) (slots + ms1) (vx_MQ below Qc (XCo D A w o) args s mc ms A) (F0 m (pc + 3) ls rest)) : W p l e R s m args below meth c H locs cells slots (vx_MQ below Qc (XCo D A w o) args s mc ms A) (F0 m pc ls st0) := by
  subst hst
  obtain ⟨z, hz, hor⟩ := obx hf
  have hF : ∀ q, va_A (w σ) H.size q → A q := kfree (wr := []) (H := H) hA hW.2.1 hW.2.2
  refine vx_callv (vx_runV (As := As) (rest := rest) G (hM z hz) (cwV n G.2.2.2.2 hG rfl hrm.1 hrm.2 hd hR) ⟨fun a U g mk q => ?_, hrecv, fun U hU hWm => ?_⟩ rfl hn hsz rfl (lv_room hroom) hdg ⟨hcs.1, hcs.2⟩) hW.2.2 (fun q _ h => hF q h) hF (fun q _ h => hF q h) (fun E ce q9 u t H1 locs1 ht hvm _ hB hz1 hk1 hS1 hc1 hv1 hcl => ?_) (fun u t H1 locs1 ht hvm hw hB hz1 hk1 hS1 => ?_)
  · obtain ⟨q0, q1, qP, qK, qD, qX⟩ := q
    exact ⟨q0, q1, qP, ⟨va_K.moved (u := U) (U := U.calling g mk a) (Vm.Alike.refl U.vm) qK.1, qK.2.same rfl⟩, qD, qX.same rfl rfl⟩
  · exact ⟨rfl, by rw [hU], by rw [hU]; exact hW.1, hK.warm hWm, krightD (wr := []) hW.2.1, hX.go hW.2.2 hF hU hWm⟩
  · obtain ⟨hzE, hP1, hD1⟩ := hB
    rw [ht] at hP1
    rcases hor with ⟨e1, he1, ho⟩ | ⟨x, y1, he1, -⟩
    · rw [hzE] at he1
      cases he1
      obtain ⟨hP2, hD2⟩ := kj (wr := []) hW.1 hW.2.1 hk1 hF hP1 hD1
      refine vx_out (E := E) (fun x hx => (htab x hx).elim) hlk hc1 hv1 hcl (fun t2 ht2 hv2 => ⟨u, trivial, ⟨ho, by rw [ht2]; exact hP2, hD2⟩, hS1.F ht2⟩) hS1.2.2 hc hs
    · rw [hzE] at he1
      cases he1
  · obtain ⟨hP1, hD1⟩ := hB
    rw [ht] at hP1
    have hw : z = .inr (0, u) := hw
    rcases hor with ⟨e1, he1, -⟩ | ⟨x, y1, he1, hk9⟩
    · rw [hw] at he1
      cases he1
    · rw [hw] at he1
      cases he1
      obtain ⟨hP2, hD2⟩ := kj (wr := []) hW.1 hW.2.1 hk1 hF hP1 hD1
      exact kk 0 u H1 locs1 hk9 ⟨hP2, hD2, hS1⟩
/-- the same for a static method without a world -/
theorem kxc_s {α : Type} {w : St → va_W} {σ : St} {o : XRg α} {y : MethodName} {bytes : ByteArray} {maxL n index mc1 ms1 : Nat} {ret : Option FieldType} {rm : Room} {As st0 : List Value} {f1 : Option XR} {K : Int32 → St → Option (XRg α)} (G : CallFix p m c cc nL s args wA own) (hK : KK D cy s) (hX : KX A s) (hA : ∀ q, s.heap.size ≤ q → A q) (hW : KW D A s.heap (w σ) H locs) (htab : ∀ x ∈ c.exceptionTable.toList, False) (hlk : meth.locks = false) (hf : bx f1 K = some o) (hM : ∀ z, f1 = some z → Xv l y (ws_ y bytes maxL ret) rm D cy (fun _ => []) σ H.size As z mc1 ms1) (hu : ∀ z, f1 = some z → (∃ E, z = .inl (E, σ)) ∨ z = .inr (0, σ))
    (hG : GoodIn wA (va_wsS own index y (ws_ y bytes maxL ret))) (hrm : rm.cells = mc1 ∧ rm.slots = ms1) (hd : y.cls ≠ "java/lang/invoke/MethodHandle" ∧ y.cls ≠ "java/lang/invoke/VarHandle" ∧ (parseMethodDescriptor y.desc).map (fun d => d.parameters.length) = some n) (hR : rm.frames + 1 ≤ R.frames ∧ 8 + (maxL + 11) + rm.locals ≤ R.locals)
    (hn : As.length = n) (hsz : ls.size = nL) (hst : st0 = As.reverse ++ rest) (hroom : (rest.map fun v => v.category).sum ≤ 8) (hdg : decode cc pc = .ok (.invokestatic index, 3)) (hcs : cells + mc1 ≤ R.cells ∧ slots + ms1 ≤ R.slots) (hc : cells + mc1 ≤ mc) (hs : slots + ms1 ≤ ms)
    (kk : ∀ (x : Int32) (u : St) (H1 : Heap) (locs1 : List Loc), K x u = some o → KW D A s.heap (w u) H1 locs1 → W p l e R s m args below meth c H1 locs1 (cells + mc1) (slots + ms1) (vx_MQ below Qc (XCo D A w o) args s mc ms A) (F0 m (pc + 3) ls rest)) : W p l e R s m args below meth c H locs cells slots (vx_MQ below Qc (XCo D A w o) args s mc ms A) (F0 m pc ls st0) := by
  subst hst
  obtain ⟨z, hz, hor⟩ := obx hf
  have hF : ∀ q, va_A ([] : va_W) H.size q → A q := fun q h => by
    rcases h with ⟨k, e, h⟩ | h
    · simp at h
    · exact hA q (Nat.le_trans hW.2.2.1 h)
  have hP0 : va_P D vwCl (w σ ++ []) H := by rw [List.append_nil]; exact hW.1
  have hD0 : va_D A (w σ ++ []) := by rw [List.append_nil]; exact hW.2.1
  refine vx_callv (vx_runS (As := As) (rest := rest) G (hM z hz) (va_cwS n G.2.2.2.2 hG rfl hrm.1 hrm.2 hd hR) ⟨fun a U g mk q => ?_, fun U hU hWm => ?_⟩ rfl hn hsz rfl (lv_room hroom) hdg ⟨hcs.1, hcs.2⟩) hW.2.2 (fun q _ h => hF q h) hF (fun q _ h => hF q h) (fun E ce q9 u t H1 locs1 ht hvm _ hB hz1 hk1 hS1 hc1 hv1 hcl => ?_) (fun u t H1 locs1 ht hvm hw hB hz1 hk1 hS1 => ?_)
  · obtain ⟨q0, q1, qP, qK, qD, qX⟩ := q
    exact ⟨q0, q1, qP, ⟨va_K.moved (u := U) (U := U.calling g mk a) (Vm.Alike.refl U.vm) qK.1, qK.2.same rfl⟩, qD, qX.same rfl rfl⟩
  · exact ⟨rfl, by rw [hU], fun k q h => by simp at h, hK.warm hWm, ⟨fun i j p q h => by simp at h, fun k q h => by simp at h⟩, hX.go hW.2.2 hF hU hWm⟩
  · obtain ⟨hzE, hP1, hD1⟩ := hB
    rw [ht] at hP1
    obtain ⟨hP2, hD2⟩ := kj hP0 hD0 hk1 hF hP1 hD1
    rw [List.append_nil] at hP2 hD2
    rcases hor with ⟨e1, he1, ho⟩ | ⟨x, y1, he1, -⟩
    · rw [hzE] at he1
      cases he1
      rcases hu z hz with ⟨E2, hE2⟩ | hE2
      · rw [hzE] at hE2
        cases hE2
        refine vx_out (E := E) (fun x hx => (htab x hx).elim) hlk hc1 hv1 hcl (fun t2 ht2 hv2 => ⟨_, trivial, ⟨ho, by rw [ht2]; exact hP2, hD2⟩, hS1.F ht2⟩) hS1.2.2 hc hs
      · rw [hzE] at hE2
        cases hE2
    · rw [hzE] at he1
      cases he1
  · obtain ⟨hP1, hD1⟩ := hB
    rw [ht] at hP1
    have hw : z = .inr (0, u) := hw
    obtain ⟨hP2, hD2⟩ := kj hP0 hD0 hk1 hF hP1 hD1
    rw [List.append_nil] at hP2 hD2
    rcases hor with ⟨e1, he1, -⟩ | ⟨x, y1, he1, hk9⟩
    · rw [hw] at he1
      cases he1
    · rw [hw] at he1
      cases he1
      rcases hu z hz with ⟨E2, hE2⟩ | hE2
      · rw [hw] at hE2
        cases hE2
      · rw [hw] at hE2
        cases hE2
        exact kk 0 _ H1 locs1 hk9 ⟨hP2, hD2, hS1⟩
end KRX

