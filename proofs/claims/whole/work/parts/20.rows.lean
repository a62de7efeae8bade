/-! MY ROWS: one list of words for all methods; partial steps as Option; worlds of fixed shape; calls in one row -/
def wA : List Cond := wsL_law
theorem wA_good : wA.all goodWord = true := by decide +kernel
abbrev ws_ (y : MethodName) (b : ByteArray) (n : Nat) (r : Option FieldType) : List Cond := Cond.code y b n r :: wA
theorem gW {w : Cond} (h : w ∈ wA) : w ∈ wA ∧ ((w.onTables && w.keeps) = true ∨ ∃ ty, w = .arrayClass ty) := ⟨h, good_of_word (List.all_eq_true.mp wA_good w h)⟩
theorem gA {y : MethodName} {b : ByteArray} {n : Nat} {r : Option FieldType} (h : Cond.code y b n r ∈ wA) : GoodIn wA (ws_ y b n r) := fun w hw => gW ((List.mem_cons.mp hw).elim (fun e => e ▸ h) id)
theorem gV {own C : String} {idx : Nat} {y : MethodName} {b : ByteArray} {n : Nat} {r : Option FieldType} (h1 : Cond.methodLink own idx y ∈ wA) (h2 : Cond.instanceMethod y ∈ wA) (h3 : Cond.selects C y y ∈ wA) (h4 : Cond.initialized C ∈ wA) (h5 : Cond.code y b n r ∈ wA) : GoodIn wA (wsV own idx C y (ws_ y b n r)) := by
  intro w hw
  refine gW ?_
  rcases List.mem_append.mp hw with h | h
  · simp only [List.mem_cons, List.not_mem_nil, or_false] at h
    rcases h with rfl | rfl | rfl | rfl
    · exact h1
    · exact h2
    · exact h3
    · exact h4
  · exact (List.mem_cons.mp h).elim (fun e => e ▸ h5) id
theorem gS {own : String} {idx : Nat} {y : MethodName} {b : ByteArray} {n : Nat} {r : Option FieldType} (h1 : Cond.methodLink own idx y ∈ wA) (h2 : Cond.static y ∈ wA) (h4 : Cond.initialized y.cls ∈ wA) (h5 : Cond.code y b n r ∈ wA) : GoodIn wA (va_wsS own idx y (ws_ y b n r)) := by
  intro w hw
  refine gW ?_
  rcases List.mem_append.mp hw with h | h
  · simp only [List.mem_cons, List.not_mem_nil, or_false] at h
    rcases h with rfl | rfl | rfl
    · exact h1
    · exact h2
    · exact h4
  · exact (List.mem_cons.mp h).elim (fun e => e ▸ h5) id
/-- the links to private methods of nest mates -/
def kN (U : State) : Prop := va_Nw (.methodLinkNest RX4 9 yX0_init RX4) U ∧ va_Nw (.methodLinkNest RX0 11 yX3_init RX4) U ∧ va_Nw (.methodLinkNest RX0 20 yX2_init RX4) U ∧ va_Nw (.methodLinkNest RX0 27 yX1_init RX4) U ∧ va_Nw (.methodLinkNest RX3 31 yX4_lowestClear RX4) U ∧ va_Nw (.methodLinkNest RX3 24 yX4_blockMask RX4) U ∧ va_Nw (.methodLinkNest RX0 128 yX4_blockIndex RX4) U
theorem kN.warm {s U : State} (h : kN s) (hW : s.WarmedH U.vm) : kN U := ⟨va_Nw.warmM hW h.1, va_Nw.warmM hW h.2.1, va_Nw.warmM hW h.2.2.1, va_Nw.warmM hW h.2.2.2.1, va_Nw.warmM hW h.2.2.2.2.1, va_Nw.warmM hW h.2.2.2.2.2.1, va_Nw.warmM hW h.2.2.2.2.2.2⟩
theorem kN.same {s U : State} (h : kN s) (hW : s.vm = U.vm) : kN U := ⟨va_Nw.same rfl hW h.1, va_Nw.same rfl hW h.2.1, va_Nw.same rfl hW h.2.2.1, va_Nw.same rfl hW h.2.2.2.1, va_Nw.same rfl hW h.2.2.2.2.1, va_Nw.same rfl hW h.2.2.2.2.2.1, va_Nw.same rfl hW h.2.2.2.2.2.2⟩
def KK (D : va_G) (cy : ClassId) (U : State) : Prop := va_K D vwCl [(cy, .int)] U ∧ kN U
theorem KK.warm {D : va_G} {cy : ClassId} {s U : State} (h : KK D cy s) (hW : s.WarmedH U.vm) : KK D cy U := ⟨va_K.moved hW.alike h.1, h.2.warm hW⟩
/-- a world in the heap: held, apart, and nothing else changed since H0 -/
def KW (D : va_G) (A : Nat → Prop) (H0 : Heap) (w : va_W) (H : Heap) (locs : List Loc) : Prop := va_P D vwCl w H ∧ va_D A w ∧ va_S A H0 H locs
abbrev KP (D : va_G) (cy : ClassId) (w : va_W) (sz : Nat) (av : List Value) : Array Value → State → Prop := va_Pc av (fun U => U.heap.size = sz ∧ va_P D vwCl w U.heap ∧ KK D cy U ∧ va_D (fun _ => True) w)
abbrev KB (D : va_G) (A : Nat → Prop) (w : va_W) (t : State) : Prop := va_P D vwCl w t.heap ∧ va_D A w
/-- contracts: a method over a world that answers r, and one that answers nothing; a static one without a world -/
abbrev Mi (l : Launch) (y : MethodName) (ws : List Cond) (rm : Room) (D : va_G) (cy : ClassId) (w w' : va_W) (sz : Nat) (av : List Value) (r : Int32) : Prop := Met l y ws rm (KP D cy w sz av) (va_Qi (fun (r' : Int32) (_ : Unit) => r' = r) (fun _ => KB D (va_A w sz) w') (va_A w sz)) 0 0 (va_A w sz)
abbrev Md (l : Launch) (y : MethodName) (ws : List Cond) (rm : Room) (D : va_G) (cy : ClassId) (w w' : va_W) (sz : Nat) (av : List Value) (r : UInt64) : Prop := Met l y ws rm (KP D cy w sz av) (va_Qd (fun (r' : UInt64) (_ : Unit) => r' = r) (fun _ => KB D (va_A w sz) w') (va_A w sz)) 0 0 (va_A w sz)
abbrev Mf (l : Launch) (y : MethodName) (ws : List Cond) (rm : Room) (D : va_G) (cy : ClassId) (w w' : va_W) (sz : Nat) (av : List Value) (r : UInt32) : Prop := Met l y ws rm (KP D cy w sz av) (va_Qf (fun (r' : UInt32) (_ : Unit) => r' = r) (fun _ => KB D (va_A w sz) w') (va_A w sz)) 0 0 (va_A w sz)
abbrev Mv (l : Launch) (y : MethodName) (ws : List Cond) (rm : Room) (D : va_G) (cy : ClassId) (w w' : va_W) (sz : Nat) (av : List Value) : Prop := Met l y ws rm (KP D cy w sz av) (va_Qv (fun (_ : Unit) => True) (fun _ => KB D (va_A w sz) w') (va_A w sz)) 0 0 (va_A w sz)
abbrev Ms (l : Launch) (y : MethodName) (ws : List Cond) (rm : Room) (av : List Value) (r : Int32) : Prop := Met l y ws rm (va_Pc av (fun _ => True)) (va_Qi (fun (r' : Int32) (_ : Unit) => r' = r) (fun _ _ => True) (fun _ => False)) 0 0 (fun _ => False)
def k_D0 : va_G := (fun _ => 0, fun _ _ => 0)
theorem k_W0 {s : State} : KW k_D0 (fun _ => False) s.heap [] s.heap [] := ⟨fun k q h => by simp at h, ⟨fun i j p q h => by simp at h, fun k q h => by simp at h⟩, va_S.rf⟩
theorem wA_0 {w : Cond} (h : w ∈ (wsL_law0_r1 ++ (wsL_law0_r2 ++ (wsL_law0_r3 ++ (wsL_law0_r4 ++ (wsL_law0_r5 ++ (wsL_law0_r6 ++ (wsL_law0_r7 ++ (wsL_law0_r8 ++ (wsL_law0_r9 ++ (wsL_law0_r10 ++ (wsL_law0_r11 ++ (wsL_law0_r12 ++ (wsL_law0_r13 ++ (wsL_law0_r14 ++ (wsL_law0_r15 ++ (wsL_law0_r16 ++ (wsL_law0_r17 ++ (wsL_law0_r18 ++ (wsL_law0_r19 ++ (wsL_law0_r20 ++ (wsL_law0_r21 ++ (wsL_law0_r22 ++ (wsL_law0_r23 ++ (wsL_law0_r24 ++ (wsL_law0_r25 ++ (wsL_law0_r26 ++ (wsL_law0_r27 ++ (wsL_law0_r28 ++ (wsL_law0_r29 ++ (wsL_law0_r30 ++ (wsL_law0_r31 ++ (wsL_law0_r32 ++ (wsL_law0_r33 ++ (wsL_law0_r34 ++ wsL_law0_r35))))))))))))))))))))))))))))))))))) : w ∈ wA := by
  have h0 : w ∈ wsL_law0 := (List.mem_append_left _ (List.mem_append_left _ (List.mem_append_left _ (List.mem_append_left _ (List.mem_append_left _ (List.mem_append_left _ (List.mem_append_left _ h)))))))
  exact (List.mem_append_left _ (List.mem_append_left _ (List.mem_append_left _ (List.mem_append_left _ (List.mem_append_left _ (List.mem_append_left _ (List.mem_append_left _ h0)))))))
section KR
variable {p : Program} {l : Launch} {e : Env} {R : Room} {s : State} {m : MethodId} {args : Array Value} {below : List Frame} {meth : Method} {c : Code} {H : Heap} {locs : List Loc} {cells slots : Nat} {Q : State → Prop}
variable {cc : ByteArray} {nL pc : Nat} {ls : Array Slot} {rest : List Value} {D : va_G} {A : Nat → Prop} {a : Nat} {cy : ClassId} {ws : va_W} {H0 : Heap} {own : String}
/-- the rest beside a called method's world -/
theorem kj {wr w w1 : va_W} {H1 : Heap} (hP : va_P D vwCl (wr ++ w) H) (hD : va_D A (wr ++ w)) (hk : ∀ q : Nat, q < H.size → ¬ va_A w H.size q → H1[q]? = H[q]?) (hF : ∀ q, va_A w H.size q → A q) (hP1 : va_P D vwCl w1 H1) (hD1 : va_D (va_A w H.size) w1) : va_P D vwCl (wr ++ w1) H1 ∧ va_D A (wr ++ w1) := by
  have hL : ∀ (k : Nat) (q : Nat × va_E), wr[k]? = some q → k < wr.length ∧ (wr ++ w)[k]? = some q := by
    intro k q hq
    have h1 : k < wr.length := (List.getElem?_eq_some_iff.mp hq).1
    exact ⟨h1, by rw [List.getElem?_append_left h1]; exact hq⟩
  have apart : ∀ (k : Nat) (q : Nat × va_E), wr[k]? = some q → q.1 < H.size ∧ ¬ va_A w H.size q.1 := by
    intro k q hq
    obtain ⟨hk1, hk2⟩ := hL k q hq
    have hl := (hP k q hk2).lt
    refine ⟨hl, fun h => ?_⟩
    rcases h with ⟨k2, e, h⟩ | h
    · have h3 : (wr ++ w)[wr.length + k2]? = some (q.1, e) := by rw [List.getElem?_append_right (Nat.le_add_right _ _), Nat.add_sub_cancel_left]; exact h
      have := hD.1 k (wr.length + k2) q (q.1, e) hk2 h3 rfl
      omega
    · omega
  refine ⟨va_P.app (fun k q hq => ?_) hP1, va_D.app ⟨fun i j x y hi hj e => hD.1 i j x y (hL i x hi).2 (hL j y hj).2 e, fun k q h => hD.2 k q (hL k q h).2⟩ (hD1.weaken (fun k q _ h => hF q.1 h)) (fun i j x y hx hy hxy => ?_)⟩
  · obtain ⟨g1, g2⟩ := apart k q hq
    exact (hP k q (hL k q hq).2).kept (hk q.1 g1 g2)
  · exact (apart i x hx).2 (by rw [hxy]; exact hD1.2 j y hy)
theorem kfree {wr w : va_W} (hA : ∀ q, H0.size ≤ q → A q) (hD : va_D A (wr ++ w)) (hS : va_S A H0 H locs) : ∀ q, va_A w H.size q → A q := by
  intro q h
  rcases h with ⟨k, e, h⟩ | h
  · have h3 : (wr ++ w)[wr.length + k]? = some (q, e) := by rw [List.getElem?_append_right (Nat.le_add_right _ _), Nat.add_sub_cancel_left]; exact h
    exact hD.2 _ _ h3
  · exact hA q (Nat.le_trans hS.1 h)
theorem kright {wr w : va_W} (hP : va_P D vwCl (wr ++ w) H) : va_P D vwCl w H := fun k q h => hP (wr.length + k) q (by rw [List.getElem?_append_right (Nat.le_add_right _ _), Nat.add_sub_cancel_left]; exact h)
theorem krightD {wr w : va_W} (hD : va_D A (wr ++ w)) : va_D (fun _ => True) w := by
  refine ⟨fun i j x y hi hj e => ?_, fun _ _ _ => trivial⟩
  have h1 : (wr ++ w)[wr.length + i]? = some x := by rw [List.getElem?_append_right (Nat.le_add_right _ _), Nat.add_sub_cancel_left]; exact hi
  have h2 : (wr ++ w)[wr.length + j]? = some y := by rw [List.getElem?_append_right (Nat.le_add_right _ _), Nat.add_sub_cancel_left]; exact hj
  have := hD.1 _ _ x y h1 h2 e
  omega
/-- getfield -/
theorem k_get (G : CallFix p m c cc nL s args wA own) {C : String} {T : u_T} {N ci index : Nat} (hin : ∀ w ∈ u_ws C T N, w ∈ wA) (hK : KK D cy s) (hW : KW D A H0 ws H locs) (q0 : Nat) {fs : List Value} (he : ws[q0]? = some (a, .inr (ci, fs))) (hc : vwCl[ci]? = some (C, T, N)) (k : Nat) (hk : k < N) (hl : Cond.fieldLink own index (T k).1 (T k).2.1 (T k).2.2.1 ∈ wA) {v : Value} (hv : fs[k]? = some v) (hdg : decode cc pc = .ok (.getfield index, 3))
    (kk : W p l e R s m args below meth c H locs cells slots Q (F0 m (pc + 3) ls (v :: rest))) : W p l e R s m args below meth c H locs cells slots Q (F0 m pc ls (.ref a :: rest)) :=
  va_get G.1 G.2.1 G.2.2.2.2 hin G.2.2.2.1 hK.1 hW.1 q0 he hc k hk (G.2.2.2.2 _ hl) (fun _ h => h) hv hdg kk
/-- iaload -/
theorem k_ald (G : CallFix p m c cc nL s args wA own) (hK : KK D cy s) (hW : KW D A H0 ws H locs) (q0 : Nat) {n : Nat} {f : Nat → Int32} (ha : ws[q0]? = some (a, .inl (cy, n, .inl f))) {i x : Int32} (hin : rd f n i = some x) (hdg : decode cc pc = .ok (.iaload, 1))
    (kk : W p l e R s m args below meth c H locs cells slots Q (F0 m (pc + 1) ls (.int x :: rest))) : W p l e R s m args below meth c H locs cells slots Q (F0 m pc ls (.int i :: .ref a :: rest)) := by
  obtain ⟨h1, h2⟩ := rd_s hin
  subst h2
  exact va_iald G.1 G.2.1 hK.1 hW.1 q0 0 ha rfl (bnd_in h1) hdg kk
/-- iastore -/
theorem k_ast (G : CallFix p m c cc nL s args wA own) (hK : KK D cy s) {w : St → va_W} {σ σ1 : St} (hW : KW D A H0 (w σ) H locs) (q0 k N : Nat) (ha : (w σ)[q0]? = some (a, .inl (cy, N, .inl (σ k)))) (hset : ∀ v, (w σ).set q0 (a, .inl (cy, N, .inl v)) = w (va_up σ k v)) {i x : Int32} (e1 : wr σ k N i x = some σ1) (hdg : decode cc pc = .ok (.iastore, 1))
    (kk : ∀ (H1 : Heap) (locs1 : List Loc), KW D A H0 (w σ1) H1 locs1 → W p l e R s m args below meth c H1 locs1 cells slots Q (F0 m (pc + 1) ls rest)) : W p l e R s m args below meth c H locs cells slots Q (F0 m pc ls (.int x :: .int i :: .ref a :: rest)) := by
  obtain ⟨h1, h2⟩ := wr_s e1
  subst h2
  refine va_iast G.1 G.2.1 hK.1 hW.1 hW.2.1 hW.2.2 q0 0 ha rfl (bnd_in h1) hdg (fun H1 locs1 hP hD hS => ?_)
  rw [hset] at hP hD
  exact kk H1 locs1 ⟨hP, hD, hS⟩
/-- putfield of an int -/
theorem k_put (G : CallFix p m c cc nL s args wA own) {C : String} {T : u_T} {N ci index : Nat} (hin : ∀ w ∈ u_ws C T N, w ∈ wA) (ty0 : Nat → FieldType) (hty : ∀ k, k < N → parseFieldDescriptor (T k).2.2.1 = some (ty0 k)) (hnm : ∀ a, a < N → ∀ b, b < N → a ≠ b → (T a).2.1 ≠ (T b).2.1) (hK : KK D cy s) {w : St → va_W} {σ σ1 : St} (hW : KW D A H0 (w σ) H locs) (q0 k : Nat) {fs : List Value} (he : (w σ)[q0]? = some (a, .inr (ci, fs))) (hc : vwCl[ci]? = some (C, T, N)) (j : Nat) (hj : j < N) (hl : Cond.fieldLink own index (T j).1 (T j).2.1 (T j).2.2.1 ∈ wA) (hfin : (T j).2.2.2 = false) (hd : parseFieldDescriptor (T j).2.2.1 = some .int) (hlen : j < fs.length) {v : Int32} (hset : (w σ).set q0 (a, .inr (ci, fs.set j (.int v))) = w (va_up σ k (fun _ => v))) (e1 : wf σ k v = some σ1) (hdg : decode cc pc = .ok (.putfield index, 3))
    (kk : ∀ (H1 : Heap) (locs1 : List Loc), KW D A H0 (w σ1) H1 locs1 → W p l e R s m args below meth c H1 locs1 cells slots Q (F0 m (pc + 3) ls rest)) : W p l e R s m args below meth c H locs cells slots Q (F0 m pc ls (.int v :: .ref a :: rest)) := by
  cases e1
  refine va_put G.1 G.2.1 G.2.2.2.2 hin ty0 hty hnm G.2.2.2.1 hK.1 hW.1 hW.2.1 hW.2.2 q0 he hc j hj (G.2.2.2.2 _ hl) (fun _ h => h) hfin hd (vp_nar_int v) rfl hlen hdg (fun H1 locs1 hP hD hS => ?_)
  rw [hset] at hP hD
  exact kk H1 locs1 ⟨hP, hD, hS⟩
/-- putfield of a boolean -/
theorem k_putz (G : CallFix p m c cc nL s args wA own) {C : String} {T : u_T} {N ci index : Nat} (hin : ∀ w ∈ u_ws C T N, w ∈ wA) (ty0 : Nat → FieldType) (hty : ∀ k, k < N → parseFieldDescriptor (T k).2.2.1 = some (ty0 k)) (hnm : ∀ a, a < N → ∀ b, b < N → a ≠ b → (T a).2.1 ≠ (T b).2.1) (hK : KK D cy s) {w : St → va_W} {σ σ1 : St} (hW : KW D A H0 (w σ) H locs) (q0 k : Nat) {fs : List Value} (he : (w σ)[q0]? = some (a, .inr (ci, fs))) (hc : vwCl[ci]? = some (C, T, N)) (j : Nat) (hj : j < N) (hl : Cond.fieldLink own index (T j).1 (T j).2.1 (T j).2.2.1 ∈ wA) (hfin : (T j).2.2.2 = false) (hd : parseFieldDescriptor (T j).2.2.1 = some .boolean) (hlen : j < fs.length) {v : Int32} (hset : (w σ).set q0 (a, .inr (ci, fs.set j (.int v))) = w (va_up σ k (fun _ => v))) (e1 : wz σ k v = some σ1) (hdg : decode cc pc = .ok (.putfield index, 3))
    (kk : ∀ (H1 : Heap) (locs1 : List Loc), KW D A H0 (w σ1) H1 locs1 → W p l e R s m args below meth c H1 locs1 cells slots Q (F0 m (pc + 3) ls rest)) : W p l e R s m args below meth c H locs cells slots Q (F0 m pc ls (.int v :: .ref a :: rest)) := by
  obtain ⟨h1, h2⟩ := wz_s e1
  subst h2
  have hn : narrow .boolean (.int v) = .int v := by rcases h1 with rfl | rfl <;> rfl
  have hf : fits .boolean (.int v) = true := by rcases h1 with rfl | rfl <;> rfl
  refine va_put G.1 G.2.1 G.2.2.2.2 hin ty0 hty hnm G.2.2.2.1 hK.1 hW.1 hW.2.1 hW.2.2 q0 he hc j hj (G.2.2.2.2 _ hl) (fun _ h => h) hfin hd hn hf hlen hdg (fun H1 locs1 hP hD hS => ?_)
  rw [hset] at hP hD
  exact kk H1 locs1 ⟨hP, hD, hS⟩
/-- System.arraycopy of ints -/
theorem k_cpy (G : CallFix p m c cc nL s args wA own) (hK : KK D cy s) {w : St → va_W} {σ σ1 : St} (hW : KW D A H0 (w σ) H locs) (q0 q1 k N M : Nat) {a0 : Nat} {f : Nat → Int32} (ha0 : (w σ)[q0]? = some (a0, .inl (cy, M, .inl f))) (ha1 : (w σ)[q1]? = some (a, .inl (cy, N, .inl (σ k)))) (hset : ∀ v, (w σ).set q1 (a, .inl (cy, N, .inl v)) = w (va_up σ k v)) {index : Nat} (hlink : Cond.methodLink own index arraycopyName ∈ wA) (hnat : Cond.native arraycopyName ∈ wA) (hstat : Cond.static arraycopyName ∈ wA) (hini : Cond.initialized "java/lang/System" ∈ wA) {sp dp n : Int32} (e1 : ocp σ k N f M sp dp n = some σ1) (hsz : ls.size = nL) (hRf : 1 ≤ R.frames) (hRl : (rest.map fun v => v.category).sum + (nativeFrameWords "java/lang/System" "arraycopy" 5 + 11) ≤ R.locals) (hdg : decode cc pc = .ok (.invokestatic index, 3))
    (kk : ∀ (H1 : Heap) (locs1 : List Loc), KW D A H0 (w σ1) H1 locs1 → W p l e R s m args below meth c H1 locs1 cells slots Q (F0 m (pc + 3) ls rest)) : W p l e R s m args below meth c H locs cells slots Q (F0 m pc ls (.int n :: .int dp :: .ref a :: .int sp :: .ref a0 :: rest)) := by
  obtain ⟨⟨h1, h2, h3, h4, h5⟩, h6⟩ := ocp_s e1
  subst h6
  refine va_copyi G.1 G.2.1 (G.2.2.1.trans hsz.symm) G.2.2.2.1 (G.2.2.2.2 _ hlink) (G.2.2.2.2 _ hnat) (G.2.2.2.2 _ hstat) (G.2.2.2.2 _ hini) hK.1 hW.1 hW.2.1 hW.2.2 q0 q1 0 0 ha0 ha1 rfl rfl rfl h1 h2 h3 h4 h5 (fun _ _ => rfl) hRf hRl hdg (fun H1 locs1 hP hD hS => ?_)
  rw [hset] at hP hD
  exact kk H1 locs1 ⟨hP, hD, hS⟩
/-- invokevirtual of a method over the world w (the caller's world is wr ++ w) that answers an int -/
theorem kc_i {wr w w' : va_W} {y : MethodName} {bytes : ByteArray} {maxL n index : Nat} {ret : Option FieldType} {rm : Room} {C : String} {b : Nat} {As st0 : List Value} {r : Int32} (G : CallFix p m c cc nL s args wA own) (hK : KK D cy s) (hA : ∀ q, H0.size ≤ q → A q) (hW : KW D A H0 (wr ++ w) H locs) (hM : Mi l y (ws_ y bytes maxL ret) rm D cy w w' H.size (.ref b :: As) r)
    (hG : GoodIn wA (wsV own index C y (ws_ y bytes maxL ret))) (hrm : rm.cells = 0 ∧ rm.slots = 0) (hd : y.cls = C ∧ y.cls ≠ "java/lang/invoke/MethodHandle" ∧ y.cls ≠ "java/lang/invoke/VarHandle" ∧ (parseMethodDescriptor y.desc).map (fun d => d.parameters.length) = some n) (hR : rm.frames + 1 ≤ R.frames ∧ 8 + (maxL + 11) + rm.locals ≤ R.locals) (hrecv : ∃ cell : Cell, H[b]? = some cell ∧ cell.vm.isStatics = false ∧ s.vm.findClass C = some cell.cls)
    (hn : As.length = n) (hsz : ls.size = nL) (hst : st0 = As.reverse ++ .ref b :: rest) (hroom : (rest.map fun v => v.category).sum ≤ 8) (hdg : decode cc pc = .ok (.invokevirtual index, 3)) (hcs : cells ≤ R.cells ∧ slots ≤ R.slots)
    (kk : ∀ (H1 : Heap) (locs1 : List Loc), KW D A H0 (wr ++ w') H1 locs1 → W p l e R s m args below meth c H1 locs1 cells slots Q (F0 m (pc + 3) ls (.int r :: rest))) : W p l e R s m args below meth c H locs cells slots Q (F0 m pc ls st0) := by
  subst hst
  have hF := kfree (H := H) hA hW.2.1 hW.2.2
  refine va_calli (va_runV (As := As) (rest := rest) G hM (cwV n G.2.2.2.2 hG rfl hrm.1 hrm.2 hd hR) ⟨fun a U g mk q => ?_, hrecv, fun U hU hWm => ?_⟩ rfl hn hsz rfl (lv_room hroom) hdg ⟨hcs.1, hcs.2⟩) hW.2.2 (fun q _ h => hF q h) hF (fun r1 u t H1 locs1 ht hvm hw hB hz1 hk1 hS1 => ?_)
  · obtain ⟨q0, q1, qP, qK, qD⟩ := q
    exact ⟨q0, q1, qP, ⟨va_K.moved (u := U) (U := U.calling g mk a) (Vm.Alike.refl U.vm) qK.1, qK.2.same rfl⟩, qD⟩
  · exact ⟨rfl, by rw [hU], by rw [hU]; exact kright hW.1, hK.warm hWm, krightD hW.2.1⟩
  · obtain ⟨hP1, hD1⟩ := hB
    rw [ht] at hP1
    have hw : r1 = r := hw
    subst hw
    obtain ⟨hP2, hD2⟩ := kj hW.1 hW.2.1 hk1 hF hP1 hD1
    exact kk H1 locs1 ⟨hP2, hD2, hS1⟩
theorem kc_v {wr w w' : va_W} {y : MethodName} {bytes : ByteArray} {maxL n index : Nat} {ret : Option FieldType} {rm : Room} {C : String} {b : Nat} {As st0 : List Value} (G : CallFix p m c cc nL s args wA own) (hK : KK D cy s) (hA : ∀ q, H0.size ≤ q → A q) (hW : KW D A H0 (wr ++ w) H locs) (hM : Mv l y (ws_ y bytes maxL ret) rm D cy w w' H.size (.ref b :: As))
    (hG : GoodIn wA (wsV own index C y (ws_ y bytes maxL ret))) (hrm : rm.cells = 0 ∧ rm.slots = 0) (hd : y.cls = C ∧ y.cls ≠ "java/lang/invoke/MethodHandle" ∧ y.cls ≠ "java/lang/invoke/VarHandle" ∧ (parseMethodDescriptor y.desc).map (fun d => d.parameters.length) = some n) (hR : rm.frames + 1 ≤ R.frames ∧ 8 + (maxL + 11) + rm.locals ≤ R.locals) (hrecv : ∃ cell : Cell, H[b]? = some cell ∧ cell.vm.isStatics = false ∧ s.vm.findClass C = some cell.cls)
    (hn : As.length = n) (hsz : ls.size = nL) (hst : st0 = As.reverse ++ .ref b :: rest) (hroom : (rest.map fun v => v.category).sum ≤ 8) (hdg : decode cc pc = .ok (.invokevirtual index, 3)) (hcs : cells ≤ R.cells ∧ slots ≤ R.slots)
    (kk : ∀ (H1 : Heap) (locs1 : List Loc), KW D A H0 (wr ++ w') H1 locs1 → W p l e R s m args below meth c H1 locs1 cells slots Q (F0 m (pc + 3) ls rest)) : W p l e R s m args below meth c H locs cells slots Q (F0 m pc ls st0) := by
  subst hst
  have hF := kfree (H := H) hA hW.2.1 hW.2.2
  refine va_callv (va_runV (As := As) (rest := rest) G hM (cwV n G.2.2.2.2 hG rfl hrm.1 hrm.2 hd hR) ⟨fun a U g mk q => ?_, hrecv, fun U hU hWm => ?_⟩ rfl hn hsz rfl (lv_room hroom) hdg ⟨hcs.1, hcs.2⟩) hW.2.2 (fun q _ h => hF q h) hF (fun u t H1 locs1 ht hvm hw hB hz1 hk1 hS1 => ?_)
  · obtain ⟨q0, q1, qP, qK, qD⟩ := q
    exact ⟨q0, q1, qP, ⟨va_K.moved (u := U) (U := U.calling g mk a) (Vm.Alike.refl U.vm) qK.1, qK.2.same rfl⟩, qD⟩
  · exact ⟨rfl, by rw [hU], by rw [hU]; exact kright hW.1, hK.warm hWm, krightD hW.2.1⟩
  · obtain ⟨hP1, hD1⟩ := hB
    rw [ht] at hP1
    obtain ⟨hP2, hD2⟩ := kj hW.1 hW.2.1 hk1 hF hP1 hD1
    exact kk H1 locs1 ⟨hP2, hD2, hS1⟩
/-- invokestatic of a method without a world -/
theorem kc_s {y : MethodName} {bytes : ByteArray} {maxL n index : Nat} {ret : Option FieldType} {rm : Room} {As st0 : List Value} {r : Int32} (G : CallFix p m c cc nL s args wA own) (hW : KW D A H0 ws H locs) (hM : Ms l y (ws_ y bytes maxL ret) rm As r)
    (hG : GoodIn wA (va_wsS own index y (ws_ y bytes maxL ret))) (hrm : rm.cells = 0 ∧ rm.slots = 0) (hd : y.cls ≠ "java/lang/invoke/MethodHandle" ∧ y.cls ≠ "java/lang/invoke/VarHandle" ∧ (parseMethodDescriptor y.desc).map (fun d => d.parameters.length) = some n) (hR : rm.frames + 1 ≤ R.frames ∧ 8 + (maxL + 11) + rm.locals ≤ R.locals)
    (hn : As.length = n) (hsz : ls.size = nL) (hst : st0 = As.reverse ++ rest) (hroom : (rest.map fun v => v.category).sum ≤ 8) (hdg : decode cc pc = .ok (.invokestatic index, 3)) (hcs : cells ≤ R.cells ∧ slots ≤ R.slots)
    (kk : ∀ (H1 : Heap) (locs1 : List Loc), KW D A H0 ws H1 locs1 → W p l e R s m args below meth c H1 locs1 cells slots Q (F0 m (pc + 3) ls (.int r :: rest))) : W p l e R s m args below meth c H locs cells slots Q (F0 m pc ls st0) := by
  subst hst
  refine va_calli (va_runS (As := As) (rest := rest) G hM (va_cwS n G.2.2.2.2 hG rfl hrm.1 hrm.2 hd hR) ⟨fun a U g mk q => q, fun U hU hWm => ⟨rfl, trivial⟩⟩ rfl hn hsz rfl (lv_room hroom) hdg ⟨hcs.1, hcs.2⟩) hW.2.2 (fun q _ h => h.elim) (fun q h => h.elim) (fun r1 u t H1 locs1 ht hvm hw hB hz1 hk1 hS1 => ?_)
  have hw : r1 = r := hw
  subst hw
  exact kk H1 locs1 ⟨fun k q hq => (hW.1 k q hq).kept (hk1 q.1 (hW.1 k q hq).lt (fun h => h)), hW.2.1, hS1⟩
/-- invokestatic of a nest mate's private method without a world -/
theorem kc_sN {y : MethodName} {bytes : ByteArray} {maxL n index : Nat} {ret : Option FieldType} {rm : Room} {As st0 : List Value} {r : Int32} {host : String} (G : CallFix p m c cc nL s args wA own) (hW : KW D A H0 ws H locs) (hM : Ms l y (ws_ y bytes maxL ret) rm As r) (hNw : va_Nw (.methodLinkNest own index y host) s) (hst1 : Cond.static y ∈ wA) (hini : Cond.initialized y.cls ∈ wA)
    (hco : Cond.code y bytes maxL ret ∈ wA) (hrm : rm.cells = 0 ∧ rm.slots = 0) (hd : y.cls ≠ "java/lang/invoke/MethodHandle" ∧ y.cls ≠ "java/lang/invoke/VarHandle" ∧ (parseMethodDescriptor y.desc).map (fun d => d.parameters.length) = some n) (hR : rm.frames + 1 ≤ R.frames ∧ 8 + (maxL + 11) + rm.locals ≤ R.locals)
    (hn : As.length = n) (hsz : ls.size = nL) (hst : st0 = As.reverse ++ rest) (hroom : (rest.map fun v => v.category).sum ≤ 8) (hdg : decode cc pc = .ok (.invokestatic index, 3)) (hcs : cells ≤ R.cells ∧ slots ≤ R.slots)
    (kk : ∀ (H1 : Heap) (locs1 : List Loc), KW D A H0 ws H1 locs1 → W p l e R s m args below meth c H1 locs1 cells slots Q (F0 m (pc + 3) ls (.int r :: rest))) : W p l e R s m args below meth c H locs cells slots Q (F0 m pc ls st0) := by
  subst hst
  refine va_calli (va_runSN (As := As) (rest := rest) G hM ⟨va_cnB n G.2.2.2.2 (gA hco) rfl hrm.1 hrm.2 hNw (G.2.2.2.2 _ hini) hd hR, G.2.2.2.2 _ hst1, trivial⟩ ⟨fun a U g mk q => q, fun U hU hWm => ⟨rfl, trivial⟩⟩ rfl hn hsz rfl (lv_room hroom) hdg ⟨hcs.1, hcs.2⟩) hW.2.2 (fun q _ h => h.elim) (fun q h => h.elim) (fun r1 u t H1 locs1 ht hvm hw hB hz1 hk1 hS1 => ?_)
  have hw : r1 = r := hw
  subst hw
  exact kk H1 locs1 ⟨fun k q hq => (hW.1 k q hq).kept (hk1 q.1 (hW.1 k q hq).lt (fun h => h)), hW.2.1, hS1⟩
/-- the ends -/
theorem k_iret {w0 w1 : va_W} (G : CallFix p m c cc nL s args wA own) (hr : meth.sig.returnType = some .int) (hlk : meth.locks = false) (hK : KK D cy s) (hW : KW D (va_A w0 s.heap.size) s.heap w1 H locs) {v : Int32} (hdg : decode cc pc = .ok (.ireturn, 1)) : W p l e R s m args below meth c H locs 0 0 (MQ below (va_Qi (fun (r' : Int32) (_ : Unit) => r' = v) (fun _ => KB D (va_A w0 s.heap.size) w1) (va_A w0 s.heap.size)) args s 0 0 (va_A w0 s.heap.size)) (F0 m pc ls [.int v]) :=
  W.iret G.1 G.2.1 hr (fun t ht hWm => ⟨⟨v, (), rfl, rfl, by rw [ht]; exact hW.1, hW.2.1⟩, hW.2.2.F ht⟩) hW.2.2.2.2 hdg hlk
theorem k_dret {w0 w1 : va_W} (G : CallFix p m c cc nL s args wA own) (hr : meth.sig.returnType = some .double) (hlk : meth.locks = false) (hK : KK D cy s) (hW : KW D (va_A w0 s.heap.size) s.heap w1 H locs) {v : UInt64} (hdg : decode cc pc = .ok (.dreturn, 1)) : W p l e R s m args below meth c H locs 0 0 (MQ below (va_Qd (fun (r' : UInt64) (_ : Unit) => r' = v) (fun _ => KB D (va_A w0 s.heap.size) w1) (va_A w0 s.heap.size)) args s 0 0 (va_A w0 s.heap.size)) (F0 m pc ls [.double v]) :=
  W.dret G.1 G.2.1 hr (fun t ht hWm => ⟨⟨v, (), rfl, rfl, by rw [ht]; exact hW.1, hW.2.1⟩, hW.2.2.F ht⟩) hW.2.2.2.2 hdg hlk
theorem k_fret {w0 w1 : va_W} (G : CallFix p m c cc nL s args wA own) (hr : meth.sig.returnType = some .float) (hlk : meth.locks = false) (hK : KK D cy s) (hW : KW D (va_A w0 s.heap.size) s.heap w1 H locs) {v : UInt32} (hdg : decode cc pc = .ok (.freturn, 1)) : W p l e R s m args below meth c H locs 0 0 (MQ below (va_Qf (fun (r' : UInt32) (_ : Unit) => r' = v) (fun _ => KB D (va_A w0 s.heap.size) w1) (va_A w0 s.heap.size)) args s 0 0 (va_A w0 s.heap.size)) (F0 m pc ls [.float v]) :=
  W.fret G.1 G.2.1 hr (fun t ht hWm => ⟨⟨v, (), rfl, rfl, by rw [ht]; exact hW.1, hW.2.1⟩, hW.2.2.F ht⟩) hW.2.2.2.2 hdg hlk
theorem k_zret {w0 w1 : va_W} {ty : FieldType} (G : CallFix p m c cc nL s args wA own) (hr : meth.sig.returnType = some ty) (hlk : meth.locks = false) (hK : KK D cy s) (hW : KW D (va_A w0 s.heap.size) s.heap w1 H locs) {v : Int32} (hn : narrow ty (.int v) = .int v) (hdg : decode cc pc = .ok (.ireturn, 1)) : W p l e R s m args below meth c H locs 0 0 (MQ below (va_Qi (fun (r' : Int32) (_ : Unit) => r' = v) (fun _ => KB D (va_A w0 s.heap.size) w1) (va_A w0 s.heap.size)) args s 0 0 (va_A w0 s.heap.size)) (F0 m pc ls [.int v]) :=
  W.zret G.1 G.2.1 hr hn (fun t ht hWm => ⟨⟨v, (), rfl, rfl, by rw [ht]; exact hW.1, hW.2.1⟩, hW.2.2.F ht⟩) hW.2.2.2.2 hdg hlk
theorem k_vret {w0 w1 : va_W} (G : CallFix p m c cc nL s args wA own) (hr : meth.sig.returnType = none) (hlk : meth.locks = false) (hK : KK D cy s) (hW : KW D (va_A w0 s.heap.size) s.heap w1 H locs) (hdg : decode cc pc = .ok (.return_, 1)) : W p l e R s m args below meth c H locs 0 0 (MQ below (va_Qv (fun (_ : Unit) => True) (fun _ => KB D (va_A w0 s.heap.size) w1) (va_A w0 s.heap.size)) args s 0 0 (va_A w0 s.heap.size)) (F0 m pc ls []) :=
  W.vret G.1 G.2.1 hr (fun t ht hWm => ⟨⟨(), rfl, trivial, by rw [ht]; exact hW.1, hW.2.1⟩, hW.2.2.F ht⟩) hW.2.2.2.2 hdg hlk
theorem k_siret (G : CallFix p m c cc nL s args wA own) (hr : meth.sig.returnType = some .int) (hlk : meth.locks = false) (hS : va_S (fun _ => False) s.heap H locs) {v : Int32} (hdg : decode cc pc = .ok (.ireturn, 1)) : W p l e R s m args below meth c H locs 0 0 (MQ below (va_Qi (fun (r' : Int32) (_ : Unit) => r' = v) (fun _ _ => True) (fun _ => False)) args s 0 0 (fun _ => False)) (F0 m pc ls [.int v]) :=
  W.iret G.1 G.2.1 hr (fun t ht hWm => ⟨⟨v, (), rfl, rfl, trivial⟩, hS.F ht⟩) hS.2.2 hdg hlk
theorem k_szret {ty : FieldType} (G : CallFix p m c cc nL s args wA own) (hr : meth.sig.returnType = some ty) (hlk : meth.locks = false) (hS : va_S (fun _ => False) s.heap H locs) {v : Int32} (hn : narrow ty (.int v) = .int v) (hdg : decode cc pc = .ok (.ireturn, 1)) : W p l e R s m args below meth c H locs 0 0 (MQ below (va_Qi (fun (r' : Int32) (_ : Unit) => r' = v) (fun _ _ => True) (fun _ => False)) args s 0 0 (fun _ => False)) (F0 m pc ls [.int v]) :=
  W.zret G.1 G.2.1 hr hn (fun t ht hWm => ⟨⟨v, (), rfl, rfl, trivial⟩, hS.F ht⟩) hS.2.2 hdg hlk
end KR
