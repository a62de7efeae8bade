theorem tb_nest : ∀ w ∈ ([Cond.methodLinkNest RX4 9 yX0_init RX4, Cond.methodLinkNest RX0 11 yX3_init RX4, Cond.methodLinkNest RX0 20 yX2_init RX4, Cond.methodLinkNest RX0 27 yX1_init RX4, Cond.methodLinkNest RX3 31 yX4_lowestClear RX4, Cond.methodLinkNest RX3 24 yX4_blockMask RX4, Cond.methodLinkNest RX0 128 yX4_blockIndex RX4] : List Cond), w ∈ lw_tbl := by decide +kernel
theorem tb_decl : ∀ w ∈ ([Cond.declares (Bundle.initS "java/lang/RuntimeException"), Cond.declares (Bundle.initS "java/lang/Exception"), Cond.declares (Bundle.initS Bundle.tN)] : List Cond), w ∈ lw_tbl := by decide +kernel
theorem tb_zq : ∀ w ∈ ([Cond.laysStatic Bundle.tN "UNASSIGNED_STACK" Bundle.steD, Cond.laysStatic Bundle.tN "SUPPRESSED_SENTINEL" Bundle.listD, Cond.initialized Bundle.tN] : List Cond), w ∈ lw_tbl := by decide +kernel
theorem tb_arr : ∀ w ∈ ([Cond.arrayClass .int, Cond.arrayClass .long, Cond.arrayClass .double] : List Cond), w ∈ lw_tbl := by decide +kernel
theorem tb_inst : ∀ w ∈ ([Cond.instantiable RJ0 4, Cond.instantiable RJx00060 6, Cond.instantiable RX0 9, Cond.instantiable RX1 5, Cond.instantiable RX2 13, Cond.instantiable RX3 4, Cond.instantiable RX4 4, Cond.instantiable RX5 7] : List Cond), w ∈ lw_tbl := by decide +kernel
theorem nr_zq : ∀ w ∈ ([Cond.isRef (.static Bundle.tN "UNASSIGNED_STACK" Bundle.steD), Cond.isRef (.static Bundle.tN "SUPPRESSED_SENTINEL" Bundle.listD)] : List Cond), w ∈ flatC (Jvm.Cond.and given_1 narrow_1) := by decide +kernel
theorem nr_nc : ∀ w ∈ ([Cond.not (.castable xIS xIA), Cond.not (.castable xIS xIO), Cond.not (.castable xIA xIO), Cond.not (.castable xNS xIA)] : List Cond), w ∈ flatC (Jvm.Cond.and given_1 narrow_1) := by decide +kernel
theorem tb_cast : ∀ q ∈ xE, Cond.castable q.2 q.2 ∈ lw_tbl := by decide +kernel
theorem tb_str : ∀ q ∈ xStr, Cond.stringRef RX4 q.1 q.2 ∈ lw_tbl := by decide +kernel
theorem nr_str : ∀ q ∈ xStr, Cond.exactly (.string RX4 q.1) "java/lang/String" ∈ flatC (Jvm.Cond.and given_1 narrow_1) := by decide +kernel
theorem inJx00060 : ∀ w ∈ wsJx000600, w ∈ lw_tbl := by decide +kernel
theorem inJ0 : ∀ w ∈ wsJ00, w ∈ lw_tbl := by decide +kernel
theorem k_stk {l : Launch} (h : l.flags = flags0) : l.stackTraces = false := by
  unfold Launch.stackTraces
  rw [h]
  decide +kernel
theorem k_arr {s : State} {args : Array Value} {ty : FieldType} (h : (Cond.arrayClass ty).before args s = true) : ∃ c, ArrOfT s c ty ∧ s.vm.findClass ("[" ++ ty.toString) = some c := by
  obtain ⟨c, k, comp, h1, h2, h3⟩ := Cond.arrayClass_spec h
  exact ⟨c, fun n z => ⟨fun q h => (by cases h), k, h2, comp, h3⟩, h1⟩
section KRS
variable {p : Program} {l : Launch} {e : Env} {R : Room} {s : State} {m : MethodId} {args : Array Value} {below : List Frame} {meth : Method} {c : Code} {H : Heap} {locs : List Loc} {cells slots : Nat} {Q : State → Prop}
variable {cc : ByteArray} {nL pc : Nat} {ls : Array Slot} {rest : List Value} {D : va_G} {A : Nat → Prop} {a : Nat} {cy cl cd : ClassId} {ws : va_W} {H0 : Heap} {own : String}
theorem kc_I {S : Type} {post : S → Prop} {Bw : S → va_W} {wr w : va_W} {y : MethodName} {bytes : ByteArray} {maxL n index mc1 ms1 : Nat} {rm : Room} {b : Nat} {As st0 : List Value} (G : CallFix p m c cc nL s args wA own) (hK : KK D cy s) (hA : ∀ q, H0.size ≤ q → A q) (hW : KW D A H0 (wr ++ w) H locs) (hM : Met l y (ws_ y bytes maxL none) rm (KP D cy w H.size (.ref b :: As)) (va_Qv post (fun u => KB D (va_A w H.size) (Bw u)) (va_A w H.size)) mc1 ms1 (va_A w H.size))
    (hlk : Cond.methodLink own index y ∈ wA) (hst1 : Cond.instanceMethod y ∈ wA) (hini : Cond.initialized y.cls ∈ wA) (hco : Cond.code y bytes maxL none ∈ wA) (hrm : rm.cells = mc1 ∧ rm.slots = ms1) (hd : y.name = "<init>" ∧ y.cls ≠ "java/lang/invoke/MethodHandle" ∧ y.cls ≠ "java/lang/invoke/VarHandle" ∧ (parseMethodDescriptor y.desc).map (fun d => d.parameters.length) = some n) (hR : rm.frames + 1 ≤ R.frames ∧ 8 + (maxL + 11) + rm.locals ≤ R.locals)
    (hn : As.length = n) (hsz : ls.size = nL) (hst : st0 = As.reverse ++ .ref b :: rest) (hroom : (rest.map fun v => v.category).sum ≤ 8) (hdg : decode cc pc = .ok (.invokespecial index, 3)) (hcs : cells + mc1 ≤ R.cells ∧ slots + ms1 ≤ R.slots)
    (kk : ∀ (u : S) (H1 : Heap) (locs1 : List Loc), post u → KW D A H0 (wr ++ Bw u) H1 locs1 → W p l e R s m args below meth c H1 locs1 (cells + mc1) (slots + ms1) Q (F0 m (pc + 3) ls rest)) : W p l e R s m args below meth c H locs cells slots Q (F0 m pc ls st0) := by
  subst hst
  have hF := kfree (H := H) hA hW.2.1 hW.2.2
  refine va_callv (va_runI (As := As) (rest := rest) G hM (cwI n G.2.2.2.2 (gA hco) rfl hrm.1 hrm.2 (G.2.2.2.2 _ hini) (G.2.2.2.2 _ hlk) (G.2.2.2.2 _ hst1) hd.1 hd.2 hR) ⟨fun a U g mk q => ?_, fun U hU hWm => ?_⟩ rfl hn hsz rfl (lv_room hroom) hdg ⟨hcs.1, hcs.2⟩) hW.2.2 (fun q _ h => hF q h) hF (fun u t H1 locs1 ht hvm hw hB hz1 hk1 hS1 => ?_)
  · obtain ⟨q0, q1, qP, qK, qD⟩ := q
    exact ⟨q0, q1, qP, ⟨va_K.moved (u := U) (U := U.calling g mk a) (Vm.Alike.refl U.vm) qK.1, qK.2.same rfl⟩, qD⟩
  · exact ⟨rfl, by rw [hU], by rw [hU]; exact kright hW.1, hK.warm hWm, krightD hW.2.1⟩
  · obtain ⟨hP1, hD1⟩ := hB
    rw [ht] at hP1
    obtain ⟨hP2, hD2⟩ := kj hW.1 hW.2.1 hk1 hF hP1 hD1
    exact kk u H1 locs1 hw ⟨hP2, hD2, hS1⟩
theorem k_newl (G : CallFix p m c cc nL s args wA own) (hKL : KL D cy cl cd s) (hA : ∀ q, H0.size ≤ q → A q) (hW : KW D A H0 ws H locs) (harr : Cond.arrayClass .long ∈ wA) (hcells : cells + 1 ≤ R.cells) (hslots : slots + 1 ≤ R.slots) (hdg : decode cc pc = .ok (.newarray .long, 2))
    (kk : ∀ (q : Nat) (H1 : Heap), KW D A H0 (ws ++ [(q, .inl (cl, 1, .inr (.inl (fun _ => 0))))]) H1 locs → W p l e R s m args below meth c H1 locs (cells + 1) (slots + 1) Q (F0 m (pc + 2) ls (.ref q :: rest))) : W p l e R s m args below meth c H locs cells slots Q (F0 m pc ls (.int 1 :: rest)) := by
  refine va_newa (atype := .long) (ty := .long) (N' := 1) (a0 := (1, .inr (.inl (fun _ => 0)))) G.1 G.2.1 (G.2.2.2.2 _ harr) rfl hKL.1 hW.1 hW.2.1 hW.2.2 hA (fun _ => rfl) (by decide) rfl (by decide) hcells hslots hdg (fun q cA H1 hK2 hP hD hS => ?_)
  have e1 : va_RA s cl .long := (hKL.1.2 1 _ rfl).2
  have e2 : va_RA s cA .long := (hK2.2 3 _ rfl).2
  have e3 : cl = cA := Option.some.inj (Eq.trans (Eq.symm e1) e2)
  subst e3
  exact kk q H1 ⟨hP, hD, hS⟩
theorem k_newd (G : CallFix p m c cc nL s args wA own) (hKL : KL D cy cl cd s) (hA : ∀ q, H0.size ≤ q → A q) (hW : KW D A H0 ws H locs) (harr : Cond.arrayClass .double ∈ wA) (hcells : cells + 1 ≤ R.cells) (hslots : slots + 1 ≤ R.slots) (hdg : decode cc pc = .ok (.newarray .double, 2))
    (kk : ∀ (q : Nat) (H1 : Heap), KW D A H0 (ws ++ [(q, .inl (cd, 1, .inr (.inr (.inr (.inl (fun _ => 0))))))]) H1 locs → W p l e R s m args below meth c H1 locs (cells + 1) (slots + 1) Q (F0 m (pc + 2) ls (.ref q :: rest))) : W p l e R s m args below meth c H locs cells slots Q (F0 m pc ls (.int 1 :: rest)) := by
  refine va_newa (atype := .double) (ty := .double) (N' := 1) (a0 := (1, .inr (.inr (.inr (.inl (fun _ => 0)))))) G.1 G.2.1 (G.2.2.2.2 _ harr) rfl hKL.1 hW.1 hW.2.1 hW.2.2 hA (fun _ => rfl) (by decide) rfl (by decide) hcells hslots hdg (fun q cA H1 hK2 hP hD hS => ?_)
  have e1 : va_RA s cd .double := (hKL.1.2 2 _ rfl).2
  have e2 : va_RA s cA .double := (hK2.2 3 _ rfl).2
  have e3 : cd = cA := Option.some.inj (Eq.trans (Eq.symm e1) e2)
  subst e3
  exact kk q H1 ⟨hP, hD, hS⟩
end KRS
set_option maxHeartbeats 4000000 in
set_option maxRecDepth 100000 in
theorem whole_open {p : Program} {e : Env} {s : State} {m : MethodId} {below : List Frame} {meth : Method} {c : Code} (l : Launch) (hflags : l.flags = flags0) {b L : Nat} {xs : Nat → Int32} (hL : L ≤ 2560) (C0 : lw_At p s m meth c b L xs) (n : Nat) (INV : Nat → St → St → St → Prop) (OK : LawOK n INV) (hI0 : INV 0 sZ sZ sZ) : W p l e room_1 s m #[Value.ref b] below meth c s.heap [] 0 0 (lw_Z below #[Value.ref b] s) (entryFrame m ([Value.ref b] : List Value).toArray 9) := by
  obtain ⟨hx, hb, hr, hml, hown, hts0, hXs, hbl, hlocks, hgv⟩ := id C0
  have hT := k_stk hflags
  have hfl := flat_of_before _ hgv
  have G : CallFix p m c cL_law 9 s #[Value.ref b] wA RL := ⟨hx, hb, hml, hown, fun w hw => hts0 w (wsL_law_in w hw)⟩
  obtain ⟨cy, hcy1, hcy2⟩ := k_arr (ty := .int) (hts0 _ (tb_arr _ (List.mem_of_getElem? (i := 0) rfl)))
  obtain ⟨cl, hcl1, hcl2⟩ := k_arr (ty := .long) (hts0 _ (tb_arr _ (List.mem_of_getElem? (i := 1) rfl)))
  obtain ⟨cd, hcd1, hcd2⟩ := k_arr (ty := .double) (hts0 _ (tb_arr _ (List.mem_of_getElem? (i := 2) rfl)))
  obtain ⟨c0, i0, k0⟩ := u_known (C := RJ0) (T := TJ0) (N := 2) (n := 4) hts0 inJ0 (hts0 _ (tb_inst _ (List.mem_of_getElem? (i := 0) rfl)))
  obtain ⟨c1, i1, k1⟩ := u_known (C := RJx00060) (T := TJx00060) (N := 6) (n := 6) hts0 inJx00060 (hts0 _ (tb_inst _ (List.mem_of_getElem? (i := 1) rfl)))
  obtain ⟨c2, i2, k2⟩ := u_known (C := RX0) (T := TX0) (N := 9) (n := 9) hts0 (fun w h => wsL_law_in w (inlX0 w h)) (hts0 _ (tb_inst _ (List.mem_of_getElem? (i := 2) rfl)))
  obtain ⟨c3, i3, k3⟩ := u_known (C := RX1) (T := TX1) (N := 5) (n := 5) hts0 (fun w h => wsL_law_in w (inlX1 w h)) (hts0 _ (tb_inst _ (List.mem_of_getElem? (i := 3) rfl)))
  obtain ⟨c4, i4, k4⟩ := u_known (C := RX2) (T := TX2) (N := 13) (n := 13) hts0 (fun w h => wsL_law_in w (inlX2 w h)) (hts0 _ (tb_inst _ (List.mem_of_getElem? (i := 4) rfl)))
  obtain ⟨c5, i5, k5⟩ := u_known (C := RX3) (T := TX3) (N := 4) (n := 4) hts0 (fun w h => wsL_law_in w (inlX3 w h)) (hts0 _ (tb_inst _ (List.mem_of_getElem? (i := 5) rfl)))
  obtain ⟨c6, i6, k6⟩ := u_known (C := RX4) (T := TX4) (N := 4) (n := 4) hts0 (fun w h => wsL_law_in w (inlX4 w h)) (hts0 _ (tb_inst _ (List.mem_of_getElem? (i := 6) rfl)))
  obtain ⟨c7, i7, k7⟩ := u_known (C := RX5) (T := TX5) (N := 7) (n := 7) hts0 (fun w h => wsL_law_in w (inlX5 w h)) (hts0 _ (tb_inst _ (List.mem_of_getElem? (i := 7) rfl)))
  obtain ⟨D, hKc⟩ : ∃ D : va_G, ∀ (k : Nat) (q : vw_C), vwCl[k]? = some q → u_Kn s q.1 q.2.1 q.2.2 (D.1 k) (D.2 k) := by
    refine ⟨(fun k => if k = 0 then c0 else if k = 1 then c1 else if k = 2 then c2 else if k = 3 then c3 else if k = 4 then c4 else if k = 5 then c5 else if k = 6 then c6 else c7, fun k => if k = 0 then i0 else if k = 1 then i1 else if k = 2 then i2 else if k = 3 then i3 else if k = 4 then i4 else if k = 5 then i5 else if k = 6 then i6 else i7), ?_⟩
    intro k q hq
    match k, hq with
    | 0, hq => cases hq; exact k0
    | 1, hq => cases hq; exact k1
    | 2, hq => cases hq; exact k2
    | 3, hq => cases hq; exact k3
    | 4, hq => cases hq; exact k4
    | 5, hq => cases hq; exact k5
    | 6, hq => cases hq; exact k6
    | 7, hq => cases hq; exact k7
    | k + 8, hq => simp [vwCl] at hq
  have hKL : KL D cy cl cd s := by
    refine ⟨⟨hKc, fun k q h => ?_⟩, ⟨va_Nw.of rfl (hts0 _ (tb_nest _ (List.mem_of_getElem? (i := 0) rfl))), va_Nw.of rfl (hts0 _ (tb_nest _ (List.mem_of_getElem? (i := 1) rfl))), va_Nw.of rfl (hts0 _ (tb_nest _ (List.mem_of_getElem? (i := 2) rfl))), va_Nw.of rfl (hts0 _ (tb_nest _ (List.mem_of_getElem? (i := 3) rfl))), va_Nw.of rfl (hts0 _ (tb_nest _ (List.mem_of_getElem? (i := 4) rfl))), va_Nw.of rfl (hts0 _ (tb_nest _ (List.mem_of_getElem? (i := 5) rfl))), va_Nw.of rfl (hts0 _ (tb_nest _ (List.mem_of_getElem? (i := 6) rfl)))⟩, ⟨va_Nc.of (hfl _ (nr_nc _ (List.mem_of_getElem? (i := 0) rfl))), va_Nc.of (hfl _ (nr_nc _ (List.mem_of_getElem? (i := 1) rfl))), va_Nc.of (hfl _ (nr_nc _ (List.mem_of_getElem? (i := 2) rfl))), va_Nc.of (hfl _ (nr_nc _ (List.mem_of_getElem? (i := 3) rfl)))⟩⟩
    match k, h with
    | 0, h => cases h; exact ⟨hcy1, hcy2⟩
    | 1, h => cases h; exact ⟨hcl1, hcl2⟩
    | 2, h => cases h; exact ⟨hcd1, hcd2⟩
    | k + 3, h => simp at h
  have hX : KX (kA s) s := by
    refine ⟨⟨fun q hq => va_Nw.of rfl (hts0 _ (tb_cast q hq)), va_Nw.of rfl (hts0 _ (tb_decl _ (List.mem_of_getElem? (i := 0) rfl))), va_Nw.of rfl (hts0 _ (tb_decl _ (List.mem_of_getElem? (i := 1) rfl))), va_Nw.of rfl (hts0 _ (tb_decl _ (List.mem_of_getElem? (i := 2) rfl)))⟩, fun q hq => ?_, vx_Zqof (hts0 _ (tb_zq _ (List.mem_of_getElem? (i := 0) rfl))) (hts0 _ (tb_zq _ (List.mem_of_getElem? (i := 2) rfl))) (hfl _ (nr_zq _ (List.mem_of_getElem? (i := 0) rfl))) (fun a h => Nat.not_le.mpr h), vx_Zqof (hts0 _ (tb_zq _ (List.mem_of_getElem? (i := 1) rfl))) (hts0 _ (tb_zq _ (List.mem_of_getElem? (i := 2) rfl))) (hfl _ (nr_zq _ (List.mem_of_getElem? (i := 1) rfl))) (fun a h => Nat.not_le.mpr h)⟩
    obtain ⟨a, -, -, -, ha, -⟩ := Cond.exactly_spec (hfl _ (nr_str q hq))
    exact ⟨a, vk_R.of (hts0 _ (tb_str q hq)) ha⟩
  have hK := hKL.KK
  have hA : ∀ q : Nat, s.heap.size ≤ q → kA s q := fun _ h => h
  have hW : KW D (kA s) s.heap [] s.heap [] := ⟨fun k q h => by simp at h, ⟨fun i j p q h => by simp at h, fun k q h => by simp at h⟩, va_S.rf⟩
  have hl := lv_entry ([.ref b]) (n := 9) (Nat.le_of_ble_eq_true rfl)
  rw [lg_entry_eq]
  generalize (lg_sl ([.ref b]) ++ List.replicate (9 - (lg_sl ([.ref b])).length) Slot.unset).toArray = ls at hl ⊢
  have hl : lv_has ls 9 [(0, .ref b)] := hl
  refine va_new (ci := 6) (fs := [.null, .null, .int 0, .int 0]) (C := RX4) (T := TX4) (N := 4) G.1 G.2.1 G.2.2.2.2 inlX4 tyX4 tyX4_ok G.2.2.2.1 (G.2.2.2.2 _ q_1_0) (G.2.2.2.2 _ q_1_1) (G.2.2.2.2 _ q_1_2) hK.1 hW.1 hW.2.1 hW.2.2 hA rfl k_defX4 (Nat.le_of_ble_eq_true rfl) (Nat.le_of_ble_eq_true rfl) dL_law_0 (fun qx H hP hD hS => ?_)
  refine lv_dup G.1 G.2.1 dL_law_3 rfl ?_
  have hW : KW D (kA s) s.heap ([] ++ [(qx, .inr (6, [.null, .null, .int 0, .int 0]))]) H [] := ⟨hP, hD, hS⟩
  refine kc_I (wr := []) (w := [(qx, .inr (6, [.null, .null, .int 0, .int 0]))]) (rest := [.ref qx]) G hK hA hW (mX4_init l D cy qx H.size) q_1_8 q_1_9 q_1_2 q_1_10 ⟨rfl, rfl⟩ (by decide +kernel) ⟨Nat.le_of_ble_eq_true rfl, Nat.le_of_ble_eq_true rfl⟩ rfl hl.1 rfl (Nat.le_of_ble_eq_true rfl) dL_law_4 ⟨Nat.le_of_ble_eq_true rfl, Nat.le_of_ble_eq_true rfl⟩ (fun hh H locs eh hW1 => ?_)
  obtain ⟨h, h2⟩ := hh
  have eh : h 104 = qx := eh
  subst eh
  have hW : KW D (kA s) s.heap (wBB cy h h2 sZ sZ) H locs := hW1
  refine lv_astore_n (lv' := [(1, .ref (h 104)), (0, .ref b)]) G.1 G.2.1 dL_law_7 rfl hl (by decide) rfl (fun ls hl => ?_)
  refine va_new (ci := 7) (fs := [.null, .null, .int 0, .int 0, .int 0, .null, .null]) (C := RX5) (T := TX5) (N := 7) G.1 G.2.1 G.2.2.2.2 inlX5 tyX5 tyX5_ok G.2.2.2.1 (G.2.2.2.2 _ q_1_3) (G.2.2.2.2 _ q_1_4) (G.2.2.2.2 _ q_1_5) hK.1 hW.1 hW.2.1 hW.2.2 hA rfl k_defX5 (Nat.le_of_ble_eq_true rfl) (Nat.le_of_ble_eq_true rfl) dL_law_8 (fun qm H hP hD hS => ?_)
  refine lv_dup G.1 G.2.1 dL_law_11 rfl ?_
  have hW : KW D (kA s) s.heap (wBB cy h h2 sZ sZ ++ [(qm, .inr (7, [.null, .null, .int 0, .int 0, .int 0, .null, .null]))]) H locs := ⟨hP, hD, hS⟩
  refine kc_I (wr := wBB cy h h2 sZ sZ) (w := [(qm, .inr (7, [.null, .null, .int 0, .int 0, .int 0, .null, .null]))]) (rest := [.ref qm]) G hK hA hW (mX5_init l D cy qm H.size) q_4_2 q_4_3 q_1_5 q_4_4 ⟨rfl, rfl⟩ (by decide +kernel) ⟨Nat.le_of_ble_eq_true rfl, Nat.le_of_ble_eq_true rfl⟩ rfl hl.1 rfl (Nat.le_of_ble_eq_true rfl) dL_law_12 ⟨Nat.le_of_ble_eq_true rfl, Nat.le_of_ble_eq_true rfl⟩ (fun hm H locs em hW1 => ?_)
  have em : hm 10 = qm := em
  subst em
  have hW : KW D (kA s) s.heap (wBB cy h h2 sZ sZ ++ wM cy hm sZ) H locs := hW1
  refine lv_astore_n (lv' := [(2, .ref (hm 10)), (1, .ref (h 104)), (0, .ref b)]) G.1 G.2.1 dL_law_15 rfl hl (by decide) rfl (fun ls hl => ?_)
  refine lv_iconst (v := 1) G.1 G.2.1 dL_law_16 (by decide) ?_
  refine k_newl G hKL hA hW q_1_6 (Nat.le_of_ble_eq_true rfl) (Nat.le_of_ble_eq_true rfl) dL_law_17 (fun ao H hW2 => ?_)
  refine lv_astore_n (lv' := [(3, .ref ao), (2, .ref (hm 10)), (1, .ref (h 104)), (0, .ref b)]) G.1 G.2.1 dL_law_19 rfl hl (by decide) rfl (fun ls hl => ?_)
  refine lv_iconst (v := 1) G.1 G.2.1 dL_law_20 (by decide) ?_
  refine k_newd G hKL hA hW2 q_1_7 (Nat.le_of_ble_eq_true rfl) (Nat.le_of_ble_eq_true rfl) dL_law_21 (fun ad H hW3 => ?_)
  refine lv_astore (lv' := [(4, .ref ad), (3, .ref ao), (2, .ref (hm 10)), (1, .ref (h 104)), (0, .ref b)]) G.1 G.2.1 dL_law_23 hl (by decide) rfl (fun ls hl => ?_)
  refine lv_iconst (v := 0) G.1 G.2.1 dL_law_25 (by decide) ?_
  refine lv_istore (lv' := [(5, .int 0), (4, .ref ad), (3, .ref ao), (2, .ref (hm 10)), (1, .ref (h 104)), (0, .ref b)]) G.1 G.2.1 dL_law_26 hl (by decide) rfl (fun ls hl => ?_)
  have hW4 : KW D (kA s) s.heap (wLaw cy cl cd ao ad h h2 hm (fun _ => 0) (fun _ => 0) sZ sZ sZ) H locs := hW3.perm [58, 59, 0, 1, 2, 3, 4, 5, 6, 7, 8, 9, 10, 11, 12, 13, 14, 15, 16, 17, 18, 19, 20, 21, 22, 23, 24, 25, 26, 27, 28, 29, 30, 31, 32, 33, 34, 35, 36, 37, 38, 39, 40, 41, 42, 43, 44, 45, 46, 47, 48, 49, 50, 51, 52, 53, 54, 55, 56, 57] rfl rfl rfl
  refine W.widen (k := 60 + 2 * 0) (n := 3000 + 12 * 0) (Nat.le_of_ble_eq_true rfl) (Nat.le_of_ble_eq_true rfl) ?_
  exact law_loop hT G hr hlocks hXs hbl hL hKL hX n INV OK (L + 1) 0 0 _ _ _ _ _ H locs ls rfl (by omega) (Nat.zero_le L) hI0 hW4 (lv_sub hl [5, 4, 3, 2, 1, 0] rfl)
