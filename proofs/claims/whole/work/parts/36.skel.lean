/-! THE CLAIM OUT OF ONE WALK OF THE LAW'S BODY. Your part is whole_start (and what it stands on); all else here is the same for every law, but numbers. -/
def R_law : String := "BuddyBlockSchedulerLaw"
def lw_P (b : Addr) (xs : List Int32) (args : Array Value) (s : State) : Prop := args = #[.ref b] ∧ s.IntsAt b xs ∧ xs.length ≤ 2560 ∧ (Jvm.Cond.and given_1 narrow_1).before args s = true
/-- what a walk over the start with the record d0 says of its end, said of the start itself -/
theorem lw_closed {s t : State} {o : Outcome} {d0 : Drawn} {L : List Loc} {k n : Nat} (hd0 : s.drawn.sameBut d0 lw_cs) (hv : ∃ v, o = .returned v) (hW : (s.setDrawn d0).WarmedH t.vm) (hs : (s.setDrawn d0).sameButNew ({ t with vm := s.vm } : State) L k n) : State.butDraws s t lw_cs (fun t1 => Framed s o t1 L k n) := by
  have h2 : t.drawn = d0 := congrArg State.drawn hs.1
  refine ⟨⟨hv, hW, State.sameButNew.setDrawn hs s.drawn⟩, ?_, by decide⟩
  rw [h2]
  exact hd0
def lw_Q (_ : Array Value) (s : State) (o : Outcome) (t : State) : Prop := o = .returned (some (.int 1)) ∧ State.butDraws s t lw_cs (fun t1 => Framed s o t1 [] 3160 121633)
def lw_Z (below : List Frame) (a : Array Value) (s : State) : State → Prop := fun t => ∃ o, t.status = .running ∧ Ended t below o ∧ lw_Q a s o t
/-- the law's own end, with 1 on the stack, nothing written that was there before, its room as the claim has it; d0: the record of draws at this point (at the entry s.drawn: begin with 'refine W.base ?_' and 'have hd0 := Drawn.sameBut.refl s.drawn lw_cs') -/
theorem lw_ret {p : Program} {l : Launch} {e : Env} {s : State} {m : MethodId} {below : List Frame} {meth : Method} {c : Code} {b : Nat} {d0 : Drawn} (hd0 : s.drawn.sameBut d0 lw_cs) (hx : p.tables.exec = Jvm.exec) (hb : c.code = code) (hr : meth.sig.returnType = ret) (hlocks : meth.locks = false) {pc : Nat} {H : Heap} {ls : Array Slot} (hdg : decode code pc = .ok (.ireturn, 1)) : W p l e room_1 (s.setDrawn d0) m #[Value.ref b] below meth c H [] 3160 121633 (lw_Z below #[Value.ref b] s) (F0 m pc ls [.int 1]) := by
  intro T hT X
  obtain ⟨fs, hret, hrun, hended, hW, hframe⟩ := X.leave (v := some (.int 1)) (hlocks := hlocks) (fun h => by rw [hr] at h; cases h)
  have hmeth' : T.vm.method? m = some meth := X.method'
  refine ⟨T.setFrames fs, ?_, .returned (some (.int 1)), hrun, hended, rfl, lw_closed hd0 ⟨_, rfl⟩ hW hframe⟩
  jvm_step X.here [X.here.top, hx, hb, hdg, hmeth', hr, ret, narrow_b1]
  (try refine ⟨rfl, ?_⟩); (try refine ⟨rfl, ?_⟩)
  first | (intro acts; rw [hret _ acts rfl rfl rfl]) | rw [hret _ _ rfl rfl rfl]
  exact Steps.refl _
/-- what holds at the law's entry: the machine, the code, the tables' words (any of lw_tbl by 'hts w (by decide +kernel)'), the script of L ints xs at the cell b, what the Statement gives of the start (any of its parts by flat_of_before) -/
def lw_At (p : Program) (s : State) (m : MethodId) (meth : Method) (c : Code) (b L : Nat) (xs : Nat → Int32) : Prop :=
  p.tables.exec = Jvm.exec ∧ c.code = code ∧ meth.sig.returnType = ret ∧ c.maxLocals = 9 ∧ s.vm.findClass R_law = some m.cls ∧ (∀ w ∈ lw_tbl, w.before #[Value.ref b] s = true) ∧ va_X b L xs s s.heap ∧ b < s.heap.size ∧ meth.locks = false ∧ (Jvm.Cond.and given_1 narrow_1).before #[Value.ref b] s = true
/-- WHAT THE MATHEMATICS OWES: from the invariant, each of the 36 calls is answered alike, and the invariant holds behind it -/
def LawOK (n : Nat) (INV : Nat → St → St → St → Prop) : Prop := ∀ (j : Nat) (σ2 σ τ : St), j < 512 → INV j σ2 σ τ → ∀ a1 a2 a3 a4 : Int32, INV (j + 1) σ2 σ τ ∧
  (AgI [xIA, xIS] (fX4_submit n σ a1 a2 a3 a4) (fX5_submit n τ a1 a2 a3 a4) (fun σ' τ' => INV (j + 1) σ2 σ' τ')) ∧
  (AgI [xIA, xIS] (fX4_advance n σ a1) (fX5_advance n τ a1) (fun σ' τ' => INV (j + 1) σ2 σ' τ')) ∧
  (AgI [xIO, xIS] (fX4_cancel n σ a1) (fX5_cancel n τ a1) (fun σ' τ' => INV (j + 1) σ2 σ' τ')) ∧
  (AgI [xIO, xIA, xIS] (fX4_preempt n σ a1 a2) (fX5_preempt n τ a1 a2) (fun σ' τ' => INV (j + 1) σ2 σ' τ')) ∧
  (AgI [xIA, xIS] (fX4_reserve n σ a1 a2 a3) (fX5_reserve n τ a1 a2 a3) (fun σ' τ' => INV (j + 1) σ2 σ' τ')) ∧
  (∃ v τ', fX4_refusal n σ = some v ∧ fX5_refusal n τ = some (v, τ') ∧ INV (j + 1) σ2 σ τ') ∧
  (AgV [xIO, xIS] (fX4_cancelReservation n σ a1) (fX5_cancelReservation n τ a1) (fun σ' τ' => INV (j + 1) σ2 σ' τ')) ∧
  (AgI [xIO, xIS] (fX4_reservedProcessor n σ a1) (fX5_reservedProcessor n τ a1) (fun σ' τ' => INV (j + 1) σ2 σ' τ')) ∧
  (∀ z : Int32, z = 0 ∨ z = 1 → ∃ v σ' τ', fX4_setFair n σ z = some (v, σ') ∧ fX5_setFair n τ z = some (v, τ') ∧ INV (j + 1) σ2 σ' τ') ∧
  (∃ v τ', fX4_clock n σ = some v ∧ fX5_clock n τ = some (v, τ') ∧ INV (j + 1) σ2 σ τ') ∧
  (∃ v τ', fX4_jobCount n σ = some v ∧ fX5_jobCount n τ = some (v, τ') ∧ INV (j + 1) σ2 σ τ') ∧
  (AgI [xIO] (fX4_state n σ a1) (fX5_state n τ a1) (fun σ' τ' => INV (j + 1) σ2 σ' τ')) ∧
  (AgI [xIO, xIS] (fX4_startTime n σ a1) (fX5_startTime n τ a1) (fun σ' τ' => INV (j + 1) σ2 σ' τ')) ∧
  (AgI [xIO, xIS] (fX4_firstProcessor n σ a1) (fX5_firstProcessor n τ a1) (fun σ' τ' => INV (j + 1) σ2 σ' τ')) ∧
  (AgI [xIO] (fX4_promise n σ a1) (fX5_promise n τ a1) (fun σ' τ' => INV (j + 1) σ2 σ' τ')) ∧
  (AgI [xIO, xIS] (fX4_finishTime n σ a1) (fX5_finishTime n τ a1) (fun σ' τ' => INV (j + 1) σ2 σ' τ')) ∧
  (AgI [xIO] (fX4_preemptions n σ a1) (fX5_preemptions n τ a1) (fun σ' τ' => INV (j + 1) σ2 σ' τ')) ∧
  (AgI [xIO, xIS] (fX4_waitTime n σ a1) (fX5_waitTime n τ a1) (fun σ' τ' => INV (j + 1) σ2 σ' τ')) ∧
  (AgD [xAE] (fX4_averageWait n σ) (fX5_averageWait n τ) (fun σ' τ' => INV (j + 1) σ2 σ' τ')) ∧
  (AgF [xIO, xIS] (fX4_slowdown n σ a1) (fX5_slowdown n τ a1) (fun σ' τ' => INV (j + 1) σ2 σ' τ')) ∧
  (AgI [xIO] (fX4_usage n σ a1) (fX5_usage n τ a1) (fun σ' τ' => INV (j + 1) σ2 σ' τ')) ∧
  (AgD [xAE] (fX4_utilization n σ) (fX5_utilization n τ) (fun σ' τ' => INV (j + 1) σ2 σ' τ')) ∧
  (∃ v τ', fX4_makespan n σ = some v ∧ fX5_makespan n τ = some (v, τ') ∧ INV (j + 1) σ2 σ τ') ∧
  (AgI [xIO] (fX4_ownerAt n σ a1 a2) (fX5_ownerAt n τ a1 a2) (fun σ' τ' => INV (j + 1) σ2 σ' τ')) ∧
  (AgI [xIO] (fX4_freeProcessors n σ a1) (fX5_freeProcessors n τ a1) (fun σ' τ' => INV (j + 1) σ2 σ' τ')) ∧
  (AgI [xIO] (fX4_freeBlocks n σ a1) (fX5_freeBlocks n τ a1) (fun σ' τ' => INV (j + 1) σ2 σ' τ')) ∧
  (AgI [xNS] (fX4_largestFree n σ) (fX5_largestFree n τ) (fun σ' τ' => INV (j + 1) σ2 σ' τ')) ∧
  (AgD [xNS] (fX4_fragmentation n σ) (fX5_fragmentation n τ) (fun σ' τ' => INV (j + 1) σ2 σ' τ')) ∧
  (AgI [xIA] (fX4_earliestStart n σ a1 a2) (fX5_earliestStart n τ a1 a2) (fun σ' τ' => INV (j + 1) σ2 σ' τ')) ∧
  (AgI [xIA, xNS] (fX4_lowestBlock n σ a1 a2 a3) (fX5_lowestBlock n τ a1 a2 a3) (fun σ' τ' => INV (j + 1) σ2 σ' τ')) ∧
  (AgI [xIA] (fX4_blockStarts n σ a1 a2) (fX5_blockStarts n τ a1 a2) (fun σ' τ' => INV (j + 1) σ2 σ' τ')) ∧
  (AgI [xNS] (fX4_busiestBlock n σ) (fX5_busiestBlock n τ) (fun σ' τ' => INV (j + 1) σ2 σ' τ')) ∧
  (∃ v τ', fX4_eventCount n σ = some v ∧ fX5_eventCount n τ = some (v, τ') ∧ INV (j + 1) σ2 σ τ') ∧
  (AgI [xIO] (fX4_event n σ a1 a2) (fX5_event n τ a1 a2) (fun σ' τ' => INV (j + 1) σ2 σ' τ')) ∧
  (∃ σ2' σ' τ', fX4_save n σ2 σ = some (σ2', σ') ∧ fX5_save n τ = some τ' ∧ INV (j + 1) σ2' σ' τ') ∧
  (AgI [xIS] (fX4_restore n σ2 σ) (fX5_restore n τ) (fun σ' τ' => INV (j + 1) σ2 σ' τ'))
