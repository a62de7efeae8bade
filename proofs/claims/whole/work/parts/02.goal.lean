/-- WHAT THE MATHEMATICS OWES: from the invariant, each of the 36 calls is answered alike, and the invariant holds behind it -/
def LawOK (n : Nat) (INV : Nat → St → St → St → Prop) : Prop := ∀ (j : Nat) (σ2 σ τ : St), j < 512 → INV j σ2 σ τ → ∀ a1 a2 a3 a4 : Int32, INV (j + 1) σ2 σ τ ∧
  (AgI [xIA, xIS] (fX4_submit n σ a1 a2 a3 a4) (fX5_submit n τ a1 a2 a3 a4) (fun σ' τ' => INV (j + 1) σ2 σ' τ')) ∧
  (AgI [xIA, xIS] (fX4_advance n σ a1) (fX5_advance n τ a1) (fun σ' τ' => INV (j + 1) σ2 σ' τ')) ∧
  (AgI [xIO, xIS] (fX4_cancel n σ a1) (fX5_cancel n τ a1) (fun σ' τ' => INV (j + 1) σ2 σ' τ')) ∧
  (AgI [xIO, xIA, xIS] (fX4_preempt n σ a1 a2) (fX5_preempt n τ a1 a2) (fun σ' τ' => INV (j + 1) σ2 σ' τ')) ∧
  (AgI [xIA, xIS] (fX4_reserve n σ a1 a2 a3) (fX5_reserve n τ a1 a2 a3) (fun σ' τ' => INV (j + 1) σ2 σ' τ')) ∧
  (∃ v τ', fX4_refusal n σ = some v ∧ fX5_refusal n τ = some (v, τ') ∧ INV (j + 1) σ2 σ τ') ∧
  (AgV [xIO, xIS] (fX4_cancelReservation n σ a1) (fX5_cancelReservation n τ a1) (fun σ' τ' => INV (j + 1) σ2 σ' τ')) ∧
  (AgI [xIO, xIS] (fX4_reservedProcessor n σ a1) (fX5_reservedProcessor n τ a1) (fun σ' τ' => INV (j + 1) σ2 σ' τ')) ∧
  (∀ z : Int32, z = 0 ∨ z = 1 → ∃ v σ' τ', fX4_setFair n σ z = some (v, σ') ∧ fX5_setFair n τ z = some (v, τ') ∧ INV (j + 1) σ2 σ' τ') ∧
  (∃ v τ', fX4_clock n σ = some v ∧ fX5_clock n τ = some (v, τ') ∧ INV (j + 1) σ2 σ τ') ∧
  (∃ v τ', fX4_jobCount n σ = some v ∧ fX5_jobCount n τ = some (v, τ') ∧ INV (j + 1) σ2 σ τ') ∧
  (AgI [xIO] (fX4_state n σ a1) (fX5_state n τ a1) (fun σ' τ' => INV (j + 1) σ2 σ' τ')) ∧
  (AgI [xIO, xIS] (fX4_startTime n σ a1) (fX5_startTime n τ a1) (fun σ' τ' => INV (j + 1) σ2 σ' τ')) ∧
  (AgI [xIO, xIS] (fX4_firstProcessor n σ a1) (fX5_firstProcessor n τ a1) (fun σ' τ' => INV (j + 1) σ2 σ' τ')) ∧
  (AgI [xIO] (fX4_promise n σ a1) (fX5_promise n τ a1) (fun σ' τ' => INV (j + 1) σ2 σ' τ')) ∧
  (AgI [xIO, xIS] (fX4_finishTime n σ a1) (fX5_finishTime n τ a1) (fun σ' τ' => INV (j + 1) σ2 σ' τ')) ∧
  (AgI [xIO] (fX4_preemptions n σ a1) (fX5_preemptions n τ a1) (fun σ' τ' => INV (j + 1) σ2 σ' τ')) ∧
  (AgI [xIO, xIS] (fX4_waitTime n σ a1) (fX5_waitTime n τ a1) (fun σ' τ' => INV (j + 1) σ2 σ' τ')) ∧
  (AgD [xAE] (fX4_averageWait n σ) (fX5_averageWait n τ) (fun σ' τ' => INV (j + 1) σ2 σ' τ')) ∧
  (AgF [xIO, xIS] (fX4_slowdown n σ a1) (fX5_slowdown n τ a1) (fun σ' τ' => INV (j + 1) σ2 σ' τ')) ∧
  (AgI [xIO] (fX4_usage n σ a1) (fX5_usage n τ a1) (fun σ' τ' => INV (j + 1) σ2 σ' τ')) ∧
  (AgD [xAE] (fX4_utilization n σ) (fX5_utilization n τ) (fun σ' τ' => INV (j + 1) σ2 σ' τ')) ∧
  (∃ v τ', fX4_makespan n σ = some v ∧ fX5_makespan n τ = some (v, τ') ∧ INV (j + 1) σ2 σ τ') ∧
  (AgI [xIO] (fX4_ownerAt n σ a1 a2) (fX5_ownerAt n τ a1 a2) (fun σ' τ' => INV (j + 1) σ2 σ' τ')) ∧
  (AgI [xIO] (fX4_freeProcessors n σ a1) (fX5_freeProcessors n τ a1) (fun σ' τ' => INV (j + 1) σ2 σ' τ')) ∧
  (AgI [xIO] (fX4_freeBlocks n σ a1) (fX5_freeBlocks n τ a1) (fun σ' τ' => INV (j + 1) σ2 σ' τ')) ∧
  (AgI [xNS] (fX4_largestFree n σ) (fX5_largestFree n τ) (fun σ' τ' => INV (j + 1) σ2 σ' τ')) ∧
  (AgD [xNS] (fX4_fragmentation n σ) (fX5_fragmentation n τ) (fun σ' τ' => INV (j + 1) σ2 σ' τ')) ∧
  (AgI [xIA] (fX4_earliestStart n σ a1 a2) (fX5_earliestStart n τ a1 a2) (fun σ' τ' => INV (j + 1) σ2 σ' τ')) ∧
  (AgI [xIA, xNS] (fX4_lowestBlock n σ a1 a2 a3) (fX5_lowestBlock n τ a1 a2 a3) (fun σ' τ' => INV (j + 1) σ2 σ' τ')) ∧
  (AgI [xIA] (fX4_blockStarts n σ a1 a2) (fX5_blockStarts n τ a1 a2) (fun σ' τ' => INV (j + 1) σ2 σ' τ')) ∧
  (AgI [xNS] (fX4_busiestBlock n σ) (fX5_busiestBlock n τ) (fun σ' τ' => INV (j + 1) σ2 σ' τ')) ∧
  (∃ v τ', fX4_eventCount n σ = some v ∧ fX5_eventCount n τ = some (v, τ') ∧ INV (j + 1) σ2 σ τ') ∧
  (AgI [xIO] (fX4_event n σ a1 a2) (fX5_event n τ a1 a2) (fun σ' τ' => INV (j + 1) σ2 σ' τ')) ∧
  (∃ σ2' σ' τ', fX4_save n σ2 σ = some (σ2', σ') ∧ fX5_save n τ = some τ' ∧ INV (j + 1) σ2' σ' τ') ∧
  (AgI [xIS] (fX4_restore n σ2 σ) (fX5_restore n τ) (fun σ' τ' => INV (j + 1) σ2 σ' τ'))
