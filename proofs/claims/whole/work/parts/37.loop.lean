section LAWL
variable {p : Program} {l : Launch} {e : Env} {s : State} {m : MethodId} {below : List Frame} {meth : Method} {c : Code} {D : va_G} {cy cl cd : ClassId} {ao ad : Nat} {h h2 hm : Nat → Nat} {b L : Nat} {xs : Nat → Int32}
theorem k_vin {i L k : Nat} (h : i + k < L) (hL : L < 2 ^ 31) {z : Int32} (hz : z = nI k) : vp_in (nI i + z) L := by
  rw [hz, nI_add]
  exact vp_in_nI h hL
set_option maxHeartbeats 4000000 in
set_option maxRecDepth 100000 in
theorem law_loop (hT : l.stackTraces = false) (G : CallFix p m c cL_law 9 s #[Value.ref b] wA RL) (hr : meth.sig.returnType = ret) (hlocks : meth.locks = false) (hXs : va_X b L xs s s.heap) (hbl : b < s.heap.size) (hL : L ≤ 2560) (hKL : KL D cy cl cd s) (hX : KX (kA s) s) (n : Nat) (INV : Nat → St → St → St → Prop) (OK : LawOK n INV) :
    ∀ (fu i j : Nat) (f : Nat → Int64) (g : Nat → UInt64) (σ2 σ τ : St) (H : Heap) (locs : List Loc) (ls : Array Slot), i = 5 * j → L < i + fu → i ≤ L → INV j σ2 σ τ → KW D (kA s) s.heap (wLaw cy cl cd ao ad h h2 hm f g σ2 σ τ) H locs → lv_has ls 9 [(0, .ref b), (1, .ref (h 104)), (2, .ref (hm 10)), (3, .ref ao), (4, .ref ad), (5, .int (nI i))] → W p l e room_1 s m #[Value.ref b] below meth c H locs (60 + 2 * j) (3000 + 12 * j) (lw_Z below #[Value.ref b] s) (F0 m 28 ls []) := by
  have hA : ∀ q : Nat, s.heap.size ≤ q → kA s q := fun _ h => h
  have hbA : ¬ kA s b := Nat.not_le.mpr hbl
  intro fu
  induction fu with
  | zero => intro i j f g σ2 σ τ H locs ls hi hfu hiL; omega
  | succ fu ih =>
    intro i j f g σ2 σ τ H locs ls hi hfu hiL hI hW hl
    have hj9 : j ≤ 512 := by omega
    refine lv_iload G.1 G.2.1 dL_law_28 (lv_at hl 5 rfl) ?_
    refine lv_aload_n G.1 G.2.1 dL_law_30 rfl (lv_at hl 0 rfl) ?_
    refine va_slen G.1 G.2.1 hXs hbl hbA hW.2.2 dL_law_31 ?_
    refine lv_iconst (v := (5 : Int32)) G.1 G.2.1 dL_law_32 (by decide) ?_
    refine lv_isub G.1 G.2.1 dL_law_33 ?_
    refine lv_icmp_gt (tgt := 2088) G.1 G.2.1 dL_law_34 (by decide) (fun c9 => ?_) (fun c9 => ?_)
    · refine lv_iconst (v := 1) G.1 G.2.1 dL_law_2088 (by decide) ?_
      refine va_forget (fun q hq => hW.2.2.2.2 q hq) ?_
      refine W.widen (k := 3160) (n := 121633) (by omega) (by omega) ?_
      exact lw_ret (d0 := s.drawn) (Drawn.sameBut.refl s.drawn lw_cs) G.1 G.2.1 hr hlocks dL_law_2089
    · have hlt : i + 5 ≤ L := by
        rcases Nat.lt_or_ge L (i + 5) with q | q
        · exfalso
          apply c9
          rw [Int32.lt_iff_toInt_lt]
          have e1 : (Int32.ofNat L - 5).toInt = (L : Int) - 5 := by
            have := pk_sub_toInt (a := L) (b := 5) (by omega) (by omega)
            exact this
          rw [e1, nI_toInt (by omega)]
          omega
        · exact q
      have hj : j < 512 := by omega
      have v0 : vp_in (nI i) L := vp_in_nI (by omega) (by omega)
      have v1 : vp_in (nI i + (1 : Int32)) L := k_vin (k := 1) (by omega) (by omega) rfl
      have v2 : vp_in (nI i + (2 : Int32)) L := k_vin (k := 2) (by omega) (by omega) rfl
      have v3 : vp_in (nI i + (3 : Int32)) L := k_vin (k := 3) (by omega) (by omega) rfl
      have v4 : vp_in (nI i + (4 : Int32)) L := k_vin (k := 4) (by omega) (by omega) rfl
      have K : ∀ (f' : Nat → Int64) (g' : Nat → UInt64) (σ2' σ' τ' : St) (H : Heap) (locs : List Loc) (ls : Array Slot), INV (j + 1) σ2' σ' τ' → KW D (kA s) s.heap (wLaw cy cl cd ao ad h h2 hm f' g' σ2' σ' τ') H locs → lv_has ls 9 [(0, .ref b), (1, .ref (h 104)), (2, .ref (hm 10)), (3, .ref ao), (4, .ref ad), (5, .int (nI i))] → W p l e room_1 s m #[Value.ref b] below meth c H locs (62 + 2 * j) (3012 + 12 * j) (lw_Z below #[Value.ref b] s) (F0 m 2082 ls []) := by
        intro f' g' σ2' σ' τ' H locs ls hI hW hl
        refine lv_iinc (v := nI (i + 5)) (lv' := [(5, .int (nI (i + 5))), (0, .ref b), (1, .ref (h 104)), (2, .ref (hm 10)), (3, .ref ao), (4, .ref ad)]) G.1 G.2.1 dL_law_2082 hl (k := 5) rfl (by rw [← nI_add]; rfl) (by decide) rfl (fun ls hl => ?_)
        refine lv_goto (tgt := 28) G.1 G.2.1 dL_law_2085 (by decide) ?_
        have h9 := ih (i + 5) (j + 1) f' g' σ2' σ' τ' H locs ls (by omega) (by omega) hlt hI hW (lv_sub hl [1, 2, 3, 4, 5, 0] rfl)
        rw [show 60 + 2 * (j + 1) = 62 + 2 * j by omega, show 3000 + 12 * (j + 1) = 3012 + 12 * j by omega] at h9
        exact h9
      obtain ⟨hI0, g0, g1, g2, g3, g4, g5, g6, g7, g8, g9, g10, g11, g12, g13, g14, g15, g16, g17, g18, g19, g20, g21, g22, g23, g24, g25, g26, g27, g28, g29, g30, g31, g32, g33, g34, g35⟩ := OK j σ2 σ τ hj hI (xs (nI i + (1 : Int32)).toNatClampNeg) (xs (nI i + (2 : Int32)).toNatClampNeg) (xs (nI i + (3 : Int32)).toNatClampNeg) (xs (nI i + (4 : Int32)).toNatClampNeg)
      refine lv_aload_n G.1 G.2.1 dL_law_37 rfl (lv_at hl 0 rfl) ?_
      refine lv_iload G.1 G.2.1 dL_law_38 (lv_at hl 5 rfl) ?_
      refine va_sld G.1 G.2.1 hXs hbl hbA hW.2.2 v0 dL_law_40 ?_
      refine lv_bipush (v := (63 : Int32)) G.1 G.2.1 dL_law_41 (by decide) ?_
      refine lv_iand G.1 G.2.1 dL_law_43 ?_
      obtain ⟨k, hk, ek⟩ := pk_andE (xs (nI i).toNatClampNeg) (m := (63 : Int32)) 6 (by decide)
      rw [ek]
      clear ek
      match k, hk with
      | 0, _ =>
        refine lv_tableIn (tgt := 204) (off := 160) G.1 G.2.1 dL_law_44 (by decide) (by decide) (by decide) (by decide) ?_
        exact law_c0 hT G hXs hbl hKL hX n hj v1 rfl v2 rfl v3 rfl v4 rfl (fun σ' τ' => INV (j + 1) σ2 σ' τ') g0 (fun f' g' σ' τ' => K f' g' σ2 σ' τ') hW hl
      | 1, _ =>
        refine lv_tableIn (tgt := 296) (off := 252) G.1 G.2.1 dL_law_44 (by decide) (by decide) (by decide) (by decide) ?_
        exact law_c1 hT G hXs hbl hKL hX n hj v1 rfl (fun σ' τ' => INV (j + 1) σ2 σ' τ') g1 (fun f' g' σ' τ' => K f' g' σ2 σ' τ') hW hl
      | 2, _ =>
        refine lv_tableIn (tgt := 352) (off := 308) G.1 G.2.1 dL_law_44 (by decide) (by decide) (by decide) (by decide) ?_
        exact law_c2 hT G hXs hbl hKL hX n hj v1 rfl (fun σ' τ' => INV (j + 1) σ2 σ' τ') g2 (fun f' g' σ' τ' => K f' g' σ2 σ' τ') hW hl
      | 3, _ =>
        refine lv_tableIn (tgt := 408) (off := 364) G.1 G.2.1 dL_law_44 (by decide) (by decide) (by decide) (by decide) ?_
        exact law_c3 hT G hXs hbl hKL hX n hj v1 rfl v2 rfl (fun σ' τ' => INV (j + 1) σ2 σ' τ') g3 (fun f' g' σ' τ' => K f' g' σ2 σ' τ') hW hl
      | 4, _ =>
        refine lv_tableIn (tgt := 476) (off := 432) G.1 G.2.1 dL_law_44 (by decide) (by decide) (by decide) (by decide) ?_
        exact law_c4 hT G hXs hbl hKL hX n hj v1 rfl v2 rfl v3 rfl (fun σ' τ' => INV (j + 1) σ2 σ' τ') g4 (fun f' g' σ' τ' => K f' g' σ2 σ' τ') hW hl
      | 5, _ =>
        refine lv_tableIn (tgt := 556) (off := 512) G.1 G.2.1 dL_law_44 (by decide) (by decide) (by decide) (by decide) ?_
        exact law_c5 hT G hXs hbl hKL hX n hj  (fun σ' τ' => INV (j + 1) σ2 σ' τ') g5 (fun f' g' σ' τ' => K f' g' σ2 σ' τ') hW hl
      | 6, _ =>
        refine lv_tableIn (tgt := 569) (off := 525) G.1 G.2.1 dL_law_44 (by decide) (by decide) (by decide) (by decide) ?_
        exact law_c6 hT G hXs hbl hKL hX n hj v1 rfl (fun σ' τ' => INV (j + 1) σ2 σ' τ') g6 (fun f' g' σ' τ' => K f' g' σ2 σ' τ') hW hl
      | 7, _ =>
        refine lv_tableIn (tgt := 605) (off := 561) G.1 G.2.1 dL_law_44 (by decide) (by decide) (by decide) (by decide) ?_
        exact law_c7 hT G hXs hbl hKL hX n hj v1 rfl (fun σ' τ' => INV (j + 1) σ2 σ' τ') g7 (fun f' g' σ' τ' => K f' g' σ2 σ' τ') hW hl
      | 8, _ =>
        refine lv_tableIn (tgt := 661) (off := 617) G.1 G.2.1 dL_law_44 (by decide) (by decide) (by decide) (by decide) ?_
        exact law_c8 hT G hXs hbl hKL hX n hj v1 rfl (fun σ' τ' => INV (j + 1) σ2 σ' τ') g8 (fun f' g' σ' τ' => K f' g' σ2 σ' τ') hW hl
      | 9, _ =>
        refine lv_tableIn (tgt := 702) (off := 658) G.1 G.2.1 dL_law_44 (by decide) (by decide) (by decide) (by decide) ?_
        exact law_c9 hT G hXs hbl hKL hX n hj  (fun σ' τ' => INV (j + 1) σ2 σ' τ') g9 (fun f' g' σ' τ' => K f' g' σ2 σ' τ') hW hl
      | 10, _ =>
        refine lv_tableIn (tgt := 715) (off := 671) G.1 G.2.1 dL_law_44 (by decide) (by decide) (by decide) (by decide) ?_
        exact law_c10 hT G hXs hbl hKL hX n hj  (fun σ' τ' => INV (j + 1) σ2 σ' τ') g10 (fun f' g' σ' τ' => K f' g' σ2 σ' τ') hW hl
      | 11, _ =>
        refine lv_tableIn (tgt := 728) (off := 684) G.1 G.2.1 dL_law_44 (by decide) (by decide) (by decide) (by decide) ?_
        exact law_c11 hT G hXs hbl hKL hX n hj v1 rfl (fun σ' τ' => INV (j + 1) σ2 σ' τ') g11 (fun f' g' σ' τ' => K f' g' σ2 σ' τ') hW hl
      | 12, _ =>
        refine lv_tableIn (tgt := 784) (off := 740) G.1 G.2.1 dL_law_44 (by decide) (by decide) (by decide) (by decide) ?_
        exact law_c12 hT G hXs hbl hKL hX n hj v1 rfl (fun σ' τ' => INV (j + 1) σ2 σ' τ') g12 (fun f' g' σ' τ' => K f' g' σ2 σ' τ') hW hl
      | 13, _ =>
        refine lv_tableIn (tgt := 840) (off := 796) G.1 G.2.1 dL_law_44 (by decide) (by decide) (by decide) (by decide) ?_
        exact law_c13 hT G hXs hbl hKL hX n hj v1 rfl (fun σ' τ' => INV (j + 1) σ2 σ' τ') g13 (fun f' g' σ' τ' => K f' g' σ2 σ' τ') hW hl
      | 14, _ =>
        refine lv_tableIn (tgt := 896) (off := 852) G.1 G.2.1 dL_law_44 (by decide) (by decide) (by decide) (by decide) ?_
        exact law_c14 hT G hXs hbl hKL hX n hj v1 rfl (fun σ' τ' => INV (j + 1) σ2 σ' τ') g14 (fun f' g' σ' τ' => K f' g' σ2 σ' τ') hW hl
      | 15, _ =>
        refine lv_tableIn (tgt := 952) (off := 908) G.1 G.2.1 dL_law_44 (by decide) (by decide) (by decide) (by decide) ?_
        exact law_c15 hT G hXs hbl hKL hX n hj v1 rfl (fun σ' τ' => INV (j + 1) σ2 σ' τ') g15 (fun f' g' σ' τ' => K f' g' σ2 σ' τ') hW hl
      | 16, _ =>
        refine lv_tableIn (tgt := 1008) (off := 964) G.1 G.2.1 dL_law_44 (by decide) (by decide) (by decide) (by decide) ?_
        exact law_c16 hT G hXs hbl hKL hX n hj v1 rfl (fun σ' τ' => INV (j + 1) σ2 σ' τ') g16 (fun f' g' σ' τ' => K f' g' σ2 σ' τ') hW hl
      | 17, _ =>
        refine lv_tableIn (tgt := 1064) (off := 1020) G.1 G.2.1 dL_law_44 (by decide) (by decide) (by decide) (by decide) ?_
        exact law_c17 hT G hXs hbl hKL hX n hj v1 rfl (fun σ' τ' => INV (j + 1) σ2 σ' τ') g17 (fun f' g' σ' τ' => K f' g' σ2 σ' τ') hW hl
      | 18, _ =>
        refine lv_tableIn (tgt := 1120) (off := 1076) G.1 G.2.1 dL_law_44 (by decide) (by decide) (by decide) (by decide) ?_
        exact law_c18 hT G hXs hbl hKL hX n hj  (fun σ' τ' => INV (j + 1) σ2 σ' τ') g18 (fun f' g' σ' τ' => K f' g' σ2 σ' τ') hW hl
      | 19, _ =>
        refine lv_tableIn (tgt := 1185) (off := 1141) G.1 G.2.1 dL_law_44 (by decide) (by decide) (by decide) (by decide) ?_
        exact law_c19 hT G hXs hbl hKL hX n hj v1 rfl (fun σ' τ' => INV (j + 1) σ2 σ' τ') g19 (fun f' g' σ' τ' => K f' g' σ2 σ' τ') hW hl
      | 20, _ =>
        refine lv_tableIn (tgt := 1263) (off := 1219) G.1 G.2.1 dL_law_44 (by decide) (by decide) (by decide) (by decide) ?_
        exact law_c20 hT G hXs hbl hKL hX n hj v1 rfl (fun σ' τ' => INV (j + 1) σ2 σ' τ') g20 (fun f' g' σ' τ' => K f' g' σ2 σ' τ') hW hl
      | 21, _ =>
        refine lv_tableIn (tgt := 1319) (off := 1275) G.1 G.2.1 dL_law_44 (by decide) (by decide) (by decide) (by decide) ?_
        exact law_c21 hT G hXs hbl hKL hX n hj  (fun σ' τ' => INV (j + 1) σ2 σ' τ') g21 (fun f' g' σ' τ' => K f' g' σ2 σ' τ') hW hl
      | 22, _ =>
        refine lv_tableIn (tgt := 1384) (off := 1340) G.1 G.2.1 dL_law_44 (by decide) (by decide) (by decide) (by decide) ?_
        exact law_c22 hT G hXs hbl hKL hX n hj  (fun σ' τ' => INV (j + 1) σ2 σ' τ') g22 (fun f' g' σ' τ' => K f' g' σ2 σ' τ') hW hl
      | 23, _ =>
        refine lv_tableIn (tgt := 1397) (off := 1353) G.1 G.2.1 dL_law_44 (by decide) (by decide) (by decide) (by decide) ?_
        exact law_c23 hT G hXs hbl hKL hX n hj v1 rfl v2 rfl (fun σ' τ' => INV (j + 1) σ2 σ' τ') g23 (fun f' g' σ' τ' => K f' g' σ2 σ' τ') hW hl
      | 24, _ =>
        refine lv_tableIn (tgt := 1465) (off := 1421) G.1 G.2.1 dL_law_44 (by decide) (by decide) (by decide) (by decide) ?_
        exact law_c24 hT G hXs hbl hKL hX n hj v1 rfl (fun σ' τ' => INV (j + 1) σ2 σ' τ') g24 (fun f' g' σ' τ' => K f' g' σ2 σ' τ') hW hl
      | 25, _ =>
        refine lv_tableIn (tgt := 1521) (off := 1477) G.1 G.2.1 dL_law_44 (by decide) (by decide) (by decide) (by decide) ?_
        exact law_c25 hT G hXs hbl hKL hX n hj v1 rfl (fun σ' τ' => INV (j + 1) σ2 σ' τ') g25 (fun f' g' σ' τ' => K f' g' σ2 σ' τ') hW hl
      | 26, _ =>
        refine lv_tableIn (tgt := 1577) (off := 1533) G.1 G.2.1 dL_law_44 (by decide) (by decide) (by decide) (by decide) ?_
        exact law_c26 hT G hXs hbl hKL hX n hj  (fun σ' τ' => INV (j + 1) σ2 σ' τ') g26 (fun f' g' σ' τ' => K f' g' σ2 σ' τ') hW hl
      | 27, _ =>
        refine lv_tableIn (tgt := 1621) (off := 1577) G.1 G.2.1 dL_law_44 (by decide) (by decide) (by decide) (by decide) ?_
        exact law_c27 hT G hXs hbl hKL hX n hj  (fun σ' τ' => INV (j + 1) σ2 σ' τ') g27 (fun f' g' σ' τ' => K f' g' σ2 σ' τ') hW hl
      | 28, _ =>
        refine lv_tableIn (tgt := 1686) (off := 1642) G.1 G.2.1 dL_law_44 (by decide) (by decide) (by decide) (by decide) ?_
        exact law_c28 hT G hXs hbl hKL hX n hj v1 rfl v2 rfl (fun σ' τ' => INV (j + 1) σ2 σ' τ') g28 (fun f' g' σ' τ' => K f' g' σ2 σ' τ') hW hl
      | 29, _ =>
        refine lv_tableIn (tgt := 1754) (off := 1710) G.1 G.2.1 dL_law_44 (by decide) (by decide) (by decide) (by decide) ?_
        exact law_c29 hT G hXs hbl hKL hX n hj v1 rfl v2 rfl v3 rfl (fun σ' τ' => INV (j + 1) σ2 σ' τ') g29 (fun f' g' σ' τ' => K f' g' σ2 σ' τ') hW hl
      | 30, _ =>
        refine lv_tableIn (tgt := 1834) (off := 1790) G.1 G.2.1 dL_law_44 (by decide) (by decide) (by decide) (by decide) ?_
        exact law_c30 hT G hXs hbl hKL hX n hj v1 rfl v2 rfl (fun σ' τ' => INV (j + 1) σ2 σ' τ') g30 (fun f' g' σ' τ' => K f' g' σ2 σ' τ') hW hl
      | 31, _ =>
        refine lv_tableIn (tgt := 1902) (off := 1858) G.1 G.2.1 dL_law_44 (by decide) (by decide) (by decide) (by decide) ?_
        exact law_c31 hT G hXs hbl hKL hX n hj  (fun σ' τ' => INV (j + 1) σ2 σ' τ') g31 (fun f' g' σ' τ' => K f' g' σ2 σ' τ') hW hl
      | 32, _ =>
        refine lv_tableIn (tgt := 1946) (off := 1902) G.1 G.2.1 dL_law_44 (by decide) (by decide) (by decide) (by decide) ?_
        exact law_c32 hT G hXs hbl hKL hX n hj  (fun σ' τ' => INV (j + 1) σ2 σ' τ') g32 (fun f' g' σ' τ' => K f' g' σ2 σ' τ') hW hl
      | 33, _ =>
        refine lv_tableIn (tgt := 1959) (off := 1915) G.1 G.2.1 dL_law_44 (by decide) (by decide) (by decide) (by decide) ?_
        exact law_c33 hT G hXs hbl hKL hX n hj v1 rfl v2 rfl (fun σ' τ' => INV (j + 1) σ2 σ' τ') g33 (fun f' g' σ' τ' => K f' g' σ2 σ' τ') hW hl
      | 34, _ =>
        refine lv_tableIn (tgt := 2027) (off := 1983) G.1 G.2.1 dL_law_44 (by decide) (by decide) (by decide) (by decide) ?_
        exact law_c34 hT G hXs hbl hKL hX n hj  (fun σ2' σ' τ' => INV (j + 1) σ2' σ' τ') g34 K hW hl
      | 35, _ =>
        refine lv_tableIn (tgt := 2038) (off := 1994) G.1 G.2.1 dL_law_44 (by decide) (by decide) (by decide) (by decide) ?_
        exact law_c35 hT G hXs hbl hKL hX n hj  (fun σ' τ' => INV (j + 1) σ2 σ' τ') g35 (fun f' g' σ' τ' => K f' g' σ2 σ' τ') hW hl
      | k + 36, hk =>
        refine lv_tableOut (tgt := 2082) G.1 G.2.1 dL_law_44 (Or.inr (by rw [nI_toInt (by omega)]; omega)) (by decide) ?_
        refine W.widen (k := 62 + 2 * j) (n := 3012 + 12 * j) (by omega) (by omega) ?_
        exact K f g σ2 σ τ H locs ls hI0 hW hl
end LAWL
