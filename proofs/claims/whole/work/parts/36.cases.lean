section LAWC
variable {p : Program} {l : Launch} {e : Env} {s : State} {m : MethodId} {below : List Frame} {meth : Method} {c : Code} {D : va_G} {cy cl cd : ClassId} {ao ad : Nat} {h h2 hm : Nat → Nat} {b L : Nat} {xs : Nat → Int32} {Q : State → Prop} {H : Heap} {locs : List Loc} {ls : Array Slot} {f : Nat → Int64} {g : Nat → UInt64} {σ2 σ τ : St} {j : Nat} {x5 : Int32}
set_option maxHeartbeats 4000000 in
set_option maxRecDepth 100000 in
theorem law_c0 (hT : l.stackTraces = false) (G : CallFix p m c cL_law 9 s #[Value.ref b] wA RL) (hXs : va_X b L xs s s.heap) (hbl : b < s.heap.size) (hKL : KL D cy cl cd s) (hX : KX (kA s) s) (n : Nat) (hj : j < 512) {a1 a2 a3 a4 : Int32} (v1 : vp_in (x5 + (1 : Int32)) L) (e1 : xs (x5 + (1 : Int32)).toNatClampNeg = a1) (v2 : vp_in (x5 + (2 : Int32)) L) (e2 : xs (x5 + (2 : Int32)).toNatClampNeg = a2) (v3 : vp_in (x5 + (3 : Int32)) L) (e3 : xs (x5 + (3 : Int32)).toNatClampNeg = a3) (v4 : vp_in (x5 + (4 : Int32)) L) (e4 : xs (x5 + (4 : Int32)).toNatClampNeg = a4) (P : St → St → Prop) (ag : AgI [xIA, xIS] (fX4_submit n σ a1 a2 a3 a4) (fX5_submit n τ a1 a2 a3 a4) P) (K : ∀ (f' : Nat → Int64) (g' : Nat → UInt64) (σ' τ' : St) (H : Heap) (locs : List Loc) (ls : Array Slot), P σ' τ' → KW D (kA s) s.heap (wLaw cy cl cd ao ad h h2 hm f' g' σ2 σ' τ') H locs → lv_has ls 9 [(0, .ref b), (1, .ref (h 104)), (2, .ref (hm 10)), (3, .ref ao), (4, .ref ad), (5, .int x5)] → W p l e room_1 s m #[Value.ref b] below meth c H locs (62 + 2 * j) (3012 + 12 * j) Q (F0 m 2082 ls [])) (hW : KW D (kA s) s.heap (wLaw cy cl cd ao ad h h2 hm f g σ2 σ τ) H locs) (hl : lv_has ls 9 [(0, .ref b), (1, .ref (h 104)), (2, .ref (hm 10)), (3, .ref ao), (4, .ref ad), (5, .int x5)]) : W p l e room_1 s m #[Value.ref b] below meth c H locs (60 + 2 * j) (3000 + 12 * j) Q (F0 m 204 ls []) := by
  have hA : ∀ q : Nat, s.heap.size ≤ q → kA s q := fun _ h => h
  have hbA : ¬ kA s b := Nat.not_le.mpr hbl
  have hK := hKL.KK
  obtain ⟨o, bm, τn, ex, em, hE, hth, hvb, hP9⟩ := ag
  refine lv_aload_n G.1 G.2.1 dL_law_204 rfl (lv_at hl 1 rfl) ?_
  refine lv_aload_n G.1 G.2.1 dL_law_205 rfl (lv_at hl 0 rfl) ?_
  refine lv_iload G.1 G.2.1 dL_law_206 (lv_at hl 5 rfl) ?_
  refine lv_iconst (v := (1 : Int32)) G.1 G.2.1 dL_law_208 (by decide) ?_
  refine lv_iadd G.1 G.2.1 dL_law_209 ?_
  refine va_sld G.1 G.2.1 hXs hbl hbA hW.2.2 v1 dL_law_210 ?_
  rw [e1]
  refine lv_aload_n G.1 G.2.1 dL_law_211 rfl (lv_at hl 0 rfl) ?_
  refine lv_iload G.1 G.2.1 dL_law_212 (lv_at hl 5 rfl) ?_
  refine lv_iconst (v := (2 : Int32)) G.1 G.2.1 dL_law_214 (by decide) ?_
  refine lv_iadd G.1 G.2.1 dL_law_215 ?_
  refine va_sld G.1 G.2.1 hXs hbl hbA hW.2.2 v2 dL_law_216 ?_
  rw [e2]
  refine lv_aload_n G.1 G.2.1 dL_law_217 rfl (lv_at hl 0 rfl) ?_
  refine lv_iload G.1 G.2.1 dL_law_218 (lv_at hl 5 rfl) ?_
  refine lv_iconst (v := (3 : Int32)) G.1 G.2.1 dL_law_220 (by decide) ?_
  refine lv_iadd G.1 G.2.1 dL_law_221 ?_
  refine va_sld G.1 G.2.1 hXs hbl hbA hW.2.2 v3 dL_law_222 ?_
  rw [e3]
  refine lv_aload_n G.1 G.2.1 dL_law_223 rfl (lv_at hl 0 rfl) ?_
  refine lv_iload G.1 G.2.1 dL_law_224 (lv_at hl 5 rfl) ?_
  refine lv_iconst (v := (4 : Int32)) G.1 G.2.1 dL_law_226 (by decide) ?_
  refine lv_iadd G.1 G.2.1 dL_law_227 ?_
  refine va_sld G.1 G.2.1 hXs hbl hbA hW.2.2 v4 dL_law_228 ?_
  rw [e4]
  refine lv_aload_n G.1 G.2.1 dL_law_229 rfl (lv_at hl 3 rfl) ?_
  refine kl_w (wr := ([(ad, .inl (cd, 1, .inr (.inr (.inr (.inl g)))))] ++ (wC cy h2 σ2 ++ wM cy hm τ))) (w := ((ao, .inl (cl, 1, .inr (.inl f))) :: wB cy h (h2 103) σ)) (w' := ((ao, .inl (cl, 1, .inr (.inl (woL o f)))) :: wB cy h (h2 103) (wst o))) (n := 6) (As := [.ref (h 104), .int a1, .int a2, .int a3, .int a4, .ref ao]) (rest := []) G hKL hX hA (pmL_in hW) (mL_submit l hT D cy cl cd h (h2 103) ao _ n σ f a1 a2 a3 a4 ex (fun E u h9 => by have h8 := hE E u h9; simpa only [List.mem_cons, List.not_mem_nil, or_false] using h8)) (gSW q_4_10 q_4_11 q_4_12 q_4_13) ⟨rfl, rfl⟩ (by decide +kernel) ⟨Nat.le_of_ble_eq_true rfl, Nat.le_of_ble_eq_true rfl⟩ rfl hl.1 rfl (Nat.le_of_ble_eq_true rfl) dL_law_230 ⟨by show _ ≤ 3160; omega, by show _ ≤ 121633; omega⟩ (fun H locs hW => ?_)
  replace hW := pmL_out (f := (woL o f)) (g := g) (σ2 := σ2) (σ := (wst o)) (τ := τ) hW
  refine lv_istore (lv' := [(6, .int (wcd [xIA, xIS] o)), (0, .ref b), (1, .ref (h 104)), (2, .ref (hm 10)), (3, .ref ao), (4, .ref ad), (5, .int x5)]) G.1 G.2.1 dL_law_233 hl (by decide) rfl (fun ls hl => ?_)
  refine lv_aload_n G.1 G.2.1 dL_law_235 rfl (lv_at hl 3 rfl) ?_
  refine lv_aload_n G.1 G.2.1 dL_law_236 rfl (lv_at hl 1 rfl) ?_
  refine lv_iload G.1 G.2.1 dL_law_237 (lv_at hl 6 rfl) ?_
  refine lv_iconst (v := (1 : Int32)) G.1 G.2.1 dL_law_239 (by decide) ?_
  refine lv_iadd G.1 G.2.1 dL_law_240 ?_
  refine va_sld G.1 G.2.1 hXs hbl hbA hW.2.2 v1 dL_law_241 ?_
  rw [e1]
  refine lv_aload_n G.1 G.2.1 dL_law_242 rfl (lv_at hl 1 rfl) ?_
  refine lv_iload G.1 G.2.1 dL_law_243 (lv_at hl 6 rfl) ?_
  refine lv_iconst (v := (2 : Int32)) G.1 G.2.1 dL_law_245 (by decide) ?_
  refine lv_iadd G.1 G.2.1 dL_law_246 ?_
  refine va_sld G.1 G.2.1 hXs hbl hbA hW.2.2 v2 dL_law_247 ?_
  rw [e2]
  refine lv_aload_n G.1 G.2.1 dL_law_248 rfl (lv_at hl 1 rfl) ?_
  refine lv_iload G.1 G.2.1 dL_law_249 (lv_at hl 6 rfl) ?_
  refine lv_iconst (v := (3 : Int32)) G.1 G.2.1 dL_law_251 (by decide) ?_
  refine lv_iadd G.1 G.2.1 dL_law_252 ?_
  refine va_sld G.1 G.2.1 hXs hbl hbA hW.2.2 v3 dL_law_253 ?_
  rw [e3]
  refine lv_aload_n G.1 G.2.1 dL_law_254 rfl (lv_at hl 1 rfl) ?_
  refine lv_iload G.1 G.2.1 dL_law_255 (lv_at hl 6 rfl) ?_
  refine lv_iconst (v := (4 : Int32)) G.1 G.2.1 dL_law_257 (by decide) ?_
  refine lv_iadd G.1 G.2.1 dL_law_258 ?_
  refine va_sld G.1 G.2.1 hXs hbl hbA hW.2.2 v4 dL_law_259 ?_
  rw [e4]
  refine kc_i (wr := ((ao, .inl (cl, 1, .inr (.inl (woL o f)))) :: (ad, .inl (cd, 1, .inr (.inr (.inr (.inl g))))) :: wBB cy h h2 σ2 (wst o))) (w := wM cy hm τ) (w' := wM cy hm τn) (n := 4) (As := [.int a1, .int a2, .int a3, .int a4]) (rest := []) (C := RX5) G hK hA hW (mX5_submit l D cy hm _ n τ a1 a2 a3 a4 em) (gV q_7_22 q_7_23 q_8_0 q_1_5 q_8_1) ⟨rfl, rfl⟩ (by decide +kernel) ⟨Nat.le_of_ble_eq_true rfl, Nat.le_of_ble_eq_true rfl⟩ (va_recv hK.1 hW.1 (ci := 7) (q0 := 55) rfl rfl) rfl hl.1 rfl (Nat.le_of_ble_eq_true rfl) dL_law_260 ⟨by show _ ≤ 3160; omega, by show _ ≤ 121633; omega⟩ (fun H locs hW => ?_)
  replace hW : KW D (kA s) s.heap (wLaw cy cl cd ao ad h h2 hm (woL o f) g σ2 (wst o) τn) H locs := hW
  refine lv_istore (lv' := [(7, .int bm), (6, .int (wcd [xIA, xIS] o)), (0, .ref b), (1, .ref (h 104)), (2, .ref (hm 10)), (3, .ref ao), (4, .ref ad), (5, .int x5)]) G.1 G.2.1 dL_law_263 hl (by decide) rfl (fun ls hl => ?_)
  refine lv_aload_n G.1 G.2.1 dL_law_265 rfl (lv_at hl 4 rfl) ?_
  refine kc_i (wr := ((ao, .inl (cl, 1, .inr (.inl (woL o f)))) :: (ad, .inl (cd, 1, .inr (.inr (.inr (.inl g))))) :: wBB cy h h2 σ2 (wst o))) (w := wM cy hm τn) (w' := wM cy hm τn) (n := 0) (As := []) (rest := []) (C := RX5) G hK hA hW (mX5_thrown l D cy hm _ n τn  (show fX5_thrown n τn = some (τn 6 0) from rfl)) (gV q_10_9 q_10_10 q_10_11 q_1_5 q_10_12) ⟨rfl, rfl⟩ (by decide +kernel) ⟨Nat.le_of_ble_eq_true rfl, Nat.le_of_ble_eq_true rfl⟩ (va_recv hK.1 hW.1 (ci := 7) (q0 := 55) rfl rfl) rfl hl.1 rfl (Nat.le_of_ble_eq_true rfl) dL_law_266 ⟨by show _ ≤ 3160; omega, by show _ ≤ 121633; omega⟩ (fun H locs hW => ?_)
  replace hW : KW D (kA s) s.heap (wLaw cy cl cd ao ad h h2 hm (woL o f) g σ2 (wst o) τn) H locs := hW
  refine lv_iload G.1 G.2.1 dL_law_269 (lv_at hl 1 rfl) ?_
  refine lv_icmp_eq (tgt := 276) G.1 G.2.1 dL_law_271 (by decide) (fun c9 => ?_) (fun c9 => absurd hth c9)
  refine lv_iload G.1 G.2.1 dL_law_276 (lv_at hl 1 rfl) ?_
  refine lv_if_ne (tgt := 293) G.1 G.2.1 dL_law_278 (by decide) (fun c9 => ?_) (fun c9 => ?_)
  · skip
    refine lv_goto (tgt := 2082) G.1 G.2.1 dL_law_293 (by decide) ?_
    refine W.widen (k := 62 + 2 * j) (n := 3012 + 12 * j) (by omega) (by omega) ?_
    exact K _ _ _ _ _ _ _ hP9 hW (lv_sub hl [2, 3, 4, 5, 6, 7] rfl)
  · obtain ⟨v9, u9, rfl⟩ := wcd_2 hE c9
    have hvb9 : v9 = bm := hvb v9 u9 rfl
    subst hvb9
    refine lv_aload_n G.1 G.2.1 dL_law_281 rfl (lv_at hl 5 rfl) ?_
    refine lv_iconst (v := (0 : Int32)) G.1 G.2.1 dL_law_282 (by decide) ?_
    refine va_lald G.1 G.2.1 hKL.1 hW.1 0 1 rfl rfl k_in01 dL_law_283 ?_
    refine lv_iload G.1 G.2.1 dL_law_284 (lv_at hl 0 rfl) ?_
    refine lv_i2l (v := (v9).toInt64) G.1 G.2.1 dL_law_286 rfl ?_
    refine W.lcmp G.1 G.2.1 dL_law_287 ?_
    have cmp9 : lg_cmp (woL (.inr (v9, u9)) f (0 : Int32).toNatClampNeg) v9.toInt64 = 0 := k_cmp0 f v9 u9
    refine lv_if_eq (tgt := 293) G.1 G.2.1 dL_law_288 (by decide) (fun c9 => ?_) (fun c9 => absurd cmp9 c9)
    refine lv_goto (tgt := 2082) G.1 G.2.1 dL_law_293 (by decide) ?_
    refine W.widen (k := 62 + 2 * j) (n := 3012 + 12 * j) (by omega) (by omega) ?_
    exact K _ _ _ _ _ _ _ hP9 hW (lv_sub hl [2, 3, 4, 5, 6, 7] rfl)

set_option maxHeartbeats 4000000 in
set_option maxRecDepth 100000 in
theorem law_c1 (hT : l.stackTraces = false) (G : CallFix p m c cL_law 9 s #[Value.ref b] wA RL) (hXs : va_X b L xs s s.heap) (hbl : b < s.heap.size) (hKL : KL D cy cl cd s) (hX : KX (kA s) s) (n : Nat) (hj : j < 512) {a1 : Int32} (v1 : vp_in (x5 + (1 : Int32)) L) (e1 : xs (x5 + (1 : Int32)).toNatClampNeg = a1) (P : St → St → Prop) (ag : AgI [xIA, xIS] (fX4_advance n σ a1) (fX5_advance n τ a1) P) (K : ∀ (f' : Nat → Int64) (g' : Nat → UInt64) (σ' τ' : St) (H : Heap) (locs : List Loc) (ls : Array Slot), P σ' τ' → KW D (kA s) s.heap (wLaw cy cl cd ao ad h h2 hm f' g' σ2 σ' τ') H locs → lv_has ls 9 [(0, .ref b), (1, .ref (h 104)), (2, .ref (hm 10)), (3, .ref ao), (4, .ref ad), (5, .int x5)] → W p l e room_1 s m #[Value.ref b] below meth c H locs (62 + 2 * j) (3012 + 12 * j) Q (F0 m 2082 ls [])) (hW : KW D (kA s) s.heap (wLaw cy cl cd ao ad h h2 hm f g σ2 σ τ) H locs) (hl : lv_has ls 9 [(0, .ref b), (1, .ref (h 104)), (2, .ref (hm 10)), (3, .ref ao), (4, .ref ad), (5, .int x5)]) : W p l e room_1 s m #[Value.ref b] below meth c H locs (60 + 2 * j) (3000 + 12 * j) Q (F0 m 296 ls []) := by
  have hA : ∀ q : Nat, s.heap.size ≤ q → kA s q := fun _ h => h
  have hbA : ¬ kA s b := Nat.not_le.mpr hbl
  have hK := hKL.KK
  obtain ⟨o, bm, τn, ex, em, hE, hth, hvb, hP9⟩ := ag
  refine lv_aload_n G.1 G.2.1 dL_law_296 rfl (lv_at hl 1 rfl) ?_
  refine lv_aload_n G.1 G.2.1 dL_law_297 rfl (lv_at hl 0 rfl) ?_
  refine lv_iload G.1 G.2.1 dL_law_298 (lv_at hl 5 rfl) ?_
  refine lv_iconst (v := (1 : Int32)) G.1 G.2.1 dL_law_300 (by decide) ?_
  refine lv_iadd G.1 G.2.1 dL_law_301 ?_
  refine va_sld G.1 G.2.1 hXs hbl hbA hW.2.2 v1 dL_law_302 ?_
  rw [e1]
  refine lv_aload_n G.1 G.2.1 dL_law_303 rfl (lv_at hl 3 rfl) ?_
  refine kl_w (wr := ([(ad, .inl (cd, 1, .inr (.inr (.inr (.inl g)))))] ++ (wC cy h2 σ2 ++ wM cy hm τ))) (w := ((ao, .inl (cl, 1, .inr (.inl f))) :: wB cy h (h2 103) σ)) (w' := ((ao, .inl (cl, 1, .inr (.inl (woL o f)))) :: wB cy h (h2 103) (wst o))) (n := 3) (As := [.ref (h 104), .int a1, .ref ao]) (rest := []) G hKL hX hA (pmL_in hW) (mL_advance l hT D cy cl cd h (h2 103) ao _ n σ f a1 ex (fun E u h9 => by have h8 := hE E u h9; simpa only [List.mem_cons, List.not_mem_nil, or_false] using h8)) (gSW q_10_13 q_10_14 q_4_12 q_10_15) ⟨rfl, rfl⟩ (by decide +kernel) ⟨Nat.le_of_ble_eq_true rfl, Nat.le_of_ble_eq_true rfl⟩ rfl hl.1 rfl (Nat.le_of_ble_eq_true rfl) dL_law_304 ⟨by show _ ≤ 3160; omega, by show _ ≤ 121633; omega⟩ (fun H locs hW => ?_)
  replace hW := pmL_out (f := (woL o f)) (g := g) (σ2 := σ2) (σ := (wst o)) (τ := τ) hW
  refine lv_istore (lv' := [(6, .int (wcd [xIA, xIS] o)), (0, .ref b), (1, .ref (h 104)), (2, .ref (hm 10)), (3, .ref ao), (4, .ref ad), (5, .int x5)]) G.1 G.2.1 dL_law_307 hl (by decide) rfl (fun ls hl => ?_)
  refine lv_aload_n G.1 G.2.1 dL_law_309 rfl (lv_at hl 3 rfl) ?_
  refine lv_aload_n G.1 G.2.1 dL_law_310 rfl (lv_at hl 1 rfl) ?_
  refine lv_iload G.1 G.2.1 dL_law_311 (lv_at hl 6 rfl) ?_
  refine lv_iconst (v := (1 : Int32)) G.1 G.2.1 dL_law_313 (by decide) ?_
  refine lv_iadd G.1 G.2.1 dL_law_314 ?_
  refine va_sld G.1 G.2.1 hXs hbl hbA hW.2.2 v1 dL_law_315 ?_
  rw [e1]
  refine kc_i (wr := ((ao, .inl (cl, 1, .inr (.inl (woL o f)))) :: (ad, .inl (cd, 1, .inr (.inr (.inr (.inl g))))) :: wBB cy h h2 σ2 (wst o))) (w := wM cy hm τ) (w' := wM cy hm τn) (n := 1) (As := [.int a1]) (rest := []) (C := RX5) G hK hA hW (mX5_advance l D cy hm _ n τ a1 em) (gV q_12_17 q_12_18 q_12_19 q_1_5 q_12_20) ⟨rfl, rfl⟩ (by decide +kernel) ⟨Nat.le_of_ble_eq_true rfl, Nat.le_of_ble_eq_true rfl⟩ (va_recv hK.1 hW.1 (ci := 7) (q0 := 55) rfl rfl) rfl hl.1 rfl (Nat.le_of_ble_eq_true rfl) dL_law_316 ⟨by show _ ≤ 3160; omega, by show _ ≤ 121633; omega⟩ (fun H locs hW => ?_)
  replace hW : KW D (kA s) s.heap (wLaw cy cl cd ao ad h h2 hm (woL o f) g σ2 (wst o) τn) H locs := hW
  refine lv_istore (lv' := [(7, .int bm), (6, .int (wcd [xIA, xIS] o)), (0, .ref b), (1, .ref (h 104)), (2, .ref (hm 10)), (3, .ref ao), (4, .ref ad), (5, .int x5)]) G.1 G.2.1 dL_law_319 hl (by decide) rfl (fun ls hl => ?_)
  refine lv_aload_n G.1 G.2.1 dL_law_321 rfl (lv_at hl 4 rfl) ?_
  refine kc_i (wr := ((ao, .inl (cl, 1, .inr (.inl (woL o f)))) :: (ad, .inl (cd, 1, .inr (.inr (.inr (.inl g))))) :: wBB cy h h2 σ2 (wst o))) (w := wM cy hm τn) (w' := wM cy hm τn) (n := 0) (As := []) (rest := []) (C := RX5) G hK hA hW (mX5_thrown l D cy hm _ n τn  (show fX5_thrown n τn = some (τn 6 0) from rfl)) (gV q_10_9 q_10_10 q_10_11 q_1_5 q_10_12) ⟨rfl, rfl⟩ (by decide +kernel) ⟨Nat.le_of_ble_eq_true rfl, Nat.le_of_ble_eq_true rfl⟩ (va_recv hK.1 hW.1 (ci := 7) (q0 := 55) rfl rfl) rfl hl.1 rfl (Nat.le_of_ble_eq_true rfl) dL_law_322 ⟨by show _ ≤ 3160; omega, by show _ ≤ 121633; omega⟩ (fun H locs hW => ?_)
  replace hW : KW D (kA s) s.heap (wLaw cy cl cd ao ad h h2 hm (woL o f) g σ2 (wst o) τn) H locs := hW
  refine lv_iload G.1 G.2.1 dL_law_325 (lv_at hl 1 rfl) ?_
  refine lv_icmp_eq (tgt := 332) G.1 G.2.1 dL_law_327 (by decide) (fun c9 => ?_) (fun c9 => absurd hth c9)
  refine lv_iload G.1 G.2.1 dL_law_332 (lv_at hl 1 rfl) ?_
  refine lv_if_ne (tgt := 349) G.1 G.2.1 dL_law_334 (by decide) (fun c9 => ?_) (fun c9 => ?_)
  · skip
    refine lv_goto (tgt := 2082) G.1 G.2.1 dL_law_349 (by decide) ?_
    refine W.widen (k := 62 + 2 * j) (n := 3012 + 12 * j) (by omega) (by omega) ?_
    exact K _ _ _ _ _ _ _ hP9 hW (lv_sub hl [2, 3, 4, 5, 6, 7] rfl)
  · obtain ⟨v9, u9, rfl⟩ := wcd_2 hE c9
    have hvb9 : v9 = bm := hvb v9 u9 rfl
    subst hvb9
    refine lv_aload_n G.1 G.2.1 dL_law_337 rfl (lv_at hl 5 rfl) ?_
    refine lv_iconst (v := (0 : Int32)) G.1 G.2.1 dL_law_338 (by decide) ?_
    refine va_lald G.1 G.2.1 hKL.1 hW.1 0 1 rfl rfl k_in01 dL_law_339 ?_
    refine lv_iload G.1 G.2.1 dL_law_340 (lv_at hl 0 rfl) ?_
    refine lv_i2l (v := (v9).toInt64) G.1 G.2.1 dL_law_342 rfl ?_
    refine W.lcmp G.1 G.2.1 dL_law_343 ?_
    have cmp9 : lg_cmp (woL (.inr (v9, u9)) f (0 : Int32).toNatClampNeg) v9.toInt64 = 0 := k_cmp0 f v9 u9
    refine lv_if_eq (tgt := 349) G.1 G.2.1 dL_law_344 (by decide) (fun c9 => ?_) (fun c9 => absurd cmp9 c9)
    refine lv_goto (tgt := 2082) G.1 G.2.1 dL_law_349 (by decide) ?_
    refine W.widen (k := 62 + 2 * j) (n := 3012 + 12 * j) (by omega) (by omega) ?_
    exact K _ _ _ _ _ _ _ hP9 hW (lv_sub hl [2, 3, 4, 5, 6, 7] rfl)

set_option maxHeartbeats 4000000 in
set_option maxRecDepth 100000 in
theorem law_c2 (hT : l.stackTraces = false) (G : CallFix p m c cL_law 9 s #[Value.ref b] wA RL) (hXs : va_X b L xs s s.heap) (hbl : b < s.heap.size) (hKL : KL D cy cl cd s) (hX : KX (kA s) s) (n : Nat) (hj : j < 512) {a1 : Int32} (v1 : vp_in (x5 + (1 : Int32)) L) (e1 : xs (x5 + (1 : Int32)).toNatClampNeg = a1) (P : St → St → Prop) (ag : AgI [xIO, xIS] (fX4_cancel n σ a1) (fX5_cancel n τ a1) P) (K : ∀ (f' : Nat → Int64) (g' : Nat → UInt64) (σ' τ' : St) (H : Heap) (locs : List Loc) (ls : Array Slot), P σ' τ' → KW D (kA s) s.heap (wLaw cy cl cd ao ad h h2 hm f' g' σ2 σ' τ') H locs → lv_has ls 9 [(0, .ref b), (1, .ref (h 104)), (2, .ref (hm 10)), (3, .ref ao), (4, .ref ad), (5, .int x5)] → W p l e room_1 s m #[Value.ref b] below meth c H locs (62 + 2 * j) (3012 + 12 * j) Q (F0 m 2082 ls [])) (hW : KW D (kA s) s.heap (wLaw cy cl cd ao ad h h2 hm f g σ2 σ τ) H locs) (hl : lv_has ls 9 [(0, .ref b), (1, .ref (h 104)), (2, .ref (hm 10)), (3, .ref ao), (4, .ref ad), (5, .int x5)]) : W p l e room_1 s m #[Value.ref b] below meth c H locs (60 + 2 * j) (3000 + 12 * j) Q (F0 m 352 ls []) := by
  have hA : ∀ q : Nat, s.heap.size ≤ q → kA s q := fun _ h => h
  have hbA : ¬ kA s b := Nat.not_le.mpr hbl
  have hK := hKL.KK
  obtain ⟨o, bm, τn, ex, em, hE, hth, hvb, hP9⟩ := ag
  refine lv_aload_n G.1 G.2.1 dL_law_352 rfl (lv_at hl 1 rfl) ?_
  refine lv_aload_n G.1 G.2.1 dL_law_353 rfl (lv_at hl 0 rfl) ?_
  refine lv_iload G.1 G.2.1 dL_law_354 (lv_at hl 5 rfl) ?_
  refine lv_iconst (v := (1 : Int32)) G.1 G.2.1 dL_law_356 (by decide) ?_
  refine lv_iadd G.1 G.2.1 dL_law_357 ?_
  refine va_sld G.1 G.2.1 hXs hbl hbA hW.2.2 v1 dL_law_358 ?_
  rw [e1]
  refine lv_aload_n G.1 G.2.1 dL_law_359 rfl (lv_at hl 3 rfl) ?_
  refine kl_w (wr := ([(ad, .inl (cd, 1, .inr (.inr (.inr (.inl g)))))] ++ (wC cy h2 σ2 ++ wM cy hm τ))) (w := ((ao, .inl (cl, 1, .inr (.inl f))) :: wB cy h (h2 103) σ)) (w' := ((ao, .inl (cl, 1, .inr (.inl (woL o f)))) :: wB cy h (h2 103) (wst o))) (n := 3) (As := [.ref (h 104), .int a1, .ref ao]) (rest := []) G hKL hX hA (pmL_in hW) (mL_cancel l hT D cy cl cd h (h2 103) ao _ n σ f a1 ex (fun E u h9 => by have h8 := hE E u h9; simpa only [List.mem_cons, List.not_mem_nil, or_false] using h8)) (gSW q_13_17 q_13_18 q_4_12 q_13_19) ⟨rfl, rfl⟩ (by decide +kernel) ⟨Nat.le_of_ble_eq_true rfl, Nat.le_of_ble_eq_true rfl⟩ rfl hl.1 rfl (Nat.le_of_ble_eq_true rfl) dL_law_360 ⟨by show _ ≤ 3160; omega, by show _ ≤ 121633; omega⟩ (fun H locs hW => ?_)
  replace hW := pmL_out (f := (woL o f)) (g := g) (σ2 := σ2) (σ := (wst o)) (τ := τ) hW
  refine lv_istore (lv' := [(6, .int (wcd [xIO, xIS] o)), (0, .ref b), (1, .ref (h 104)), (2, .ref (hm 10)), (3, .ref ao), (4, .ref ad), (5, .int x5)]) G.1 G.2.1 dL_law_363 hl (by decide) rfl (fun ls hl => ?_)
  refine lv_aload_n G.1 G.2.1 dL_law_365 rfl (lv_at hl 3 rfl) ?_
  refine lv_aload_n G.1 G.2.1 dL_law_366 rfl (lv_at hl 1 rfl) ?_
  refine lv_iload G.1 G.2.1 dL_law_367 (lv_at hl 6 rfl) ?_
  refine lv_iconst (v := (1 : Int32)) G.1 G.2.1 dL_law_369 (by decide) ?_
  refine lv_iadd G.1 G.2.1 dL_law_370 ?_
  refine va_sld G.1 G.2.1 hXs hbl hbA hW.2.2 v1 dL_law_371 ?_
  rw [e1]
  refine kc_i (wr := ((ao, .inl (cl, 1, .inr (.inl (woL o f)))) :: (ad, .inl (cd, 1, .inr (.inr (.inr (.inl g))))) :: wBB cy h h2 σ2 (wst o))) (w := wM cy hm τ) (w' := wM cy hm τn) (n := 1) (As := [.int a1]) (rest := []) (C := RX5) G hK hA hW (mX5_cancel l D cy hm _ n τ a1 em) (gV q_14_16 q_14_17 q_14_18 q_1_5 q_14_19) ⟨rfl, rfl⟩ (by decide +kernel) ⟨Nat.le_of_ble_eq_true rfl, Nat.le_of_ble_eq_true rfl⟩ (va_recv hK.1 hW.1 (ci := 7) (q0 := 55) rfl rfl) rfl hl.1 rfl (Nat.le_of_ble_eq_true rfl) dL_law_372 ⟨by show _ ≤ 3160; omega, by show _ ≤ 121633; omega⟩ (fun H locs hW => ?_)
  replace hW : KW D (kA s) s.heap (wLaw cy cl cd ao ad h h2 hm (woL o f) g σ2 (wst o) τn) H locs := hW
  refine lv_istore (lv' := [(7, .int bm), (6, .int (wcd [xIO, xIS] o)), (0, .ref b), (1, .ref (h 104)), (2, .ref (hm 10)), (3, .ref ao), (4, .ref ad), (5, .int x5)]) G.1 G.2.1 dL_law_375 hl (by decide) rfl (fun ls hl => ?_)
  refine lv_aload_n G.1 G.2.1 dL_law_377 rfl (lv_at hl 4 rfl) ?_
  refine kc_i (wr := ((ao, .inl (cl, 1, .inr (.inl (woL o f)))) :: (ad, .inl (cd, 1, .inr (.inr (.inr (.inl g))))) :: wBB cy h h2 σ2 (wst o))) (w := wM cy hm τn) (w' := wM cy hm τn) (n := 0) (As := []) (rest := []) (C := RX5) G hK hA hW (mX5_thrown l D cy hm _ n τn  (show fX5_thrown n τn = some (τn 6 0) from rfl)) (gV q_10_9 q_10_10 q_10_11 q_1_5 q_10_12) ⟨rfl, rfl⟩ (by decide +kernel) ⟨Nat.le_of_ble_eq_true rfl, Nat.le_of_ble_eq_true rfl⟩ (va_recv hK.1 hW.1 (ci := 7) (q0 := 55) rfl rfl) rfl hl.1 rfl (Nat.le_of_ble_eq_true rfl) dL_law_378 ⟨by show _ ≤ 3160; omega, by show _ ≤ 121633; omega⟩ (fun H locs hW => ?_)
  replace hW : KW D (kA s) s.heap (wLaw cy cl cd ao ad h h2 hm (woL o f) g σ2 (wst o) τn) H locs := hW
  refine lv_iload G.1 G.2.1 dL_law_381 (lv_at hl 1 rfl) ?_
  refine lv_icmp_eq (tgt := 388) G.1 G.2.1 dL_law_383 (by decide) (fun c9 => ?_) (fun c9 => absurd hth c9)
  refine lv_iload G.1 G.2.1 dL_law_388 (lv_at hl 1 rfl) ?_
  refine lv_if_ne (tgt := 405) G.1 G.2.1 dL_law_390 (by decide) (fun c9 => ?_) (fun c9 => ?_)
  · skip
    refine lv_goto (tgt := 2082) G.1 G.2.1 dL_law_405 (by decide) ?_
    refine W.widen (k := 62 + 2 * j) (n := 3012 + 12 * j) (by omega) (by omega) ?_
    exact K _ _ _ _ _ _ _ hP9 hW (lv_sub hl [2, 3, 4, 5, 6, 7] rfl)
  · obtain ⟨v9, u9, rfl⟩ := wcd_2 hE c9
    have hvb9 : v9 = bm := hvb v9 u9 rfl
    subst hvb9
    refine lv_aload_n G.1 G.2.1 dL_law_393 rfl (lv_at hl 5 rfl) ?_
    refine lv_iconst (v := (0 : Int32)) G.1 G.2.1 dL_law_394 (by decide) ?_
    refine va_lald G.1 G.2.1 hKL.1 hW.1 0 1 rfl rfl k_in01 dL_law_395 ?_
    refine lv_iload G.1 G.2.1 dL_law_396 (lv_at hl 0 rfl) ?_
    refine lv_i2l (v := (v9).toInt64) G.1 G.2.1 dL_law_398 rfl ?_
    refine W.lcmp G.1 G.2.1 dL_law_399 ?_
    have cmp9 : lg_cmp (woL (.inr (v9, u9)) f (0 : Int32).toNatClampNeg) v9.toInt64 = 0 := k_cmp0 f v9 u9
    refine lv_if_eq (tgt := 405) G.1 G.2.1 dL_law_400 (by decide) (fun c9 => ?_) (fun c9 => absurd cmp9 c9)
    refine lv_goto (tgt := 2082) G.1 G.2.1 dL_law_405 (by decide) ?_
    refine W.widen (k := 62 + 2 * j) (n := 3012 + 12 * j) (by omega) (by omega) ?_
    exact K _ _ _ _ _ _ _ hP9 hW (lv_sub hl [2, 3, 4, 5, 6, 7] rfl)

set_option maxHeartbeats 4000000 in
set_option maxRecDepth 100000 in
theorem law_c3 (hT : l.stackTraces = false) (G : CallFix p m c cL_law 9 s #[Value.ref b] wA RL) (hXs : va_X b L xs s s.heap) (hbl : b < s.heap.size) (hKL : KL D cy cl cd s) (hX : KX (kA s) s) (n : Nat) (hj : j < 512) {a1 a2 : Int32} (v1 : vp_in (x5 + (1 : Int32)) L) (e1 : xs (x5 + (1 : Int32)).toNatClampNeg = a1) (v2 : vp_in (x5 + (2 : Int32)) L) (e2 : xs (x5 + (2 : Int32)).toNatClampNeg = a2) (P : St → St → Prop) (ag : AgI [xIO, xIA, xIS] (fX4_preempt n σ a1 a2) (fX5_preempt n τ a1 a2) P) (K : ∀ (f' : Nat → Int64) (g' : Nat → UInt64) (σ' τ' : St) (H : Heap) (locs : List Loc) (ls : Array Slot), P σ' τ' → KW D (kA s) s.heap (wLaw cy cl cd ao ad h h2 hm f' g' σ2 σ' τ') H locs → lv_has ls 9 [(0, .ref b), (1, .ref (h 104)), (2, .ref (hm 10)), (3, .ref ao), (4, .ref ad), (5, .int x5)] → W p l e room_1 s m #[Value.ref b] below meth c H locs (62 + 2 * j) (3012 + 12 * j) Q (F0 m 2082 ls [])) (hW : KW D (kA s) s.heap (wLaw cy cl cd ao ad h h2 hm f g σ2 σ τ) H locs) (hl : lv_has ls 9 [(0, .ref b), (1, .ref (h 104)), (2, .ref (hm 10)), (3, .ref ao), (4, .ref ad), (5, .int x5)]) : W p l e room_1 s m #[Value.ref b] below meth c H locs (60 + 2 * j) (3000 + 12 * j) Q (F0 m 408 ls []) := by
  have hA : ∀ q : Nat, s.heap.size ≤ q → kA s q := fun _ h => h
  have hbA : ¬ kA s b := Nat.not_le.mpr hbl
  have hK := hKL.KK
  obtain ⟨o, bm, τn, ex, em, hE, hth, hvb, hP9⟩ := ag
  refine lv_aload_n G.1 G.2.1 dL_law_408 rfl (lv_at hl 1 rfl) ?_
  refine lv_aload_n G.1 G.2.1 dL_law_409 rfl (lv_at hl 0 rfl) ?_
  refine lv_iload G.1 G.2.1 dL_law_410 (lv_at hl 5 rfl) ?_
  refine lv_iconst (v := (1 : Int32)) G.1 G.2.1 dL_law_412 (by decide) ?_
  refine lv_iadd G.1 G.2.1 dL_law_413 ?_
  refine va_sld G.1 G.2.1 hXs hbl hbA hW.2.2 v1 dL_law_414 ?_
  rw [e1]
  refine lv_aload_n G.1 G.2.1 dL_law_415 rfl (lv_at hl 0 rfl) ?_
  refine lv_iload G.1 G.2.1 dL_law_416 (lv_at hl 5 rfl) ?_
  refine lv_iconst (v := (2 : Int32)) G.1 G.2.1 dL_law_418 (by decide) ?_
  refine lv_iadd G.1 G.2.1 dL_law_419 ?_
  refine va_sld G.1 G.2.1 hXs hbl hbA hW.2.2 v2 dL_law_420 ?_
  rw [e2]
  refine lv_aload_n G.1 G.2.1 dL_law_421 rfl (lv_at hl 3 rfl) ?_
  refine kl_w (wr := ([(ad, .inl (cd, 1, .inr (.inr (.inr (.inl g)))))] ++ (wC cy h2 σ2 ++ wM cy hm τ))) (w := ((ao, .inl (cl, 1, .inr (.inl f))) :: wB cy h (h2 103) σ)) (w' := ((ao, .inl (cl, 1, .inr (.inl (woL o f)))) :: wB cy h (h2 103) (wst o))) (n := 4) (As := [.ref (h 104), .int a1, .int a2, .ref ao]) (rest := []) G hKL hX hA (pmL_in hW) (mL_preempt l hT D cy cl cd h (h2 103) ao _ n σ f a1 a2 ex (fun E u h9 => by have h8 := hE E u h9; simpa only [List.mem_cons, List.not_mem_nil, or_false] using h8)) (gSW q_15_0 q_15_1 q_4_12 q_15_2) ⟨rfl, rfl⟩ (by decide +kernel) ⟨Nat.le_of_ble_eq_true rfl, Nat.le_of_ble_eq_true rfl⟩ rfl hl.1 rfl (Nat.le_of_ble_eq_true rfl) dL_law_422 ⟨by show _ ≤ 3160; omega, by show _ ≤ 121633; omega⟩ (fun H locs hW => ?_)
  replace hW := pmL_out (f := (woL o f)) (g := g) (σ2 := σ2) (σ := (wst o)) (τ := τ) hW
  refine lv_istore (lv' := [(6, .int (wcd [xIO, xIA, xIS] o)), (0, .ref b), (1, .ref (h 104)), (2, .ref (hm 10)), (3, .ref ao), (4, .ref ad), (5, .int x5)]) G.1 G.2.1 dL_law_425 hl (by decide) rfl (fun ls hl => ?_)
  refine lv_aload_n G.1 G.2.1 dL_law_427 rfl (lv_at hl 3 rfl) ?_
  refine lv_aload_n G.1 G.2.1 dL_law_428 rfl (lv_at hl 1 rfl) ?_
  refine lv_iload G.1 G.2.1 dL_law_429 (lv_at hl 6 rfl) ?_
  refine lv_iconst (v := (1 : Int32)) G.1 G.2.1 dL_law_431 (by decide) ?_
  refine lv_iadd G.1 G.2.1 dL_law_432 ?_
  refine va_sld G.1 G.2.1 hXs hbl hbA hW.2.2 v1 dL_law_433 ?_
  rw [e1]
  refine lv_aload_n G.1 G.2.1 dL_law_434 rfl (lv_at hl 1 rfl) ?_
  refine lv_iload G.1 G.2.1 dL_law_435 (lv_at hl 6 rfl) ?_
  refine lv_iconst (v := (2 : Int32)) G.1 G.2.1 dL_law_437 (by decide) ?_
  refine lv_iadd G.1 G.2.1 dL_law_438 ?_
  refine va_sld G.1 G.2.1 hXs hbl hbA hW.2.2 v2 dL_law_439 ?_
  rw [e2]
  refine kc_i (wr := ((ao, .inl (cl, 1, .inr (.inl (woL o f)))) :: (ad, .inl (cd, 1, .inr (.inr (.inr (.inl g))))) :: wBB cy h h2 σ2 (wst o))) (w := wM cy hm τ) (w' := wM cy hm τn) (n := 2) (As := [.int a1, .int a2]) (rest := []) (C := RX5) G hK hA hW (mX5_preempt l D cy hm _ n τ a1 a2 em) (gV q_15_12 q_15_13 q_15_14 q_1_5 q_15_15) ⟨rfl, rfl⟩ (by decide +kernel) ⟨Nat.le_of_ble_eq_true rfl, Nat.le_of_ble_eq_true rfl⟩ (va_recv hK.1 hW.1 (ci := 7) (q0 := 55) rfl rfl) rfl hl.1 rfl (Nat.le_of_ble_eq_true rfl) dL_law_440 ⟨by show _ ≤ 3160; omega, by show _ ≤ 121633; omega⟩ (fun H locs hW => ?_)
  replace hW : KW D (kA s) s.heap (wLaw cy cl cd ao ad h h2 hm (woL o f) g σ2 (wst o) τn) H locs := hW
  refine lv_istore (lv' := [(7, .int bm), (6, .int (wcd [xIO, xIA, xIS] o)), (0, .ref b), (1, .ref (h 104)), (2, .ref (hm 10)), (3, .ref ao), (4, .ref ad), (5, .int x5)]) G.1 G.2.1 dL_law_443 hl (by decide) rfl (fun ls hl => ?_)
  refine lv_aload_n G.1 G.2.1 dL_law_445 rfl (lv_at hl 4 rfl) ?_
  refine kc_i (wr := ((ao, .inl (cl, 1, .inr (.inl (woL o f)))) :: (ad, .inl (cd, 1, .inr (.inr (.inr (.inl g))))) :: wBB cy h h2 σ2 (wst o))) (w := wM cy hm τn) (w' := wM cy hm τn) (n := 0) (As := []) (rest := []) (C := RX5) G hK hA hW (mX5_thrown l D cy hm _ n τn  (show fX5_thrown n τn = some (τn 6 0) from rfl)) (gV q_10_9 q_10_10 q_10_11 q_1_5 q_10_12) ⟨rfl, rfl⟩ (by decide +kernel) ⟨Nat.le_of_ble_eq_true rfl, Nat.le_of_ble_eq_true rfl⟩ (va_recv hK.1 hW.1 (ci := 7) (q0 := 55) rfl rfl) rfl hl.1 rfl (Nat.le_of_ble_eq_true rfl) dL_law_446 ⟨by show _ ≤ 3160; omega, by show _ ≤ 121633; omega⟩ (fun H locs hW => ?_)
  replace hW : KW D (kA s) s.heap (wLaw cy cl cd ao ad h h2 hm (woL o f) g σ2 (wst o) τn) H locs := hW
  refine lv_iload G.1 G.2.1 dL_law_449 (lv_at hl 1 rfl) ?_
  refine lv_icmp_eq (tgt := 456) G.1 G.2.1 dL_law_451 (by decide) (fun c9 => ?_) (fun c9 => absurd hth c9)
  refine lv_iload G.1 G.2.1 dL_law_456 (lv_at hl 1 rfl) ?_
  refine lv_if_ne (tgt := 473) G.1 G.2.1 dL_law_458 (by decide) (fun c9 => ?_) (fun c9 => ?_)
  · skip
    refine lv_goto (tgt := 2082) G.1 G.2.1 dL_law_473 (by decide) ?_
    refine W.widen (k := 62 + 2 * j) (n := 3012 + 12 * j) (by omega) (by omega) ?_
    exact K _ _ _ _ _ _ _ hP9 hW (lv_sub hl [2, 3, 4, 5, 6, 7] rfl)
  · obtain ⟨v9, u9, rfl⟩ := wcd_3 hE c9
    have hvb9 : v9 = bm := hvb v9 u9 rfl
    subst hvb9
    refine lv_aload_n G.1 G.2.1 dL_law_461 rfl (lv_at hl 5 rfl) ?_
    refine lv_iconst (v := (0 : Int32)) G.1 G.2.1 dL_law_462 (by decide) ?_
    refine va_lald G.1 G.2.1 hKL.1 hW.1 0 1 rfl rfl k_in01 dL_law_463 ?_
    refine lv_iload G.1 G.2.1 dL_law_464 (lv_at hl 0 rfl) ?_
    refine lv_i2l (v := (v9).toInt64) G.1 G.2.1 dL_law_466 rfl ?_
    refine W.lcmp G.1 G.2.1 dL_law_467 ?_
    have cmp9 : lg_cmp (woL (.inr (v9, u9)) f (0 : Int32).toNatClampNeg) v9.toInt64 = 0 := k_cmp0 f v9 u9
    refine lv_if_eq (tgt := 473) G.1 G.2.1 dL_law_468 (by decide) (fun c9 => ?_) (fun c9 => absurd cmp9 c9)
    refine lv_goto (tgt := 2082) G.1 G.2.1 dL_law_473 (by decide) ?_
    refine W.widen (k := 62 + 2 * j) (n := 3012 + 12 * j) (by omega) (by omega) ?_
    exact K _ _ _ _ _ _ _ hP9 hW (lv_sub hl [2, 3, 4, 5, 6, 7] rfl)

set_option maxHeartbeats 4000000 in
set_option maxRecDepth 100000 in
theorem law_c4 (hT : l.stackTraces = false) (G : CallFix p m c cL_law 9 s #[Value.ref b] wA RL) (hXs : va_X b L xs s s.heap) (hbl : b < s.heap.size) (hKL : KL D cy cl cd s) (hX : KX (kA s) s) (n : Nat) (hj : j < 512) {a1 a2 a3 : Int32} (v1 : vp_in (x5 + (1 : Int32)) L) (e1 : xs (x5 + (1 : Int32)).toNatClampNeg = a1) (v2 : vp_in (x5 + (2 : Int32)) L) (e2 : xs (x5 + (2 : Int32)).toNatClampNeg = a2) (v3 : vp_in (x5 + (3 : Int32)) L) (e3 : xs (x5 + (3 : Int32)).toNatClampNeg = a3) (P : St → St → Prop) (ag : AgI [xIA, xIS] (fX4_reserve n σ a1 a2 a3) (fX5_reserve n τ a1 a2 a3) P) (K : ∀ (f' : Nat → Int64) (g' : Nat → UInt64) (σ' τ' : St) (H : Heap) (locs : List Loc) (ls : Array Slot), P σ' τ' → KW D (kA s) s.heap (wLaw cy cl cd ao ad h h2 hm f' g' σ2 σ' τ') H locs → lv_has ls 9 [(0, .ref b), (1, .ref (h 104)), (2, .ref (hm 10)), (3, .ref ao), (4, .ref ad), (5, .int x5)] → W p l e room_1 s m #[Value.ref b] below meth c H locs (62 + 2 * j) (3012 + 12 * j) Q (F0 m 2082 ls [])) (hW : KW D (kA s) s.heap (wLaw cy cl cd ao ad h h2 hm f g σ2 σ τ) H locs) (hl : lv_has ls 9 [(0, .ref b), (1, .ref (h 104)), (2, .ref (hm 10)), (3, .ref ao), (4, .ref ad), (5, .int x5)]) : W p l e room_1 s m #[Value.ref b] below meth c H locs (60 + 2 * j) (3000 + 12 * j) Q (F0 m 476 ls []) := by
  have hA : ∀ q : Nat, s.heap.size ≤ q → kA s q := fun _ h => h
  have hbA : ¬ kA s b := Nat.not_le.mpr hbl
  have hK := hKL.KK
  obtain ⟨o, bm, τn, ex, em, hE, hth, hvb, hP9⟩ := ag
  refine lv_aload_n G.1 G.2.1 dL_law_476 rfl (lv_at hl 1 rfl) ?_
  refine lv_aload_n G.1 G.2.1 dL_law_477 rfl (lv_at hl 0 rfl) ?_
  refine lv_iload G.1 G.2.1 dL_law_478 (lv_at hl 5 rfl) ?_
  refine lv_iconst (v := (1 : Int32)) G.1 G.2.1 dL_law_480 (by decide) ?_
  refine lv_iadd G.1 G.2.1 dL_law_481 ?_
  refine va_sld G.1 G.2.1 hXs hbl hbA hW.2.2 v1 dL_law_482 ?_
  rw [e1]
  refine lv_aload_n G.1 G.2.1 dL_law_483 rfl (lv_at hl 0 rfl) ?_
  refine lv_iload G.1 G.2.1 dL_law_484 (lv_at hl 5 rfl) ?_
  refine lv_iconst (v := (2 : Int32)) G.1 G.2.1 dL_law_486 (by decide) ?_
  refine lv_iadd G.1 G.2.1 dL_law_487 ?_
  refine va_sld G.1 G.2.1 hXs hbl hbA hW.2.2 v2 dL_law_488 ?_
  rw [e2]
  refine lv_aload_n G.1 G.2.1 dL_law_489 rfl (lv_at hl 0 rfl) ?_
  refine lv_iload G.1 G.2.1 dL_law_490 (lv_at hl 5 rfl) ?_
  refine lv_iconst (v := (3 : Int32)) G.1 G.2.1 dL_law_492 (by decide) ?_
  refine lv_iadd G.1 G.2.1 dL_law_493 ?_
  refine va_sld G.1 G.2.1 hXs hbl hbA hW.2.2 v3 dL_law_494 ?_
  rw [e3]
  refine lv_aload_n G.1 G.2.1 dL_law_495 rfl (lv_at hl 3 rfl) ?_
  refine kl_w (wr := ([(ad, .inl (cd, 1, .inr (.inr (.inr (.inl g)))))] ++ (wC cy h2 σ2 ++ wM cy hm τ))) (w := ((ao, .inl (cl, 1, .inr (.inl f))) :: wB cy h (h2 103) σ)) (w' := ((ao, .inl (cl, 1, .inr (.inl (woL o f)))) :: wB cy h (h2 103) (wst o))) (n := 5) (As := [.ref (h 104), .int a1, .int a2, .int a3, .ref ao]) (rest := []) G hKL hX hA (pmL_in hW) (mL_reserve l hT D cy cl cd h (h2 103) ao _ n σ f a1 a2 a3 ex (fun E u h9 => by have h8 := hE E u h9; simpa only [List.mem_cons, List.not_mem_nil, or_false] using h8)) (gSW q_15_16 q_15_17 q_4_12 q_15_18) ⟨rfl, rfl⟩ (by decide +kernel) ⟨Nat.le_of_ble_eq_true rfl, Nat.le_of_ble_eq_true rfl⟩ rfl hl.1 rfl (Nat.le_of_ble_eq_true rfl) dL_law_496 ⟨by show _ ≤ 3160; omega, by show _ ≤ 121633; omega⟩ (fun H locs hW => ?_)
  replace hW := pmL_out (f := (woL o f)) (g := g) (σ2 := σ2) (σ := (wst o)) (τ := τ) hW
  refine lv_istore (lv' := [(6, .int (wcd [xIA, xIS] o)), (0, .ref b), (1, .ref (h 104)), (2, .ref (hm 10)), (3, .ref ao), (4, .ref ad), (5, .int x5)]) G.1 G.2.1 dL_law_499 hl (by decide) rfl (fun ls hl => ?_)
  refine lv_aload_n G.1 G.2.1 dL_law_501 rfl (lv_at hl 3 rfl) ?_
  refine lv_aload_n G.1 G.2.1 dL_law_502 rfl (lv_at hl 1 rfl) ?_
  refine lv_iload G.1 G.2.1 dL_law_503 (lv_at hl 6 rfl) ?_
  refine lv_iconst (v := (1 : Int32)) G.1 G.2.1 dL_law_505 (by decide) ?_
  refine lv_iadd G.1 G.2.1 dL_law_506 ?_
  refine va_sld G.1 G.2.1 hXs hbl hbA hW.2.2 v1 dL_law_507 ?_
  rw [e1]
  refine lv_aload_n G.1 G.2.1 dL_law_508 rfl (lv_at hl 1 rfl) ?_
  refine lv_iload G.1 G.2.1 dL_law_509 (lv_at hl 6 rfl) ?_
  refine lv_iconst (v := (2 : Int32)) G.1 G.2.1 dL_law_511 (by decide) ?_
  refine lv_iadd G.1 G.2.1 dL_law_512 ?_
  refine va_sld G.1 G.2.1 hXs hbl hbA hW.2.2 v2 dL_law_513 ?_
  rw [e2]
  refine lv_aload_n G.1 G.2.1 dL_law_514 rfl (lv_at hl 1 rfl) ?_
  refine lv_iload G.1 G.2.1 dL_law_515 (lv_at hl 6 rfl) ?_
  refine lv_iconst (v := (3 : Int32)) G.1 G.2.1 dL_law_517 (by decide) ?_
  refine lv_iadd G.1 G.2.1 dL_law_518 ?_
  refine va_sld G.1 G.2.1 hXs hbl hbA hW.2.2 v3 dL_law_519 ?_
  rw [e3]
  refine kc_i (wr := ((ao, .inl (cl, 1, .inr (.inl (woL o f)))) :: (ad, .inl (cd, 1, .inr (.inr (.inr (.inl g))))) :: wBB cy h h2 σ2 (wst o))) (w := wM cy hm τ) (w' := wM cy hm τn) (n := 3) (As := [.int a1, .int a2, .int a3]) (rest := []) (C := RX5) G hK hA hW (mX5_reserve l D cy hm _ n τ a1 a2 a3 em) (gV q_16_13 q_16_14 q_16_15 q_1_5 q_16_16) ⟨rfl, rfl⟩ (by decide +kernel) ⟨Nat.le_of_ble_eq_true rfl, Nat.le_of_ble_eq_true rfl⟩ (va_recv hK.1 hW.1 (ci := 7) (q0 := 55) rfl rfl) rfl hl.1 rfl (Nat.le_of_ble_eq_true rfl) dL_law_520 ⟨by show _ ≤ 3160; omega, by show _ ≤ 121633; omega⟩ (fun H locs hW => ?_)
  replace hW : KW D (kA s) s.heap (wLaw cy cl cd ao ad h h2 hm (woL o f) g σ2 (wst o) τn) H locs := hW
  refine lv_istore (lv' := [(7, .int bm), (6, .int (wcd [xIA, xIS] o)), (0, .ref b), (1, .ref (h 104)), (2, .ref (hm 10)), (3, .ref ao), (4, .ref ad), (5, .int x5)]) G.1 G.2.1 dL_law_523 hl (by decide) rfl (fun ls hl => ?_)
  refine lv_aload_n G.1 G.2.1 dL_law_525 rfl (lv_at hl 4 rfl) ?_
  refine kc_i (wr := ((ao, .inl (cl, 1, .inr (.inl (woL o f)))) :: (ad, .inl (cd, 1, .inr (.inr (.inr (.inl g))))) :: wBB cy h h2 σ2 (wst o))) (w := wM cy hm τn) (w' := wM cy hm τn) (n := 0) (As := []) (rest := []) (C := RX5) G hK hA hW (mX5_thrown l D cy hm _ n τn  (show fX5_thrown n τn = some (τn 6 0) from rfl)) (gV q_10_9 q_10_10 q_10_11 q_1_5 q_10_12) ⟨rfl, rfl⟩ (by decide +kernel) ⟨Nat.le_of_ble_eq_true rfl, Nat.le_of_ble_eq_true rfl⟩ (va_recv hK.1 hW.1 (ci := 7) (q0 := 55) rfl rfl) rfl hl.1 rfl (Nat.le_of_ble_eq_true rfl) dL_law_526 ⟨by show _ ≤ 3160; omega, by show _ ≤ 121633; omega⟩ (fun H locs hW => ?_)
  replace hW : KW D (kA s) s.heap (wLaw cy cl cd ao ad h h2 hm (woL o f) g σ2 (wst o) τn) H locs := hW
  refine lv_iload G.1 G.2.1 dL_law_529 (lv_at hl 1 rfl) ?_
  refine lv_icmp_eq (tgt := 536) G.1 G.2.1 dL_law_531 (by decide) (fun c9 => ?_) (fun c9 => absurd hth c9)
  refine lv_iload G.1 G.2.1 dL_law_536 (lv_at hl 1 rfl) ?_
  refine lv_if_ne (tgt := 553) G.1 G.2.1 dL_law_538 (by decide) (fun c9 => ?_) (fun c9 => ?_)
  · skip
    refine lv_goto (tgt := 2082) G.1 G.2.1 dL_law_553 (by decide) ?_
    refine W.widen (k := 62 + 2 * j) (n := 3012 + 12 * j) (by omega) (by omega) ?_
    exact K _ _ _ _ _ _ _ hP9 hW (lv_sub hl [2, 3, 4, 5, 6, 7] rfl)
  · obtain ⟨v9, u9, rfl⟩ := wcd_2 hE c9
    have hvb9 : v9 = bm := hvb v9 u9 rfl
    subst hvb9
    refine lv_aload_n G.1 G.2.1 dL_law_541 rfl (lv_at hl 5 rfl) ?_
    refine lv_iconst (v := (0 : Int32)) G.1 G.2.1 dL_law_542 (by decide) ?_
    refine va_lald G.1 G.2.1 hKL.1 hW.1 0 1 rfl rfl k_in01 dL_law_543 ?_
    refine lv_iload G.1 G.2.1 dL_law_544 (lv_at hl 0 rfl) ?_
    refine lv_i2l (v := (v9).toInt64) G.1 G.2.1 dL_law_546 rfl ?_
    refine W.lcmp G.1 G.2.1 dL_law_547 ?_
    have cmp9 : lg_cmp (woL (.inr (v9, u9)) f (0 : Int32).toNatClampNeg) v9.toInt64 = 0 := k_cmp0 f v9 u9
    refine lv_if_eq (tgt := 553) G.1 G.2.1 dL_law_548 (by decide) (fun c9 => ?_) (fun c9 => absurd cmp9 c9)
    refine lv_goto (tgt := 2082) G.1 G.2.1 dL_law_553 (by decide) ?_
    refine W.widen (k := 62 + 2 * j) (n := 3012 + 12 * j) (by omega) (by omega) ?_
    exact K _ _ _ _ _ _ _ hP9 hW (lv_sub hl [2, 3, 4, 5, 6, 7] rfl)

set_option maxHeartbeats 4000000 in
set_option maxRecDepth 100000 in
theorem law_c5 (hT : l.stackTraces = false) (G : CallFix p m c cL_law 9 s #[Value.ref b] wA RL) (hXs : va_X b L xs s s.heap) (hbl : b < s.heap.size) (hKL : KL D cy cl cd s) (hX : KX (kA s) s) (n : Nat) (hj : j < 512) (P : St → St → Prop) (ag : ∃ v τ', fX4_refusal n σ = some v ∧ fX5_refusal n τ = some (v, τ') ∧ P σ τ') (K : ∀ (f' : Nat → Int64) (g' : Nat → UInt64) (σ' τ' : St) (H : Heap) (locs : List Loc) (ls : Array Slot), P σ' τ' → KW D (kA s) s.heap (wLaw cy cl cd ao ad h h2 hm f' g' σ2 σ' τ') H locs → lv_has ls 9 [(0, .ref b), (1, .ref (h 104)), (2, .ref (hm 10)), (3, .ref ao), (4, .ref ad), (5, .int x5)] → W p l e room_1 s m #[Value.ref b] below meth c H locs (62 + 2 * j) (3012 + 12 * j) Q (F0 m 2082 ls [])) (hW : KW D (kA s) s.heap (wLaw cy cl cd ao ad h h2 hm f g σ2 σ τ) H locs) (hl : lv_has ls 9 [(0, .ref b), (1, .ref (h 104)), (2, .ref (hm 10)), (3, .ref ao), (4, .ref ad), (5, .int x5)]) : W p l e room_1 s m #[Value.ref b] below meth c H locs (60 + 2 * j) (3000 + 12 * j) Q (F0 m 556 ls []) := by
  have hA : ∀ q : Nat, s.heap.size ≤ q → kA s q := fun _ h => h
  have hbA : ¬ kA s b := Nat.not_le.mpr hbl
  have hK := hKL.KK
  obtain ⟨vx, τn, ex, em, hP9⟩ := ag
  refine lv_aload_n G.1 G.2.1 dL_law_556 rfl (lv_at hl 1 rfl) ?_
  refine kc_i (wr := ([(ao, .inl (cl, 1, .inr (.inl f))), (ad, .inl (cd, 1, .inr (.inr (.inr (.inl g)))))] ++ (wC cy h2 σ2 ++ wM cy hm τ))) (w := (wB cy h (h2 103) σ)) (w' := (wB cy h (h2 103) σ)) (n := 0) (As := []) (rest := []) (C := RX4) G hK hA (pmN_in hW) (mX4_refusal l D cy h (h2 103) _ n σ  ex) (gV q_16_22 q_16_23 q_17_0 q_1_2 q_17_1) ⟨rfl, rfl⟩ (by decide +kernel) ⟨Nat.le_of_ble_eq_true rfl, Nat.le_of_ble_eq_true rfl⟩ (va_recv hK.1 hW.1 (ci := 6) (q0 := 2) rfl rfl) rfl hl.1 rfl (Nat.le_of_ble_eq_true rfl) dL_law_557 ⟨by show _ ≤ 3160; omega, by show _ ≤ 121633; omega⟩ (fun H locs hW => ?_)
  replace hW := pmN_out (f := f) (g := g) (σ2 := σ2) (σ := σ) (τ := τ) hW
  refine lv_aload_n G.1 G.2.1 dL_law_560 rfl (lv_at hl 2 rfl) ?_
  refine kc_i (wr := ((ao, .inl (cl, 1, .inr (.inl f))) :: (ad, .inl (cd, 1, .inr (.inr (.inr (.inl g))))) :: wBB cy h h2 σ2 σ)) (w := wM cy hm τ) (w' := wM cy hm τn) (n := 0) (As := []) (rest := [.int vx]) (C := RX5) G hK hA hW (mX5_refusal l D cy hm _ n τ  em) (gV q_17_2 q_17_3 q_17_4 q_1_5 q_17_5) ⟨rfl, rfl⟩ (by decide +kernel) ⟨Nat.le_of_ble_eq_true rfl, Nat.le_of_ble_eq_true rfl⟩ (va_recv hK.1 hW.1 (ci := 7) (q0 := 55) rfl rfl) rfl hl.1 rfl (Nat.le_of_ble_eq_true rfl) dL_law_561 ⟨by show _ ≤ 3160; omega, by show _ ≤ 121633; omega⟩ (fun H locs hW => ?_)
  replace hW : KW D (kA s) s.heap (wLaw cy cl cd ao ad h h2 hm f g σ2 σ τn) H locs := hW
  refine lv_icmp_eq (tgt := 2082) G.1 G.2.1 dL_law_564 (by decide) (fun c9 => ?_) (fun c9 => absurd rfl c9)
  refine W.widen (k := 62 + 2 * j) (n := 3012 + 12 * j) (by omega) (by omega) ?_
  exact K _ _ _ _ _ _ _ hP9 hW (lv_sub hl [0, 1, 2, 3, 4, 5] rfl)

set_option maxHeartbeats 4000000 in
set_option maxRecDepth 100000 in
theorem law_c6 (hT : l.stackTraces = false) (G : CallFix p m c cL_law 9 s #[Value.ref b] wA RL) (hXs : va_X b L xs s s.heap) (hbl : b < s.heap.size) (hKL : KL D cy cl cd s) (hX : KX (kA s) s) (n : Nat) (hj : j < 512) {a1 : Int32} (v1 : vp_in (x5 + (1 : Int32)) L) (e1 : xs (x5 + (1 : Int32)).toNatClampNeg = a1) (P : St → St → Prop) (ag : AgV [xIO, xIS] (fX4_cancelReservation n σ a1) (fX5_cancelReservation n τ a1) P) (K : ∀ (f' : Nat → Int64) (g' : Nat → UInt64) (σ' τ' : St) (H : Heap) (locs : List Loc) (ls : Array Slot), P σ' τ' → KW D (kA s) s.heap (wLaw cy cl cd ao ad h h2 hm f' g' σ2 σ' τ') H locs → lv_has ls 9 [(0, .ref b), (1, .ref (h 104)), (2, .ref (hm 10)), (3, .ref ao), (4, .ref ad), (5, .int x5)] → W p l e room_1 s m #[Value.ref b] below meth c H locs (62 + 2 * j) (3012 + 12 * j) Q (F0 m 2082 ls [])) (hW : KW D (kA s) s.heap (wLaw cy cl cd ao ad h h2 hm f g σ2 σ τ) H locs) (hl : lv_has ls 9 [(0, .ref b), (1, .ref (h 104)), (2, .ref (hm 10)), (3, .ref ao), (4, .ref ad), (5, .int x5)]) : W p l e room_1 s m #[Value.ref b] below meth c H locs (60 + 2 * j) (3000 + 12 * j) Q (F0 m 569 ls []) := by
  have hA : ∀ q : Nat, s.heap.size ≤ q → kA s q := fun _ h => h
  have hbA : ¬ kA s b := Nat.not_le.mpr hbl
  have hK := hKL.KK
  obtain ⟨o, τn, ex, em, hE, hth, hP9⟩ := ag
  refine lv_aload_n G.1 G.2.1 dL_law_569 rfl (lv_at hl 1 rfl) ?_
  refine lv_aload_n G.1 G.2.1 dL_law_570 rfl (lv_at hl 0 rfl) ?_
  refine lv_iload G.1 G.2.1 dL_law_571 (lv_at hl 5 rfl) ?_
  refine lv_iconst (v := (1 : Int32)) G.1 G.2.1 dL_law_573 (by decide) ?_
  refine lv_iadd G.1 G.2.1 dL_law_574 ?_
  refine va_sld G.1 G.2.1 hXs hbl hbA hW.2.2 v1 dL_law_575 ?_
  rw [e1]
  refine kl_w (wr := ([(ao, .inl (cl, 1, .inr (.inl f))), (ad, .inl (cd, 1, .inr (.inr (.inr (.inl g)))))] ++ (wC cy h2 σ2 ++ wM cy hm τ))) (w := (wB cy h (h2 103) σ)) (w' := (wB cy h (h2 103) (wst o))) (n := 2) (As := [.ref (h 104), .int a1]) (rest := []) G hKL hX hA (pmN_in hW) (mL_cancelReservation l hT D cy cl cd h (h2 103) _ n σ a1 ex (fun E u h9 => by have h8 := hE E u h9; simpa only [List.mem_cons, List.not_mem_nil, or_false] using h8)) (gSW q_17_6 q_17_7 q_4_12 q_17_8) ⟨rfl, rfl⟩ (by decide +kernel) ⟨Nat.le_of_ble_eq_true rfl, Nat.le_of_ble_eq_true rfl⟩ rfl hl.1 rfl (Nat.le_of_ble_eq_true rfl) dL_law_576 ⟨by show _ ≤ 3160; omega, by show _ ≤ 121633; omega⟩ (fun H locs hW => ?_)
  replace hW := pmN_out (f := f) (g := g) (σ2 := σ2) (σ := (wst o)) (τ := τ) hW
  refine lv_istore (lv' := [(6, .int (wcd [xIO, xIS] o)), (0, .ref b), (1, .ref (h 104)), (2, .ref (hm 10)), (3, .ref ao), (4, .ref ad), (5, .int x5)]) G.1 G.2.1 dL_law_579 hl (by decide) rfl (fun ls hl => ?_)
  refine lv_aload_n G.1 G.2.1 dL_law_581 rfl (lv_at hl 3 rfl) ?_
  refine lv_aload_n G.1 G.2.1 dL_law_582 rfl (lv_at hl 1 rfl) ?_
  refine lv_iload G.1 G.2.1 dL_law_583 (lv_at hl 6 rfl) ?_
  refine lv_iconst (v := (1 : Int32)) G.1 G.2.1 dL_law_585 (by decide) ?_
  refine lv_iadd G.1 G.2.1 dL_law_586 ?_
  refine va_sld G.1 G.2.1 hXs hbl hbA hW.2.2 v1 dL_law_587 ?_
  rw [e1]
  refine kc_v (wr := ((ao, .inl (cl, 1, .inr (.inl f))) :: (ad, .inl (cd, 1, .inr (.inr (.inr (.inl g))))) :: wBB cy h h2 σ2 (wst o))) (w := wM cy hm τ) (w' := wM cy hm τn) (n := 1) (As := [.int a1]) (rest := []) (C := RX5) G hK hA hW (mX5_cancelReservation l D cy hm _ n τ a1 em) (gV q_18_1 q_18_2 q_18_3 q_1_5 q_18_4) ⟨rfl, rfl⟩ (by decide +kernel) ⟨Nat.le_of_ble_eq_true rfl, Nat.le_of_ble_eq_true rfl⟩ (va_recv hK.1 hW.1 (ci := 7) (q0 := 55) rfl rfl) rfl hl.1 rfl (Nat.le_of_ble_eq_true rfl) dL_law_588 ⟨by show _ ≤ 3160; omega, by show _ ≤ 121633; omega⟩ (fun H locs hW => ?_)
  replace hW : KW D (kA s) s.heap (wLaw cy cl cd ao ad h h2 hm f g σ2 (wst o) τn) H locs := hW
  refine lv_aload_n G.1 G.2.1 dL_law_591 rfl (lv_at hl 3 rfl) ?_
  refine kc_i (wr := ((ao, .inl (cl, 1, .inr (.inl f))) :: (ad, .inl (cd, 1, .inr (.inr (.inr (.inl g))))) :: wBB cy h h2 σ2 (wst o))) (w := wM cy hm τn) (w' := wM cy hm τn) (n := 0) (As := []) (rest := []) (C := RX5) G hK hA hW (mX5_thrown l D cy hm _ n τn  (show fX5_thrown n τn = some (τn 6 0) from rfl)) (gV q_10_9 q_10_10 q_10_11 q_1_5 q_10_12) ⟨rfl, rfl⟩ (by decide +kernel) ⟨Nat.le_of_ble_eq_true rfl, Nat.le_of_ble_eq_true rfl⟩ (va_recv hK.1 hW.1 (ci := 7) (q0 := 55) rfl rfl) rfl hl.1 rfl (Nat.le_of_ble_eq_true rfl) dL_law_592 ⟨by show _ ≤ 3160; omega, by show _ ≤ 121633; omega⟩ (fun H locs hW => ?_)
  replace hW : KW D (kA s) s.heap (wLaw cy cl cd ao ad h h2 hm f g σ2 (wst o) τn) H locs := hW
  refine lv_iload G.1 G.2.1 dL_law_595 (lv_at hl 0 rfl) ?_
  refine lv_icmp_eq (tgt := 602) G.1 G.2.1 dL_law_597 (by decide) (fun c9 => ?_) (fun c9 => absurd hth c9)
  refine lv_goto (tgt := 2082) G.1 G.2.1 dL_law_602 (by decide) ?_
  refine W.widen (k := 62 + 2 * j) (n := 3012 + 12 * j) (by omega) (by omega) ?_
  exact K _ _ _ _ _ _ _ hP9 hW (lv_sub hl [1, 2, 3, 4, 5, 6] rfl)

set_option maxHeartbeats 4000000 in
set_option maxRecDepth 100000 in
theorem law_c7 (hT : l.stackTraces = false) (G : CallFix p m c cL_law 9 s #[Value.ref b] wA RL) (hXs : va_X b L xs s s.heap) (hbl : b < s.heap.size) (hKL : KL D cy cl cd s) (hX : KX (kA s) s) (n : Nat) (hj : j < 512) {a1 : Int32} (v1 : vp_in (x5 + (1 : Int32)) L) (e1 : xs (x5 + (1 : Int32)).toNatClampNeg = a1) (P : St → St → Prop) (ag : AgI [xIO, xIS] (fX4_reservedProcessor n σ a1) (fX5_reservedProcessor n τ a1) P) (K : ∀ (f' : Nat → Int64) (g' : Nat → UInt64) (σ' τ' : St) (H : Heap) (locs : List Loc) (ls : Array Slot), P σ' τ' → KW D (kA s) s.heap (wLaw cy cl cd ao ad h h2 hm f' g' σ2 σ' τ') H locs → lv_has ls 9 [(0, .ref b), (1, .ref (h 104)), (2, .ref (hm 10)), (3, .ref ao), (4, .ref ad), (5, .int x5)] → W p l e room_1 s m #[Value.ref b] below meth c H locs (62 + 2 * j) (3012 + 12 * j) Q (F0 m 2082 ls [])) (hW : KW D (kA s) s.heap (wLaw cy cl cd ao ad h h2 hm f g σ2 σ τ) H locs) (hl : lv_has ls 9 [(0, .ref b), (1, .ref (h 104)), (2, .ref (hm 10)), (3, .ref ao), (4, .ref ad), (5, .int x5)]) : W p l e room_1 s m #[Value.ref b] below meth c H locs (60 + 2 * j) (3000 + 12 * j) Q (F0 m 605 ls []) := by
  have hA : ∀ q : Nat, s.heap.size ≤ q → kA s q := fun _ h => h
  have hbA : ¬ kA s b := Nat.not_le.mpr hbl
  have hK := hKL.KK
  obtain ⟨o, bm, τn, ex, em, hE, hth, hvb, hP9⟩ := ag
  refine lv_aload_n G.1 G.2.1 dL_law_605 rfl (lv_at hl 1 rfl) ?_
  refine lv_aload_n G.1 G.2.1 dL_law_606 rfl (lv_at hl 0 rfl) ?_
  refine lv_iload G.1 G.2.1 dL_law_607 (lv_at hl 5 rfl) ?_
  refine lv_iconst (v := (1 : Int32)) G.1 G.2.1 dL_law_609 (by decide) ?_
  refine lv_iadd G.1 G.2.1 dL_law_610 ?_
  refine va_sld G.1 G.2.1 hXs hbl hbA hW.2.2 v1 dL_law_611 ?_
  rw [e1]
  refine lv_aload_n G.1 G.2.1 dL_law_612 rfl (lv_at hl 3 rfl) ?_
  refine kl_w (wr := ([(ad, .inl (cd, 1, .inr (.inr (.inr (.inl g)))))] ++ (wC cy h2 σ2 ++ wM cy hm τ))) (w := ((ao, .inl (cl, 1, .inr (.inl f))) :: wB cy h (h2 103) σ)) (w' := ((ao, .inl (cl, 1, .inr (.inl (woL o f)))) :: wB cy h (h2 103) (wst o))) (n := 3) (As := [.ref (h 104), .int a1, .ref ao]) (rest := []) G hKL hX hA (pmL_in hW) (mL_reservedProcessor l hT D cy cl cd h (h2 103) ao _ n σ f a1 ex (fun E u h9 => by have h8 := hE E u h9; simpa only [List.mem_cons, List.not_mem_nil, or_false] using h8)) (gSW q_18_9 q_18_10 q_4_12 q_18_11) ⟨rfl, rfl⟩ (by decide +kernel) ⟨Nat.le_of_ble_eq_true rfl, Nat.le_of_ble_eq_true rfl⟩ rfl hl.1 rfl (Nat.le_of_ble_eq_true rfl) dL_law_613 ⟨by show _ ≤ 3160; omega, by show _ ≤ 121633; omega⟩ (fun H locs hW => ?_)
  replace hW := pmL_out (f := (woL o f)) (g := g) (σ2 := σ2) (σ := (wst o)) (τ := τ) hW
  refine lv_istore (lv' := [(6, .int (wcd [xIO, xIS] o)), (0, .ref b), (1, .ref (h 104)), (2, .ref (hm 10)), (3, .ref ao), (4, .ref ad), (5, .int x5)]) G.1 G.2.1 dL_law_616 hl (by decide) rfl (fun ls hl => ?_)
  refine lv_aload_n G.1 G.2.1 dL_law_618 rfl (lv_at hl 3 rfl) ?_
  refine lv_aload_n G.1 G.2.1 dL_law_619 rfl (lv_at hl 1 rfl) ?_
  refine lv_iload G.1 G.2.1 dL_law_620 (lv_at hl 6 rfl) ?_
  refine lv_iconst (v := (1 : Int32)) G.1 G.2.1 dL_law_622 (by decide) ?_
  refine lv_iadd G.1 G.2.1 dL_law_623 ?_
  refine va_sld G.1 G.2.1 hXs hbl hbA hW.2.2 v1 dL_law_624 ?_
  rw [e1]
  refine kc_i (wr := ((ao, .inl (cl, 1, .inr (.inl (woL o f)))) :: (ad, .inl (cd, 1, .inr (.inr (.inr (.inl g))))) :: wBB cy h h2 σ2 (wst o))) (w := wM cy hm τ) (w' := wM cy hm τn) (n := 1) (As := [.int a1]) (rest := []) (C := RX5) G hK hA hW (mX5_reservedProcessor l D cy hm _ n τ a1 em) (gV q_18_17 q_18_18 q_18_19 q_1_5 q_18_20) ⟨rfl, rfl⟩ (by decide +kernel) ⟨Nat.le_of_ble_eq_true rfl, Nat.le_of_ble_eq_true rfl⟩ (va_recv hK.1 hW.1 (ci := 7) (q0 := 55) rfl rfl) rfl hl.1 rfl (Nat.le_of_ble_eq_true rfl) dL_law_625 ⟨by show _ ≤ 3160; omega, by show _ ≤ 121633; omega⟩ (fun H locs hW => ?_)
  replace hW : KW D (kA s) s.heap (wLaw cy cl cd ao ad h h2 hm (woL o f) g σ2 (wst o) τn) H locs := hW
  refine lv_istore (lv' := [(7, .int bm), (6, .int (wcd [xIO, xIS] o)), (0, .ref b), (1, .ref (h 104)), (2, .ref (hm 10)), (3, .ref ao), (4, .ref ad), (5, .int x5)]) G.1 G.2.1 dL_law_628 hl (by decide) rfl (fun ls hl => ?_)
  refine lv_aload_n G.1 G.2.1 dL_law_630 rfl (lv_at hl 4 rfl) ?_
  refine kc_i (wr := ((ao, .inl (cl, 1, .inr (.inl (woL o f)))) :: (ad, .inl (cd, 1, .inr (.inr (.inr (.inl g))))) :: wBB cy h h2 σ2 (wst o))) (w := wM cy hm τn) (w' := wM cy hm τn) (n := 0) (As := []) (rest := []) (C := RX5) G hK hA hW (mX5_thrown l D cy hm _ n τn  (show fX5_thrown n τn = some (τn 6 0) from rfl)) (gV q_10_9 q_10_10 q_10_11 q_1_5 q_10_12) ⟨rfl, rfl⟩ (by decide +kernel) ⟨Nat.le_of_ble_eq_true rfl, Nat.le_of_ble_eq_true rfl⟩ (va_recv hK.1 hW.1 (ci := 7) (q0 := 55) rfl rfl) rfl hl.1 rfl (Nat.le_of_ble_eq_true rfl) dL_law_631 ⟨by show _ ≤ 3160; omega, by show _ ≤ 121633; omega⟩ (fun H locs hW => ?_)
  replace hW : KW D (kA s) s.heap (wLaw cy cl cd ao ad h h2 hm (woL o f) g σ2 (wst o) τn) H locs := hW
  refine lv_iload G.1 G.2.1 dL_law_634 (lv_at hl 1 rfl) ?_
  refine lv_icmp_eq (tgt := 641) G.1 G.2.1 dL_law_636 (by decide) (fun c9 => ?_) (fun c9 => absurd hth c9)
  refine lv_iload G.1 G.2.1 dL_law_641 (lv_at hl 1 rfl) ?_
  refine lv_if_ne (tgt := 658) G.1 G.2.1 dL_law_643 (by decide) (fun c9 => ?_) (fun c9 => ?_)
  · skip
    refine lv_goto (tgt := 2082) G.1 G.2.1 dL_law_658 (by decide) ?_
    refine W.widen (k := 62 + 2 * j) (n := 3012 + 12 * j) (by omega) (by omega) ?_
    exact K _ _ _ _ _ _ _ hP9 hW (lv_sub hl [2, 3, 4, 5, 6, 7] rfl)
  · obtain ⟨v9, u9, rfl⟩ := wcd_2 hE c9
    have hvb9 : v9 = bm := hvb v9 u9 rfl
    subst hvb9
    refine lv_aload_n G.1 G.2.1 dL_law_646 rfl (lv_at hl 5 rfl) ?_
    refine lv_iconst (v := (0 : Int32)) G.1 G.2.1 dL_law_647 (by decide) ?_
    refine va_lald G.1 G.2.1 hKL.1 hW.1 0 1 rfl rfl k_in01 dL_law_648 ?_
    refine lv_iload G.1 G.2.1 dL_law_649 (lv_at hl 0 rfl) ?_
    refine lv_i2l (v := (v9).toInt64) G.1 G.2.1 dL_law_651 rfl ?_
    refine W.lcmp G.1 G.2.1 dL_law_652 ?_
    have cmp9 : lg_cmp (woL (.inr (v9, u9)) f (0 : Int32).toNatClampNeg) v9.toInt64 = 0 := k_cmp0 f v9 u9
    refine lv_if_eq (tgt := 658) G.1 G.2.1 dL_law_653 (by decide) (fun c9 => ?_) (fun c9 => absurd cmp9 c9)
    refine lv_goto (tgt := 2082) G.1 G.2.1 dL_law_658 (by decide) ?_
    refine W.widen (k := 62 + 2 * j) (n := 3012 + 12 * j) (by omega) (by omega) ?_
    exact K _ _ _ _ _ _ _ hP9 hW (lv_sub hl [2, 3, 4, 5, 6, 7] rfl)

set_option maxHeartbeats 4000000 in
set_option maxRecDepth 100000 in
theorem law_c8 (hT : l.stackTraces = false) (G : CallFix p m c cL_law 9 s #[Value.ref b] wA RL) (hXs : va_X b L xs s s.heap) (hbl : b < s.heap.size) (hKL : KL D cy cl cd s) (hX : KX (kA s) s) (n : Nat) (hj : j < 512) {a1 : Int32} (v1 : vp_in (x5 + (1 : Int32)) L) (e1 : xs (x5 + (1 : Int32)).toNatClampNeg = a1) (P : St → St → Prop) (ag : ∀ z : Int32, z = 0 ∨ z = 1 → ∃ v σ' τ', fX4_setFair n σ z = some (v, σ') ∧ fX5_setFair n τ z = some (v, τ') ∧ P σ' τ') (K : ∀ (f' : Nat → Int64) (g' : Nat → UInt64) (σ' τ' : St) (H : Heap) (locs : List Loc) (ls : Array Slot), P σ' τ' → KW D (kA s) s.heap (wLaw cy cl cd ao ad h h2 hm f' g' σ2 σ' τ') H locs → lv_has ls 9 [(0, .ref b), (1, .ref (h 104)), (2, .ref (hm 10)), (3, .ref ao), (4, .ref ad), (5, .int x5)] → W p l e room_1 s m #[Value.ref b] below meth c H locs (62 + 2 * j) (3012 + 12 * j) Q (F0 m 2082 ls [])) (hW : KW D (kA s) s.heap (wLaw cy cl cd ao ad h h2 hm f g σ2 σ τ) H locs) (hl : lv_has ls 9 [(0, .ref b), (1, .ref (h 104)), (2, .ref (hm 10)), (3, .ref ao), (4, .ref ad), (5, .int x5)]) : W p l e room_1 s m #[Value.ref b] below meth c H locs (60 + 2 * j) (3000 + 12 * j) Q (F0 m 661 ls []) := by
  have hA : ∀ q : Nat, s.heap.size ≤ q → kA s q := fun _ h => h
  have hbA : ¬ kA s b := Nat.not_le.mpr hbl
  have hK := hKL.KK
  refine lv_aload_n G.1 G.2.1 dL_law_661 rfl (lv_at hl 1 rfl) ?_
  refine lv_aload_n G.1 G.2.1 dL_law_662 rfl (lv_at hl 0 rfl) ?_
  refine lv_iload G.1 G.2.1 dL_law_663 (lv_at hl 5 rfl) ?_
  refine lv_iconst (v := (1 : Int32)) G.1 G.2.1 dL_law_665 (by decide) ?_
  refine lv_iadd G.1 G.2.1 dL_law_666 ?_
  refine va_sld G.1 G.2.1 hXs hbl hbA hW.2.2 v1 dL_law_667 ?_
  rw [e1]
  refine lv_if_eq (tgt := 675) G.1 G.2.1 dL_law_668 (by decide) (fun c8 => ?_) (fun c8 => ?_)
  · obtain ⟨vx, σn, τn, ex, em, hP9⟩ := ag (0 : Int32) (Or.inl rfl)
    refine lv_iconst (v := (0 : Int32)) G.1 G.2.1 dL_law_675 (by decide) ?_
    refine kc_i (wr := ([(ao, .inl (cl, 1, .inr (.inl f))), (ad, .inl (cd, 1, .inr (.inr (.inr (.inl g)))))] ++ (wC cy h2 σ2 ++ wM cy hm τ))) (w := (wB cy h (h2 103) σ)) (w' := (wB cy h (h2 103) σn)) (n := 1) (As := [.int (0 : Int32)]) (rest := []) (C := RX4) G hK hA (pmN_in hW) (mX4_setFair l D cy h (h2 103) _ n σ (0 : Int32) ex) (gV q_18_21 q_18_22 q_18_23 q_1_2 q_19_0) ⟨rfl, rfl⟩ (by decide +kernel) ⟨Nat.le_of_ble_eq_true rfl, Nat.le_of_ble_eq_true rfl⟩ (va_recv hK.1 hW.1 (ci := 6) (q0 := 2) rfl rfl) rfl hl.1 rfl (Nat.le_of_ble_eq_true rfl) dL_law_676 ⟨by show _ ≤ 3160; omega, by show _ ≤ 121633; omega⟩ (fun H locs hW => ?_)
    replace hW := pmN_out (f := f) (g := g) (σ2 := σ2) (σ := σn) (τ := τ) hW
    refine lv_aload_n G.1 G.2.1 dL_law_679 rfl (lv_at hl 2 rfl) ?_
    refine lv_aload_n G.1 G.2.1 dL_law_680 rfl (lv_at hl 0 rfl) ?_
    refine lv_iload G.1 G.2.1 dL_law_681 (lv_at hl 5 rfl) ?_
    refine lv_iconst (v := (1 : Int32)) G.1 G.2.1 dL_law_683 (by decide) ?_
    refine lv_iadd G.1 G.2.1 dL_law_684 ?_
    refine va_sld G.1 G.2.1 hXs hbl hbA hW.2.2 v1 dL_law_685 ?_
    rw [e1]
    refine lv_if_eq (tgt := 693) G.1 G.2.1 dL_law_686 (by decide) (fun _ => ?_) (fun c9 => absurd c8 c9)
    refine lv_iconst (v := (0 : Int32)) G.1 G.2.1 dL_law_693 (by decide) ?_
    refine kc_i (wr := ((ao, .inl (cl, 1, .inr (.inl f))) :: (ad, .inl (cd, 1, .inr (.inr (.inr (.inl g))))) :: wBB cy h h2 σ2 σn)) (w := wM cy hm τ) (w' := wM cy hm τn) (n := 1) (As := [.int (0 : Int32)]) (rest := [.int vx]) (C := RX5) G hK hA hW (mX5_setFair l D cy hm _ n τ (0 : Int32) em) (gV q_19_2 q_19_3 q_19_4 q_1_5 q_19_5) ⟨rfl, rfl⟩ (by decide +kernel) ⟨Nat.le_of_ble_eq_true rfl, Nat.le_of_ble_eq_true rfl⟩ (va_recv hK.1 hW.1 (ci := 7) (q0 := 55) rfl rfl) rfl hl.1 rfl (Nat.le_of_ble_eq_true rfl) dL_law_694 ⟨by show _ ≤ 3160; omega, by show _ ≤ 121633; omega⟩ (fun H locs hW => ?_)
    replace hW : KW D (kA s) s.heap (wLaw cy cl cd ao ad h h2 hm f g σ2 σn τn) H locs := hW
    refine lv_icmp_eq (tgt := 2082) G.1 G.2.1 dL_law_697 (by decide) (fun c9 => ?_) (fun c9 => absurd rfl c9)
    refine W.widen (k := 62 + 2 * j) (n := 3012 + 12 * j) (by omega) (by omega) ?_
    exact K _ _ _ _ _ _ _ hP9 hW (lv_sub hl [0, 1, 2, 3, 4, 5] rfl)
  · obtain ⟨vx, σn, τn, ex, em, hP9⟩ := ag (1 : Int32) (Or.inr rfl)
    refine lv_iconst (v := (1 : Int32)) G.1 G.2.1 dL_law_671 (by decide) ?_
    refine lv_goto (tgt := 676) G.1 G.2.1 dL_law_672 (by decide) ?_
    refine kc_i (wr := ([(ao, .inl (cl, 1, .inr (.inl f))), (ad, .inl (cd, 1, .inr (.inr (.inr (.inl g)))))] ++ (wC cy h2 σ2 ++ wM cy hm τ))) (w := (wB cy h (h2 103) σ)) (w' := (wB cy h (h2 103) σn)) (n := 1) (As := [.int (1 : Int32)]) (rest := []) (C := RX4) G hK hA (pmN_in hW) (mX4_setFair l D cy h (h2 103) _ n σ (1 : Int32) ex) (gV q_18_21 q_18_22 q_18_23 q_1_2 q_19_0) ⟨rfl, rfl⟩ (by decide +kernel) ⟨Nat.le_of_ble_eq_true rfl, Nat.le_of_ble_eq_true rfl⟩ (va_recv hK.1 hW.1 (ci := 6) (q0 := 2) rfl rfl) rfl hl.1 rfl (Nat.le_of_ble_eq_true rfl) dL_law_676 ⟨by show _ ≤ 3160; omega, by show _ ≤ 121633; omega⟩ (fun H locs hW => ?_)
    replace hW := pmN_out (f := f) (g := g) (σ2 := σ2) (σ := σn) (τ := τ) hW
    refine lv_aload_n G.1 G.2.1 dL_law_679 rfl (lv_at hl 2 rfl) ?_
    refine lv_aload_n G.1 G.2.1 dL_law_680 rfl (lv_at hl 0 rfl) ?_
    refine lv_iload G.1 G.2.1 dL_law_681 (lv_at hl 5 rfl) ?_
    refine lv_iconst (v := (1 : Int32)) G.1 G.2.1 dL_law_683 (by decide) ?_
    refine lv_iadd G.1 G.2.1 dL_law_684 ?_
    refine va_sld G.1 G.2.1 hXs hbl hbA hW.2.2 v1 dL_law_685 ?_
    rw [e1]
    refine lv_if_eq (tgt := 693) G.1 G.2.1 dL_law_686 (by decide) (fun c9 => absurd c9 c8) (fun _ => ?_)
    refine lv_iconst (v := (1 : Int32)) G.1 G.2.1 dL_law_689 (by decide) ?_
    refine lv_goto (tgt := 694) G.1 G.2.1 dL_law_690 (by decide) ?_
    refine kc_i (wr := ((ao, .inl (cl, 1, .inr (.inl f))) :: (ad, .inl (cd, 1, .inr (.inr (.inr (.inl g))))) :: wBB cy h h2 σ2 σn)) (w := wM cy hm τ) (w' := wM cy hm τn) (n := 1) (As := [.int (1 : Int32)]) (rest := [.int vx]) (C := RX5) G hK hA hW (mX5_setFair l D cy hm _ n τ (1 : Int32) em) (gV q_19_2 q_19_3 q_19_4 q_1_5 q_19_5) ⟨rfl, rfl⟩ (by decide +kernel) ⟨Nat.le_of_ble_eq_true rfl, Nat.le_of_ble_eq_true rfl⟩ (va_recv hK.1 hW.1 (ci := 7) (q0 := 55) rfl rfl) rfl hl.1 rfl (Nat.le_of_ble_eq_true rfl) dL_law_694 ⟨by show _ ≤ 3160; omega, by show _ ≤ 121633; omega⟩ (fun H locs hW => ?_)
    replace hW : KW D (kA s) s.heap (wLaw cy cl cd ao ad h h2 hm f g σ2 σn τn) H locs := hW
    refine lv_icmp_eq (tgt := 2082) G.1 G.2.1 dL_law_697 (by decide) (fun c9 => ?_) (fun c9 => absurd rfl c9)
    refine W.widen (k := 62 + 2 * j) (n := 3012 + 12 * j) (by omega) (by omega) ?_
    exact K _ _ _ _ _ _ _ hP9 hW (lv_sub hl [0, 1, 2, 3, 4, 5] rfl)

set_option maxHeartbeats 4000000 in
set_option maxRecDepth 100000 in
theorem law_c9 (hT : l.stackTraces = false) (G : CallFix p m c cL_law 9 s #[Value.ref b] wA RL) (hXs : va_X b L xs s s.heap) (hbl : b < s.heap.size) (hKL : KL D cy cl cd s) (hX : KX (kA s) s) (n : Nat) (hj : j < 512) (P : St → St → Prop) (ag : ∃ v τ', fX4_clock n σ = some v ∧ fX5_clock n τ = some (v, τ') ∧ P σ τ') (K : ∀ (f' : Nat → Int64) (g' : Nat → UInt64) (σ' τ' : St) (H : Heap) (locs : List Loc) (ls : Array Slot), P σ' τ' → KW D (kA s) s.heap (wLaw cy cl cd ao ad h h2 hm f' g' σ2 σ' τ') H locs → lv_has ls 9 [(0, .ref b), (1, .ref (h 104)), (2, .ref (hm 10)), (3, .ref ao), (4, .ref ad), (5, .int x5)] → W p l e room_1 s m #[Value.ref b] below meth c H locs (62 + 2 * j) (3012 + 12 * j) Q (F0 m 2082 ls [])) (hW : KW D (kA s) s.heap (wLaw cy cl cd ao ad h h2 hm f g σ2 σ τ) H locs) (hl : lv_has ls 9 [(0, .ref b), (1, .ref (h 104)), (2, .ref (hm 10)), (3, .ref ao), (4, .ref ad), (5, .int x5)]) : W p l e room_1 s m #[Value.ref b] below meth c H locs (60 + 2 * j) (3000 + 12 * j) Q (F0 m 702 ls []) := by
  have hA : ∀ q : Nat, s.heap.size ≤ q → kA s q := fun _ h => h
  have hbA : ¬ kA s b := Nat.not_le.mpr hbl
  have hK := hKL.KK
  obtain ⟨vx, τn, ex, em, hP9⟩ := ag
  refine lv_aload_n G.1 G.2.1 dL_law_702 rfl (lv_at hl 1 rfl) ?_
  refine kc_i (wr := ([(ao, .inl (cl, 1, .inr (.inl f))), (ad, .inl (cd, 1, .inr (.inr (.inr (.inl g)))))] ++ (wC cy h2 σ2 ++ wM cy hm τ))) (w := (wB cy h (h2 103) σ)) (w' := (wB cy h (h2 103) σ)) (n := 0) (As := []) (rest := []) (C := RX4) G hK hA (pmN_in hW) (mX4_clock l D cy h (h2 103) _ n σ  ex) (gV q_19_6 q_19_7 q_19_8 q_1_2 q_19_9) ⟨rfl, rfl⟩ (by decide +kernel) ⟨Nat.le_of_ble_eq_true rfl, Nat.le_of_ble_eq_true rfl⟩ (va_recv hK.1 hW.1 (ci := 6) (q0 := 2) rfl rfl) rfl hl.1 rfl (Nat.le_of_ble_eq_true rfl) dL_law_703 ⟨by show _ ≤ 3160; omega, by show _ ≤ 121633; omega⟩ (fun H locs hW => ?_)
  replace hW := pmN_out (f := f) (g := g) (σ2 := σ2) (σ := σ) (τ := τ) hW
  refine lv_aload_n G.1 G.2.1 dL_law_706 rfl (lv_at hl 2 rfl) ?_
  refine kc_i (wr := ((ao, .inl (cl, 1, .inr (.inl f))) :: (ad, .inl (cd, 1, .inr (.inr (.inr (.inl g))))) :: wBB cy h h2 σ2 σ)) (w := wM cy hm τ) (w' := wM cy hm τn) (n := 0) (As := []) (rest := [.int vx]) (C := RX5) G hK hA hW (mX5_clock l D cy hm _ n τ  em) (gV q_19_10 q_19_11 q_19_12 q_1_5 q_19_13) ⟨rfl, rfl⟩ (by decide +kernel) ⟨Nat.le_of_ble_eq_true rfl, Nat.le_of_ble_eq_true rfl⟩ (va_recv hK.1 hW.1 (ci := 7) (q0 := 55) rfl rfl) rfl hl.1 rfl (Nat.le_of_ble_eq_true rfl) dL_law_707 ⟨by show _ ≤ 3160; omega, by show _ ≤ 121633; omega⟩ (fun H locs hW => ?_)
  replace hW : KW D (kA s) s.heap (wLaw cy cl cd ao ad h h2 hm f g σ2 σ τn) H locs := hW
  refine lv_icmp_eq (tgt := 2082) G.1 G.2.1 dL_law_710 (by decide) (fun c9 => ?_) (fun c9 => absurd rfl c9)
  refine W.widen (k := 62 + 2 * j) (n := 3012 + 12 * j) (by omega) (by omega) ?_
  exact K _ _ _ _ _ _ _ hP9 hW (lv_sub hl [0, 1, 2, 3, 4, 5] rfl)

set_option maxHeartbeats 4000000 in
set_option maxRecDepth 100000 in
theorem law_c10 (hT : l.stackTraces = false) (G : CallFix p m c cL_law 9 s #[Value.ref b] wA RL) (hXs : va_X b L xs s s.heap) (hbl : b < s.heap.size) (hKL : KL D cy cl cd s) (hX : KX (kA s) s) (n : Nat) (hj : j < 512) (P : St → St → Prop) (ag : ∃ v τ', fX4_jobCount n σ = some v ∧ fX5_jobCount n τ = some (v, τ') ∧ P σ τ') (K : ∀ (f' : Nat → Int64) (g' : Nat → UInt64) (σ' τ' : St) (H : Heap) (locs : List Loc) (ls : Array Slot), P σ' τ' → KW D (kA s) s.heap (wLaw cy cl cd ao ad h h2 hm f' g' σ2 σ' τ') H locs → lv_has ls 9 [(0, .ref b), (1, .ref (h 104)), (2, .ref (hm 10)), (3, .ref ao), (4, .ref ad), (5, .int x5)] → W p l e room_1 s m #[Value.ref b] below meth c H locs (62 + 2 * j) (3012 + 12 * j) Q (F0 m 2082 ls [])) (hW : KW D (kA s) s.heap (wLaw cy cl cd ao ad h h2 hm f g σ2 σ τ) H locs) (hl : lv_has ls 9 [(0, .ref b), (1, .ref (h 104)), (2, .ref (hm 10)), (3, .ref ao), (4, .ref ad), (5, .int x5)]) : W p l e room_1 s m #[Value.ref b] below meth c H locs (60 + 2 * j) (3000 + 12 * j) Q (F0 m 715 ls []) := by
  have hA : ∀ q : Nat, s.heap.size ≤ q → kA s q := fun _ h => h
  have hbA : ¬ kA s b := Nat.not_le.mpr hbl
  have hK := hKL.KK
  obtain ⟨vx, τn, ex, em, hP9⟩ := ag
  refine lv_aload_n G.1 G.2.1 dL_law_715 rfl (lv_at hl 1 rfl) ?_
  refine kc_i (wr := ([(ao, .inl (cl, 1, .inr (.inl f))), (ad, .inl (cd, 1, .inr (.inr (.inr (.inl g)))))] ++ (wC cy h2 σ2 ++ wM cy hm τ))) (w := (wB cy h (h2 103) σ)) (w' := (wB cy h (h2 103) σ)) (n := 0) (As := []) (rest := []) (C := RX4) G hK hA (pmN_in hW) (mX4_jobCount l D cy h (h2 103) _ n σ  ex) (gV q_19_14 q_19_15 q_19_16 q_1_2 q_19_17) ⟨rfl, rfl⟩ (by decide +kernel) ⟨Nat.le_of_ble_eq_true rfl, Nat.le_of_ble_eq_true rfl⟩ (va_recv hK.1 hW.1 (ci := 6) (q0 := 2) rfl rfl) rfl hl.1 rfl (Nat.le_of_ble_eq_true rfl) dL_law_716 ⟨by show _ ≤ 3160; omega, by show _ ≤ 121633; omega⟩ (fun H locs hW => ?_)
  replace hW := pmN_out (f := f) (g := g) (σ2 := σ2) (σ := σ) (τ := τ) hW
  refine lv_aload_n G.1 G.2.1 dL_law_719 rfl (lv_at hl 2 rfl) ?_
  refine kc_i (wr := ((ao, .inl (cl, 1, .inr (.inl f))) :: (ad, .inl (cd, 1, .inr (.inr (.inr (.inl g))))) :: wBB cy h h2 σ2 σ)) (w := wM cy hm τ) (w' := wM cy hm τn) (n := 0) (As := []) (rest := [.int vx]) (C := RX5) G hK hA hW (mX5_jobCount l D cy hm _ n τ  em) (gV q_19_18 q_19_19 q_19_20 q_1_5 q_19_21) ⟨rfl, rfl⟩ (by decide +kernel) ⟨Nat.le_of_ble_eq_true rfl, Nat.le_of_ble_eq_true rfl⟩ (va_recv hK.1 hW.1 (ci := 7) (q0 := 55) rfl rfl) rfl hl.1 rfl (Nat.le_of_ble_eq_true rfl) dL_law_720 ⟨by show _ ≤ 3160; omega, by show _ ≤ 121633; omega⟩ (fun H locs hW => ?_)
  replace hW : KW D (kA s) s.heap (wLaw cy cl cd ao ad h h2 hm f g σ2 σ τn) H locs := hW
  refine lv_icmp_eq (tgt := 2082) G.1 G.2.1 dL_law_723 (by decide) (fun c9 => ?_) (fun c9 => absurd rfl c9)
  refine W.widen (k := 62 + 2 * j) (n := 3012 + 12 * j) (by omega) (by omega) ?_
  exact K _ _ _ _ _ _ _ hP9 hW (lv_sub hl [0, 1, 2, 3, 4, 5] rfl)

set_option maxHeartbeats 4000000 in
set_option maxRecDepth 100000 in
theorem law_c11 (hT : l.stackTraces = false) (G : CallFix p m c cL_law 9 s #[Value.ref b] wA RL) (hXs : va_X b L xs s s.heap) (hbl : b < s.heap.size) (hKL : KL D cy cl cd s) (hX : KX (kA s) s) (n : Nat) (hj : j < 512) {a1 : Int32} (v1 : vp_in (x5 + (1 : Int32)) L) (e1 : xs (x5 + (1 : Int32)).toNatClampNeg = a1) (P : St → St → Prop) (ag : AgI [xIO] (fX4_state n σ a1) (fX5_state n τ a1) P) (K : ∀ (f' : Nat → Int64) (g' : Nat → UInt64) (σ' τ' : St) (H : Heap) (locs : List Loc) (ls : Array Slot), P σ' τ' → KW D (kA s) s.heap (wLaw cy cl cd ao ad h h2 hm f' g' σ2 σ' τ') H locs → lv_has ls 9 [(0, .ref b), (1, .ref (h 104)), (2, .ref (hm 10)), (3, .ref ao), (4, .ref ad), (5, .int x5)] → W p l e room_1 s m #[Value.ref b] below meth c H locs (62 + 2 * j) (3012 + 12 * j) Q (F0 m 2082 ls [])) (hW : KW D (kA s) s.heap (wLaw cy cl cd ao ad h h2 hm f g σ2 σ τ) H locs) (hl : lv_has ls 9 [(0, .ref b), (1, .ref (h 104)), (2, .ref (hm 10)), (3, .ref ao), (4, .ref ad), (5, .int x5)]) : W p l e room_1 s m #[Value.ref b] below meth c H locs (60 + 2 * j) (3000 + 12 * j) Q (F0 m 728 ls []) := by
  have hA : ∀ q : Nat, s.heap.size ≤ q → kA s q := fun _ h => h
  have hbA : ¬ kA s b := Nat.not_le.mpr hbl
  have hK := hKL.KK
  obtain ⟨o, bm, τn, ex, em, hE, hth, hvb, hP9⟩ := ag
  refine lv_aload_n G.1 G.2.1 dL_law_728 rfl (lv_at hl 1 rfl) ?_
  refine lv_aload_n G.1 G.2.1 dL_law_729 rfl (lv_at hl 0 rfl) ?_
  refine lv_iload G.1 G.2.1 dL_law_730 (lv_at hl 5 rfl) ?_
  refine lv_iconst (v := (1 : Int32)) G.1 G.2.1 dL_law_732 (by decide) ?_
  refine lv_iadd G.1 G.2.1 dL_law_733 ?_
  refine va_sld G.1 G.2.1 hXs hbl hbA hW.2.2 v1 dL_law_734 ?_
  rw [e1]
  refine lv_aload_n G.1 G.2.1 dL_law_735 rfl (lv_at hl 3 rfl) ?_
  refine kl_w (wr := ([(ad, .inl (cd, 1, .inr (.inr (.inr (.inl g)))))] ++ (wC cy h2 σ2 ++ wM cy hm τ))) (w := ((ao, .inl (cl, 1, .inr (.inl f))) :: wB cy h (h2 103) σ)) (w' := ((ao, .inl (cl, 1, .inr (.inl (woL o f)))) :: wB cy h (h2 103) (wst o))) (n := 3) (As := [.ref (h 104), .int a1, .ref ao]) (rest := []) G hKL hX hA (pmL_in hW) (mL_state l hT D cy cl cd h (h2 103) ao _ n σ f a1 ex (fun E u h9 => by have h8 := hE E u h9; simpa only [List.mem_cons, List.not_mem_nil, or_false] using h8)) (gSW q_19_22 q_19_23 q_4_12 q_20_0) ⟨rfl, rfl⟩ (by decide +kernel) ⟨Nat.le_of_ble_eq_true rfl, Nat.le_of_ble_eq_true rfl⟩ rfl hl.1 rfl (Nat.le_of_ble_eq_true rfl) dL_law_736 ⟨by show _ ≤ 3160; omega, by show _ ≤ 121633; omega⟩ (fun H locs hW => ?_)
  replace hW := pmL_out (f := (woL o f)) (g := g) (σ2 := σ2) (σ := (wst o)) (τ := τ) hW
  refine lv_istore (lv' := [(6, .int (wcd [xIO] o)), (0, .ref b), (1, .ref (h 104)), (2, .ref (hm 10)), (3, .ref ao), (4, .ref ad), (5, .int x5)]) G.1 G.2.1 dL_law_739 hl (by decide) rfl (fun ls hl => ?_)
  refine lv_aload_n G.1 G.2.1 dL_law_741 rfl (lv_at hl 3 rfl) ?_
  refine lv_aload_n G.1 G.2.1 dL_law_742 rfl (lv_at hl 1 rfl) ?_
  refine lv_iload G.1 G.2.1 dL_law_743 (lv_at hl 6 rfl) ?_
  refine lv_iconst (v := (1 : Int32)) G.1 G.2.1 dL_law_745 (by decide) ?_
  refine lv_iadd G.1 G.2.1 dL_law_746 ?_
  refine va_sld G.1 G.2.1 hXs hbl hbA hW.2.2 v1 dL_law_747 ?_
  rw [e1]
  refine kc_i (wr := ((ao, .inl (cl, 1, .inr (.inl (woL o f)))) :: (ad, .inl (cd, 1, .inr (.inr (.inr (.inl g))))) :: wBB cy h h2 σ2 (wst o))) (w := wM cy hm τ) (w' := wM cy hm τn) (n := 1) (As := [.int a1]) (rest := []) (C := RX5) G hK hA hW (mX5_state l D cy hm _ n τ a1 em) (gV q_20_5 q_20_6 q_20_7 q_1_5 q_20_8) ⟨rfl, rfl⟩ (by decide +kernel) ⟨Nat.le_of_ble_eq_true rfl, Nat.le_of_ble_eq_true rfl⟩ (va_recv hK.1 hW.1 (ci := 7) (q0 := 55) rfl rfl) rfl hl.1 rfl (Nat.le_of_ble_eq_true rfl) dL_law_748 ⟨by show _ ≤ 3160; omega, by show _ ≤ 121633; omega⟩ (fun H locs hW => ?_)
  replace hW : KW D (kA s) s.heap (wLaw cy cl cd ao ad h h2 hm (woL o f) g σ2 (wst o) τn) H locs := hW
  refine lv_istore (lv' := [(7, .int bm), (6, .int (wcd [xIO] o)), (0, .ref b), (1, .ref (h 104)), (2, .ref (hm 10)), (3, .ref ao), (4, .ref ad), (5, .int x5)]) G.1 G.2.1 dL_law_751 hl (by decide) rfl (fun ls hl => ?_)
  refine lv_aload_n G.1 G.2.1 dL_law_753 rfl (lv_at hl 4 rfl) ?_
  refine kc_i (wr := ((ao, .inl (cl, 1, .inr (.inl (woL o f)))) :: (ad, .inl (cd, 1, .inr (.inr (.inr (.inl g))))) :: wBB cy h h2 σ2 (wst o))) (w := wM cy hm τn) (w' := wM cy hm τn) (n := 0) (As := []) (rest := []) (C := RX5) G hK hA hW (mX5_thrown l D cy hm _ n τn  (show fX5_thrown n τn = some (τn 6 0) from rfl)) (gV q_10_9 q_10_10 q_10_11 q_1_5 q_10_12) ⟨rfl, rfl⟩ (by decide +kernel) ⟨Nat.le_of_ble_eq_true rfl, Nat.le_of_ble_eq_true rfl⟩ (va_recv hK.1 hW.1 (ci := 7) (q0 := 55) rfl rfl) rfl hl.1 rfl (Nat.le_of_ble_eq_true rfl) dL_law_754 ⟨by show _ ≤ 3160; omega, by show _ ≤ 121633; omega⟩ (fun H locs hW => ?_)
  replace hW : KW D (kA s) s.heap (wLaw cy cl cd ao ad h h2 hm (woL o f) g σ2 (wst o) τn) H locs := hW
  refine lv_iload G.1 G.2.1 dL_law_757 (lv_at hl 1 rfl) ?_
  refine lv_icmp_eq (tgt := 764) G.1 G.2.1 dL_law_759 (by decide) (fun c9 => ?_) (fun c9 => absurd hth c9)
  refine lv_iload G.1 G.2.1 dL_law_764 (lv_at hl 1 rfl) ?_
  refine lv_if_ne (tgt := 781) G.1 G.2.1 dL_law_766 (by decide) (fun c9 => ?_) (fun c9 => ?_)
  · skip
    refine lv_goto (tgt := 2082) G.1 G.2.1 dL_law_781 (by decide) ?_
    refine W.widen (k := 62 + 2 * j) (n := 3012 + 12 * j) (by omega) (by omega) ?_
    exact K _ _ _ _ _ _ _ hP9 hW (lv_sub hl [2, 3, 4, 5, 6, 7] rfl)
  · obtain ⟨v9, u9, rfl⟩ := wcd_1 hE c9
    have hvb9 : v9 = bm := hvb v9 u9 rfl
    subst hvb9
    refine lv_aload_n G.1 G.2.1 dL_law_769 rfl (lv_at hl 5 rfl) ?_
    refine lv_iconst (v := (0 : Int32)) G.1 G.2.1 dL_law_770 (by decide) ?_
    refine va_lald G.1 G.2.1 hKL.1 hW.1 0 1 rfl rfl k_in01 dL_law_771 ?_
    refine lv_iload G.1 G.2.1 dL_law_772 (lv_at hl 0 rfl) ?_
    refine lv_i2l (v := (v9).toInt64) G.1 G.2.1 dL_law_774 rfl ?_
    refine W.lcmp G.1 G.2.1 dL_law_775 ?_
    have cmp9 : lg_cmp (woL (.inr (v9, u9)) f (0 : Int32).toNatClampNeg) v9.toInt64 = 0 := k_cmp0 f v9 u9
    refine lv_if_eq (tgt := 781) G.1 G.2.1 dL_law_776 (by decide) (fun c9 => ?_) (fun c9 => absurd cmp9 c9)
    refine lv_goto (tgt := 2082) G.1 G.2.1 dL_law_781 (by decide) ?_
    refine W.widen (k := 62 + 2 * j) (n := 3012 + 12 * j) (by omega) (by omega) ?_
    exact K _ _ _ _ _ _ _ hP9 hW (lv_sub hl [2, 3, 4, 5, 6, 7] rfl)

set_option maxHeartbeats 4000000 in
set_option maxRecDepth 100000 in
theorem law_c12 (hT : l.stackTraces = false) (G : CallFix p m c cL_law 9 s #[Value.ref b] wA RL) (hXs : va_X b L xs s s.heap) (hbl : b < s.heap.size) (hKL : KL D cy cl cd s) (hX : KX (kA s) s) (n : Nat) (hj : j < 512) {a1 : Int32} (v1 : vp_in (x5 + (1 : Int32)) L) (e1 : xs (x5 + (1 : Int32)).toNatClampNeg = a1) (P : St → St → Prop) (ag : AgI [xIO, xIS] (fX4_startTime n σ a1) (fX5_startTime n τ a1) P) (K : ∀ (f' : Nat → Int64) (g' : Nat → UInt64) (σ' τ' : St) (H : Heap) (locs : List Loc) (ls : Array Slot), P σ' τ' → KW D (kA s) s.heap (wLaw cy cl cd ao ad h h2 hm f' g' σ2 σ' τ') H locs → lv_has ls 9 [(0, .ref b), (1, .ref (h 104)), (2, .ref (hm 10)), (3, .ref ao), (4, .ref ad), (5, .int x5)] → W p l e room_1 s m #[Value.ref b] below meth c H locs (62 + 2 * j) (3012 + 12 * j) Q (F0 m 2082 ls [])) (hW : KW D (kA s) s.heap (wLaw cy cl cd ao ad h h2 hm f g σ2 σ τ) H locs) (hl : lv_has ls 9 [(0, .ref b), (1, .ref (h 104)), (2, .ref (hm 10)), (3, .ref ao), (4, .ref ad), (5, .int x5)]) : W p l e room_1 s m #[Value.ref b] below meth c H locs (60 + 2 * j) (3000 + 12 * j) Q (F0 m 784 ls []) := by
  have hA : ∀ q : Nat, s.heap.size ≤ q → kA s q := fun _ h => h
  have hbA : ¬ kA s b := Nat.not_le.mpr hbl
  have hK := hKL.KK
  obtain ⟨o, bm, τn, ex, em, hE, hth, hvb, hP9⟩ := ag
  refine lv_aload_n G.1 G.2.1 dL_law_784 rfl (lv_at hl 1 rfl) ?_
  refine lv_aload_n G.1 G.2.1 dL_law_785 rfl (lv_at hl 0 rfl) ?_
  refine lv_iload G.1 G.2.1 dL_law_786 (lv_at hl 5 rfl) ?_
  refine lv_iconst (v := (1 : Int32)) G.1 G.2.1 dL_law_788 (by decide) ?_
  refine lv_iadd G.1 G.2.1 dL_law_789 ?_
  refine va_sld G.1 G.2.1 hXs hbl hbA hW.2.2 v1 dL_law_790 ?_
  rw [e1]
  refine lv_aload_n G.1 G.2.1 dL_law_791 rfl (lv_at hl 3 rfl) ?_
  refine kl_w (wr := ([(ad, .inl (cd, 1, .inr (.inr (.inr (.inl g)))))] ++ (wC cy h2 σ2 ++ wM cy hm τ))) (w := ((ao, .inl (cl, 1, .inr (.inl f))) :: wB cy h (h2 103) σ)) (w' := ((ao, .inl (cl, 1, .inr (.inl (woL o f)))) :: wB cy h (h2 103) (wst o))) (n := 3) (As := [.ref (h 104), .int a1, .ref ao]) (rest := []) G hKL hX hA (pmL_in hW) (mL_startTime l hT D cy cl cd h (h2 103) ao _ n σ f a1 ex (fun E u h9 => by have h8 := hE E u h9; simpa only [List.mem_cons, List.not_mem_nil, or_false] using h8)) (gSW q_20_9 q_20_10 q_4_12 q_20_11) ⟨rfl, rfl⟩ (by decide +kernel) ⟨Nat.le_of_ble_eq_true rfl, Nat.le_of_ble_eq_true rfl⟩ rfl hl.1 rfl (Nat.le_of_ble_eq_true rfl) dL_law_792 ⟨by show _ ≤ 3160; omega, by show _ ≤ 121633; omega⟩ (fun H locs hW => ?_)
  replace hW := pmL_out (f := (woL o f)) (g := g) (σ2 := σ2) (σ := (wst o)) (τ := τ) hW
  refine lv_istore (lv' := [(6, .int (wcd [xIO, xIS] o)), (0, .ref b), (1, .ref (h 104)), (2, .ref (hm 10)), (3, .ref ao), (4, .ref ad), (5, .int x5)]) G.1 G.2.1 dL_law_795 hl (by decide) rfl (fun ls hl => ?_)
  refine lv_aload_n G.1 G.2.1 dL_law_797 rfl (lv_at hl 3 rfl) ?_
  refine lv_aload_n G.1 G.2.1 dL_law_798 rfl (lv_at hl 1 rfl) ?_
  refine lv_iload G.1 G.2.1 dL_law_799 (lv_at hl 6 rfl) ?_
  refine lv_iconst (v := (1 : Int32)) G.1 G.2.1 dL_law_801 (by decide) ?_
  refine lv_iadd G.1 G.2.1 dL_law_802 ?_
  refine va_sld G.1 G.2.1 hXs hbl hbA hW.2.2 v1 dL_law_803 ?_
  rw [e1]
  refine kc_i (wr := ((ao, .inl (cl, 1, .inr (.inl (woL o f)))) :: (ad, .inl (cd, 1, .inr (.inr (.inr (.inl g))))) :: wBB cy h h2 σ2 (wst o))) (w := wM cy hm τ) (w' := wM cy hm τn) (n := 1) (As := [.int a1]) (rest := []) (C := RX5) G hK hA hW (mX5_startTime l D cy hm _ n τ a1 em) (gV q_20_17 q_20_18 q_20_19 q_1_5 q_20_20) ⟨rfl, rfl⟩ (by decide +kernel) ⟨Nat.le_of_ble_eq_true rfl, Nat.le_of_ble_eq_true rfl⟩ (va_recv hK.1 hW.1 (ci := 7) (q0 := 55) rfl rfl) rfl hl.1 rfl (Nat.le_of_ble_eq_true rfl) dL_law_804 ⟨by show _ ≤ 3160; omega, by show _ ≤ 121633; omega⟩ (fun H locs hW => ?_)
  replace hW : KW D (kA s) s.heap (wLaw cy cl cd ao ad h h2 hm (woL o f) g σ2 (wst o) τn) H locs := hW
  refine lv_istore (lv' := [(7, .int bm), (6, .int (wcd [xIO, xIS] o)), (0, .ref b), (1, .ref (h 104)), (2, .ref (hm 10)), (3, .ref ao), (4, .ref ad), (5, .int x5)]) G.1 G.2.1 dL_law_807 hl (by decide) rfl (fun ls hl => ?_)
  refine lv_aload_n G.1 G.2.1 dL_law_809 rfl (lv_at hl 4 rfl) ?_
  refine kc_i (wr := ((ao, .inl (cl, 1, .inr (.inl (woL o f)))) :: (ad, .inl (cd, 1, .inr (.inr (.inr (.inl g))))) :: wBB cy h h2 σ2 (wst o))) (w := wM cy hm τn) (w' := wM cy hm τn) (n := 0) (As := []) (rest := []) (C := RX5) G hK hA hW (mX5_thrown l D cy hm _ n τn  (show fX5_thrown n τn = some (τn 6 0) from rfl)) (gV q_10_9 q_10_10 q_10_11 q_1_5 q_10_12) ⟨rfl, rfl⟩ (by decide +kernel) ⟨Nat.le_of_ble_eq_true rfl, Nat.le_of_ble_eq_true rfl⟩ (va_recv hK.1 hW.1 (ci := 7) (q0 := 55) rfl rfl) rfl hl.1 rfl (Nat.le_of_ble_eq_true rfl) dL_law_810 ⟨by show _ ≤ 3160; omega, by show _ ≤ 121633; omega⟩ (fun H locs hW => ?_)
  replace hW : KW D (kA s) s.heap (wLaw cy cl cd ao ad h h2 hm (woL o f) g σ2 (wst o) τn) H locs := hW
  refine lv_iload G.1 G.2.1 dL_law_813 (lv_at hl 1 rfl) ?_
  refine lv_icmp_eq (tgt := 820) G.1 G.2.1 dL_law_815 (by decide) (fun c9 => ?_) (fun c9 => absurd hth c9)
  refine lv_iload G.1 G.2.1 dL_law_820 (lv_at hl 1 rfl) ?_
  refine lv_if_ne (tgt := 837) G.1 G.2.1 dL_law_822 (by decide) (fun c9 => ?_) (fun c9 => ?_)
  · skip
    refine lv_goto (tgt := 2082) G.1 G.2.1 dL_law_837 (by decide) ?_
    refine W.widen (k := 62 + 2 * j) (n := 3012 + 12 * j) (by omega) (by omega) ?_
    exact K _ _ _ _ _ _ _ hP9 hW (lv_sub hl [2, 3, 4, 5, 6, 7] rfl)
  · obtain ⟨v9, u9, rfl⟩ := wcd_2 hE c9
    have hvb9 : v9 = bm := hvb v9 u9 rfl
    subst hvb9
    refine lv_aload_n G.1 G.2.1 dL_law_825 rfl (lv_at hl 5 rfl) ?_
    refine lv_iconst (v := (0 : Int32)) G.1 G.2.1 dL_law_826 (by decide) ?_
    refine va_lald G.1 G.2.1 hKL.1 hW.1 0 1 rfl rfl k_in01 dL_law_827 ?_
    refine lv_iload G.1 G.2.1 dL_law_828 (lv_at hl 0 rfl) ?_
    refine lv_i2l (v := (v9).toInt64) G.1 G.2.1 dL_law_830 rfl ?_
    refine W.lcmp G.1 G.2.1 dL_law_831 ?_
    have cmp9 : lg_cmp (woL (.inr (v9, u9)) f (0 : Int32).toNatClampNeg) v9.toInt64 = 0 := k_cmp0 f v9 u9
    refine lv_if_eq (tgt := 837) G.1 G.2.1 dL_law_832 (by decide) (fun c9 => ?_) (fun c9 => absurd cmp9 c9)
    refine lv_goto (tgt := 2082) G.1 G.2.1 dL_law_837 (by decide) ?_
    refine W.widen (k := 62 + 2 * j) (n := 3012 + 12 * j) (by omega) (by omega) ?_
    exact K _ _ _ _ _ _ _ hP9 hW (lv_sub hl [2, 3, 4, 5, 6, 7] rfl)

set_option maxHeartbeats 4000000 in
set_option maxRecDepth 100000 in
theorem law_c13 (hT : l.stackTraces = false) (G : CallFix p m c cL_law 9 s #[Value.ref b] wA RL) (hXs : va_X b L xs s s.heap) (hbl : b < s.heap.size) (hKL : KL D cy cl cd s) (hX : KX (kA s) s) (n : Nat) (hj : j < 512) {a1 : Int32} (v1 : vp_in (x5 + (1 : Int32)) L) (e1 : xs (x5 + (1 : Int32)).toNatClampNeg = a1) (P : St → St → Prop) (ag : AgI [xIO, xIS] (fX4_firstProcessor n σ a1) (fX5_firstProcessor n τ a1) P) (K : ∀ (f' : Nat → Int64) (g' : Nat → UInt64) (σ' τ' : St) (H : Heap) (locs : List Loc) (ls : Array Slot), P σ' τ' → KW D (kA s) s.heap (wLaw cy cl cd ao ad h h2 hm f' g' σ2 σ' τ') H locs → lv_has ls 9 [(0, .ref b), (1, .ref (h 104)), (2, .ref (hm 10)), (3, .ref ao), (4, .ref ad), (5, .int x5)] → W p l e room_1 s m #[Value.ref b] below meth c H locs (62 + 2 * j) (3012 + 12 * j) Q (F0 m 2082 ls [])) (hW : KW D (kA s) s.heap (wLaw cy cl cd ao ad h h2 hm f g σ2 σ τ) H locs) (hl : lv_has ls 9 [(0, .ref b), (1, .ref (h 104)), (2, .ref (hm 10)), (3, .ref ao), (4, .ref ad), (5, .int x5)]) : W p l e room_1 s m #[Value.ref b] below meth c H locs (60 + 2 * j) (3000 + 12 * j) Q (F0 m 840 ls []) := by
  have hA : ∀ q : Nat, s.heap.size ≤ q → kA s q := fun _ h => h
  have hbA : ¬ kA s b := Nat.not_le.mpr hbl
  have hK := hKL.KK
  obtain ⟨o, bm, τn, ex, em, hE, hth, hvb, hP9⟩ := ag
  refine lv_aload_n G.1 G.2.1 dL_law_840 rfl (lv_at hl 1 rfl) ?_
  refine lv_aload_n G.1 G.2.1 dL_law_841 rfl (lv_at hl 0 rfl) ?_
  refine lv_iload G.1 G.2.1 dL_law_842 (lv_at hl 5 rfl) ?_
  refine lv_iconst (v := (1 : Int32)) G.1 G.2.1 dL_law_844 (by decide) ?_
  refine lv_iadd G.1 G.2.1 dL_law_845 ?_
  refine va_sld G.1 G.2.1 hXs hbl hbA hW.2.2 v1 dL_law_846 ?_
  rw [e1]
  refine lv_aload_n G.1 G.2.1 dL_law_847 rfl (lv_at hl 3 rfl) ?_
  refine kl_w (wr := ([(ad, .inl (cd, 1, .inr (.inr (.inr (.inl g)))))] ++ (wC cy h2 σ2 ++ wM cy hm τ))) (w := ((ao, .inl (cl, 1, .inr (.inl f))) :: wB cy h (h2 103) σ)) (w' := ((ao, .inl (cl, 1, .inr (.inl (woL o f)))) :: wB cy h (h2 103) (wst o))) (n := 3) (As := [.ref (h 104), .int a1, .ref ao]) (rest := []) G hKL hX hA (pmL_in hW) (mL_firstProcessor l hT D cy cl cd h (h2 103) ao _ n σ f a1 ex (fun E u h9 => by have h8 := hE E u h9; simpa only [List.mem_cons, List.not_mem_nil, or_false] using h8)) (gSW q_21_1 q_21_2 q_4_12 q_21_3) ⟨rfl, rfl⟩ (by decide +kernel) ⟨Nat.le_of_ble_eq_true rfl, Nat.le_of_ble_eq_true rfl⟩ rfl hl.1 rfl (Nat.le_of_ble_eq_true rfl) dL_law_848 ⟨by show _ ≤ 3160; omega, by show _ ≤ 121633; omega⟩ (fun H locs hW => ?_)
  replace hW := pmL_out (f := (woL o f)) (g := g) (σ2 := σ2) (σ := (wst o)) (τ := τ) hW
  refine lv_istore (lv' := [(6, .int (wcd [xIO, xIS] o)), (0, .ref b), (1, .ref (h 104)), (2, .ref (hm 10)), (3, .ref ao), (4, .ref ad), (5, .int x5)]) G.1 G.2.1 dL_law_851 hl (by decide) rfl (fun ls hl => ?_)
  refine lv_aload_n G.1 G.2.1 dL_law_853 rfl (lv_at hl 3 rfl) ?_
  refine lv_aload_n G.1 G.2.1 dL_law_854 rfl (lv_at hl 1 rfl) ?_
  refine lv_iload G.1 G.2.1 dL_law_855 (lv_at hl 6 rfl) ?_
  refine lv_iconst (v := (1 : Int32)) G.1 G.2.1 dL_law_857 (by decide) ?_
  refine lv_iadd G.1 G.2.1 dL_law_858 ?_
  refine va_sld G.1 G.2.1 hXs hbl hbA hW.2.2 v1 dL_law_859 ?_
  rw [e1]
  refine kc_i (wr := ((ao, .inl (cl, 1, .inr (.inl (woL o f)))) :: (ad, .inl (cd, 1, .inr (.inr (.inr (.inl g))))) :: wBB cy h h2 σ2 (wst o))) (w := wM cy hm τ) (w' := wM cy hm τn) (n := 1) (As := [.int a1]) (rest := []) (C := RX5) G hK hA hW (mX5_firstProcessor l D cy hm _ n τ a1 em) (gV q_21_8 q_21_9 q_21_10 q_1_5 q_21_11) ⟨rfl, rfl⟩ (by decide +kernel) ⟨Nat.le_of_ble_eq_true rfl, Nat.le_of_ble_eq_true rfl⟩ (va_recv hK.1 hW.1 (ci := 7) (q0 := 55) rfl rfl) rfl hl.1 rfl (Nat.le_of_ble_eq_true rfl) dL_law_860 ⟨by show _ ≤ 3160; omega, by show _ ≤ 121633; omega⟩ (fun H locs hW => ?_)
  replace hW : KW D (kA s) s.heap (wLaw cy cl cd ao ad h h2 hm (woL o f) g σ2 (wst o) τn) H locs := hW
  refine lv_istore (lv' := [(7, .int bm), (6, .int (wcd [xIO, xIS] o)), (0, .ref b), (1, .ref (h 104)), (2, .ref (hm 10)), (3, .ref ao), (4, .ref ad), (5, .int x5)]) G.1 G.2.1 dL_law_863 hl (by decide) rfl (fun ls hl => ?_)
  refine lv_aload_n G.1 G.2.1 dL_law_865 rfl (lv_at hl 4 rfl) ?_
  refine kc_i (wr := ((ao, .inl (cl, 1, .inr (.inl (woL o f)))) :: (ad, .inl (cd, 1, .inr (.inr (.inr (.inl g))))) :: wBB cy h h2 σ2 (wst o))) (w := wM cy hm τn) (w' := wM cy hm τn) (n := 0) (As := []) (rest := []) (C := RX5) G hK hA hW (mX5_thrown l D cy hm _ n τn  (show fX5_thrown n τn = some (τn 6 0) from rfl)) (gV q_10_9 q_10_10 q_10_11 q_1_5 q_10_12) ⟨rfl, rfl⟩ (by decide +kernel) ⟨Nat.le_of_ble_eq_true rfl, Nat.le_of_ble_eq_true rfl⟩ (va_recv hK.1 hW.1 (ci := 7) (q0 := 55) rfl rfl) rfl hl.1 rfl (Nat.le_of_ble_eq_true rfl) dL_law_866 ⟨by show _ ≤ 3160; omega, by show _ ≤ 121633; omega⟩ (fun H locs hW => ?_)
  replace hW : KW D (kA s) s.heap (wLaw cy cl cd ao ad h h2 hm (woL o f) g σ2 (wst o) τn) H locs := hW
  refine lv_iload G.1 G.2.1 dL_law_869 (lv_at hl 1 rfl) ?_
  refine lv_icmp_eq (tgt := 876) G.1 G.2.1 dL_law_871 (by decide) (fun c9 => ?_) (fun c9 => absurd hth c9)
  refine lv_iload G.1 G.2.1 dL_law_876 (lv_at hl 1 rfl) ?_
  refine lv_if_ne (tgt := 893) G.1 G.2.1 dL_law_878 (by decide) (fun c9 => ?_) (fun c9 => ?_)
  · skip
    refine lv_goto (tgt := 2082) G.1 G.2.1 dL_law_893 (by decide) ?_
    refine W.widen (k := 62 + 2 * j) (n := 3012 + 12 * j) (by omega) (by omega) ?_
    exact K _ _ _ _ _ _ _ hP9 hW (lv_sub hl [2, 3, 4, 5, 6, 7] rfl)
  · obtain ⟨v9, u9, rfl⟩ := wcd_2 hE c9
    have hvb9 : v9 = bm := hvb v9 u9 rfl
    subst hvb9
    refine lv_aload_n G.1 G.2.1 dL_law_881 rfl (lv_at hl 5 rfl) ?_
    refine lv_iconst (v := (0 : Int32)) G.1 G.2.1 dL_law_882 (by decide) ?_
    refine va_lald G.1 G.2.1 hKL.1 hW.1 0 1 rfl rfl k_in01 dL_law_883 ?_
    refine lv_iload G.1 G.2.1 dL_law_884 (lv_at hl 0 rfl) ?_
    refine lv_i2l (v := (v9).toInt64) G.1 G.2.1 dL_law_886 rfl ?_
    refine W.lcmp G.1 G.2.1 dL_law_887 ?_
    have cmp9 : lg_cmp (woL (.inr (v9, u9)) f (0 : Int32).toNatClampNeg) v9.toInt64 = 0 := k_cmp0 f v9 u9
    refine lv_if_eq (tgt := 893) G.1 G.2.1 dL_law_888 (by decide) (fun c9 => ?_) (fun c9 => absurd cmp9 c9)
    refine lv_goto (tgt := 2082) G.1 G.2.1 dL_law_893 (by decide) ?_
    refine W.widen (k := 62 + 2 * j) (n := 3012 + 12 * j) (by omega) (by omega) ?_
    exact K _ _ _ _ _ _ _ hP9 hW (lv_sub hl [2, 3, 4, 5, 6, 7] rfl)

set_option maxHeartbeats 4000000 in
set_option maxRecDepth 100000 in
theorem law_c14 (hT : l.stackTraces = false) (G : CallFix p m c cL_law 9 s #[Value.ref b] wA RL) (hXs : va_X b L xs s s.heap) (hbl : b < s.heap.size) (hKL : KL D cy cl cd s) (hX : KX (kA s) s) (n : Nat) (hj : j < 512) {a1 : Int32} (v1 : vp_in (x5 + (1 : Int32)) L) (e1 : xs (x5 + (1 : Int32)).toNatClampNeg = a1) (P : St → St → Prop) (ag : AgI [xIO] (fX4_promise n σ a1) (fX5_promise n τ a1) P) (K : ∀ (f' : Nat → Int64) (g' : Nat → UInt64) (σ' τ' : St) (H : Heap) (locs : List Loc) (ls : Array Slot), P σ' τ' → KW D (kA s) s.heap (wLaw cy cl cd ao ad h h2 hm f' g' σ2 σ' τ') H locs → lv_has ls 9 [(0, .ref b), (1, .ref (h 104)), (2, .ref (hm 10)), (3, .ref ao), (4, .ref ad), (5, .int x5)] → W p l e room_1 s m #[Value.ref b] below meth c H locs (62 + 2 * j) (3012 + 12 * j) Q (F0 m 2082 ls [])) (hW : KW D (kA s) s.heap (wLaw cy cl cd ao ad h h2 hm f g σ2 σ τ) H locs) (hl : lv_has ls 9 [(0, .ref b), (1, .ref (h 104)), (2, .ref (hm 10)), (3, .ref ao), (4, .ref ad), (5, .int x5)]) : W p l e room_1 s m #[Value.ref b] below meth c H locs (60 + 2 * j) (3000 + 12 * j) Q (F0 m 896 ls []) := by
  have hA : ∀ q : Nat, s.heap.size ≤ q → kA s q := fun _ h => h
  have hbA : ¬ kA s b := Nat.not_le.mpr hbl
  have hK := hKL.KK
  obtain ⟨o, bm, τn, ex, em, hE, hth, hvb, hP9⟩ := ag
  refine lv_aload_n G.1 G.2.1 dL_law_896 rfl (lv_at hl 1 rfl) ?_
  refine lv_aload_n G.1 G.2.1 dL_law_897 rfl (lv_at hl 0 rfl) ?_
  refine lv_iload G.1 G.2.1 dL_law_898 (lv_at hl 5 rfl) ?_
  refine lv_iconst (v := (1 : Int32)) G.1 G.2.1 dL_law_900 (by decide) ?_
  refine lv_iadd G.1 G.2.1 dL_law_901 ?_
  refine va_sld G.1 G.2.1 hXs hbl hbA hW.2.2 v1 dL_law_902 ?_
  rw [e1]
  refine lv_aload_n G.1 G.2.1 dL_law_903 rfl (lv_at hl 3 rfl) ?_
  refine kl_w (wr := ([(ad, .inl (cd, 1, .inr (.inr (.inr (.inl g)))))] ++ (wC cy h2 σ2 ++ wM cy hm τ))) (w := ((ao, .inl (cl, 1, .inr (.inl f))) :: wB cy h (h2 103) σ)) (w' := ((ao, .inl (cl, 1, .inr (.inl (woL o f)))) :: wB cy h (h2 103) (wst o))) (n := 3) (As := [.ref (h 104), .int a1, .ref ao]) (rest := []) G hKL hX hA (pmL_in hW) (mL_promise l hT D cy cl cd h (h2 103) ao _ n σ f a1 ex (fun E u h9 => by have h8 := hE E u h9; simpa only [List.mem_cons, List.not_mem_nil, or_false] using h8)) (gSW q_21_12 q_21_13 q_4_12 q_21_14) ⟨rfl, rfl⟩ (by decide +kernel) ⟨Nat.le_of_ble_eq_true rfl, Nat.le_of_ble_eq_true rfl⟩ rfl hl.1 rfl (Nat.le_of_ble_eq_true rfl) dL_law_904 ⟨by show _ ≤ 3160; omega, by show _ ≤ 121633; omega⟩ (fun H locs hW => ?_)
  replace hW := pmL_out (f := (woL o f)) (g := g) (σ2 := σ2) (σ := (wst o)) (τ := τ) hW
  refine lv_istore (lv' := [(6, .int (wcd [xIO] o)), (0, .ref b), (1, .ref (h 104)), (2, .ref (hm 10)), (3, .ref ao), (4, .ref ad), (5, .int x5)]) G.1 G.2.1 dL_law_907 hl (by decide) rfl (fun ls hl => ?_)
  refine lv_aload_n G.1 G.2.1 dL_law_909 rfl (lv_at hl 3 rfl) ?_
  refine lv_aload_n G.1 G.2.1 dL_law_910 rfl (lv_at hl 1 rfl) ?_
  refine lv_iload G.1 G.2.1 dL_law_911 (lv_at hl 6 rfl) ?_
  refine lv_iconst (v := (1 : Int32)) G.1 G.2.1 dL_law_913 (by decide) ?_
  refine lv_iadd G.1 G.2.1 dL_law_914 ?_
  refine va_sld G.1 G.2.1 hXs hbl hbA hW.2.2 v1 dL_law_915 ?_
  rw [e1]
  refine kc_i (wr := ((ao, .inl (cl, 1, .inr (.inl (woL o f)))) :: (ad, .inl (cd, 1, .inr (.inr (.inr (.inl g))))) :: wBB cy h h2 σ2 (wst o))) (w := wM cy hm τ) (w' := wM cy hm τn) (n := 1) (As := [.int a1]) (rest := []) (C := RX5) G hK hA hW (mX5_promise l D cy hm _ n τ a1 em) (gV q_21_20 q_21_21 q_21_22 q_1_5 q_21_23) ⟨rfl, rfl⟩ (by decide +kernel) ⟨Nat.le_of_ble_eq_true rfl, Nat.le_of_ble_eq_true rfl⟩ (va_recv hK.1 hW.1 (ci := 7) (q0 := 55) rfl rfl) rfl hl.1 rfl (Nat.le_of_ble_eq_true rfl) dL_law_916 ⟨by show _ ≤ 3160; omega, by show _ ≤ 121633; omega⟩ (fun H locs hW => ?_)
  replace hW : KW D (kA s) s.heap (wLaw cy cl cd ao ad h h2 hm (woL o f) g σ2 (wst o) τn) H locs := hW
  refine lv_istore (lv' := [(7, .int bm), (6, .int (wcd [xIO] o)), (0, .ref b), (1, .ref (h 104)), (2, .ref (hm 10)), (3, .ref ao), (4, .ref ad), (5, .int x5)]) G.1 G.2.1 dL_law_919 hl (by decide) rfl (fun ls hl => ?_)
  refine lv_aload_n G.1 G.2.1 dL_law_921 rfl (lv_at hl 4 rfl) ?_
  refine kc_i (wr := ((ao, .inl (cl, 1, .inr (.inl (woL o f)))) :: (ad, .inl (cd, 1, .inr (.inr (.inr (.inl g))))) :: wBB cy h h2 σ2 (wst o))) (w := wM cy hm τn) (w' := wM cy hm τn) (n := 0) (As := []) (rest := []) (C := RX5) G hK hA hW (mX5_thrown l D cy hm _ n τn  (show fX5_thrown n τn = some (τn 6 0) from rfl)) (gV q_10_9 q_10_10 q_10_11 q_1_5 q_10_12) ⟨rfl, rfl⟩ (by decide +kernel) ⟨Nat.le_of_ble_eq_true rfl, Nat.le_of_ble_eq_true rfl⟩ (va_recv hK.1 hW.1 (ci := 7) (q0 := 55) rfl rfl) rfl hl.1 rfl (Nat.le_of_ble_eq_true rfl) dL_law_922 ⟨by show _ ≤ 3160; omega, by show _ ≤ 121633; omega⟩ (fun H locs hW => ?_)
  replace hW : KW D (kA s) s.heap (wLaw cy cl cd ao ad h h2 hm (woL o f) g σ2 (wst o) τn) H locs := hW
  refine lv_iload G.1 G.2.1 dL_law_925 (lv_at hl 1 rfl) ?_
  refine lv_icmp_eq (tgt := 932) G.1 G.2.1 dL_law_927 (by decide) (fun c9 => ?_) (fun c9 => absurd hth c9)
  refine lv_iload G.1 G.2.1 dL_law_932 (lv_at hl 1 rfl) ?_
  refine lv_if_ne (tgt := 949) G.1 G.2.1 dL_law_934 (by decide) (fun c9 => ?_) (fun c9 => ?_)
  · skip
    refine lv_goto (tgt := 2082) G.1 G.2.1 dL_law_949 (by decide) ?_
    refine W.widen (k := 62 + 2 * j) (n := 3012 + 12 * j) (by omega) (by omega) ?_
    exact K _ _ _ _ _ _ _ hP9 hW (lv_sub hl [2, 3, 4, 5, 6, 7] rfl)
  · obtain ⟨v9, u9, rfl⟩ := wcd_1 hE c9
    have hvb9 : v9 = bm := hvb v9 u9 rfl
    subst hvb9
    refine lv_aload_n G.1 G.2.1 dL_law_937 rfl (lv_at hl 5 rfl) ?_
    refine lv_iconst (v := (0 : Int32)) G.1 G.2.1 dL_law_938 (by decide) ?_
    refine va_lald G.1 G.2.1 hKL.1 hW.1 0 1 rfl rfl k_in01 dL_law_939 ?_
    refine lv_iload G.1 G.2.1 dL_law_940 (lv_at hl 0 rfl) ?_
    refine lv_i2l (v := (v9).toInt64) G.1 G.2.1 dL_law_942 rfl ?_
    refine W.lcmp G.1 G.2.1 dL_law_943 ?_
    have cmp9 : lg_cmp (woL (.inr (v9, u9)) f (0 : Int32).toNatClampNeg) v9.toInt64 = 0 := k_cmp0 f v9 u9
    refine lv_if_eq (tgt := 949) G.1 G.2.1 dL_law_944 (by decide) (fun c9 => ?_) (fun c9 => absurd cmp9 c9)
    refine lv_goto (tgt := 2082) G.1 G.2.1 dL_law_949 (by decide) ?_
    refine W.widen (k := 62 + 2 * j) (n := 3012 + 12 * j) (by omega) (by omega) ?_
    exact K _ _ _ _ _ _ _ hP9 hW (lv_sub hl [2, 3, 4, 5, 6, 7] rfl)

set_option maxHeartbeats 4000000 in
set_option maxRecDepth 100000 in
theorem law_c15 (hT : l.stackTraces = false) (G : CallFix p m c cL_law 9 s #[Value.ref b] wA RL) (hXs : va_X b L xs s s.heap) (hbl : b < s.heap.size) (hKL : KL D cy cl cd s) (hX : KX (kA s) s) (n : Nat) (hj : j < 512) {a1 : Int32} (v1 : vp_in (x5 + (1 : Int32)) L) (e1 : xs (x5 + (1 : Int32)).toNatClampNeg = a1) (P : St → St → Prop) (ag : AgI [xIO, xIS] (fX4_finishTime n σ a1) (fX5_finishTime n τ a1) P) (K : ∀ (f' : Nat → Int64) (g' : Nat → UInt64) (σ' τ' : St) (H : Heap) (locs : List Loc) (ls : Array Slot), P σ' τ' → KW D (kA s) s.heap (wLaw cy cl cd ao ad h h2 hm f' g' σ2 σ' τ') H locs → lv_has ls 9 [(0, .ref b), (1, .ref (h 104)), (2, .ref (hm 10)), (3, .ref ao), (4, .ref ad), (5, .int x5)] → W p l e room_1 s m #[Value.ref b] below meth c H locs (62 + 2 * j) (3012 + 12 * j) Q (F0 m 2082 ls [])) (hW : KW D (kA s) s.heap (wLaw cy cl cd ao ad h h2 hm f g σ2 σ τ) H locs) (hl : lv_has ls 9 [(0, .ref b), (1, .ref (h 104)), (2, .ref (hm 10)), (3, .ref ao), (4, .ref ad), (5, .int x5)]) : W p l e room_1 s m #[Value.ref b] below meth c H locs (60 + 2 * j) (3000 + 12 * j) Q (F0 m 952 ls []) := by
  have hA : ∀ q : Nat, s.heap.size ≤ q → kA s q := fun _ h => h
  have hbA : ¬ kA s b := Nat.not_le.mpr hbl
  have hK := hKL.KK
  obtain ⟨o, bm, τn, ex, em, hE, hth, hvb, hP9⟩ := ag
  refine lv_aload_n G.1 G.2.1 dL_law_952 rfl (lv_at hl 1 rfl) ?_
  refine lv_aload_n G.1 G.2.1 dL_law_953 rfl (lv_at hl 0 rfl) ?_
  refine lv_iload G.1 G.2.1 dL_law_954 (lv_at hl 5 rfl) ?_
  refine lv_iconst (v := (1 : Int32)) G.1 G.2.1 dL_law_956 (by decide) ?_
  refine lv_iadd G.1 G.2.1 dL_law_957 ?_
  refine va_sld G.1 G.2.1 hXs hbl hbA hW.2.2 v1 dL_law_958 ?_
  rw [e1]
  refine lv_aload_n G.1 G.2.1 dL_law_959 rfl (lv_at hl 3 rfl) ?_
  refine kl_w (wr := ([(ad, .inl (cd, 1, .inr (.inr (.inr (.inl g)))))] ++ (wC cy h2 σ2 ++ wM cy hm τ))) (w := ((ao, .inl (cl, 1, .inr (.inl f))) :: wB cy h (h2 103) σ)) (w' := ((ao, .inl (cl, 1, .inr (.inl (woL o f)))) :: wB cy h (h2 103) (wst o))) (n := 3) (As := [.ref (h 104), .int a1, .ref ao]) (rest := []) G hKL hX hA (pmL_in hW) (mL_finishTime l hT D cy cl cd h (h2 103) ao _ n σ f a1 ex (fun E u h9 => by have h8 := hE E u h9; simpa only [List.mem_cons, List.not_mem_nil, or_false] using h8)) (gSW q_22_0 q_22_1 q_4_12 q_22_2) ⟨rfl, rfl⟩ (by decide +kernel) ⟨Nat.le_of_ble_eq_true rfl, Nat.le_of_ble_eq_true rfl⟩ rfl hl.1 rfl (Nat.le_of_ble_eq_true rfl) dL_law_960 ⟨by show _ ≤ 3160; omega, by show _ ≤ 121633; omega⟩ (fun H locs hW => ?_)
  replace hW := pmL_out (f := (woL o f)) (g := g) (σ2 := σ2) (σ := (wst o)) (τ := τ) hW
  refine lv_istore (lv' := [(6, .int (wcd [xIO, xIS] o)), (0, .ref b), (1, .ref (h 104)), (2, .ref (hm 10)), (3, .ref ao), (4, .ref ad), (5, .int x5)]) G.1 G.2.1 dL_law_963 hl (by decide) rfl (fun ls hl => ?_)
  refine lv_aload_n G.1 G.2.1 dL_law_965 rfl (lv_at hl 3 rfl) ?_
  refine lv_aload_n G.1 G.2.1 dL_law_966 rfl (lv_at hl 1 rfl) ?_
  refine lv_iload G.1 G.2.1 dL_law_967 (lv_at hl 6 rfl) ?_
  refine lv_iconst (v := (1 : Int32)) G.1 G.2.1 dL_law_969 (by decide) ?_
  refine lv_iadd G.1 G.2.1 dL_law_970 ?_
  refine va_sld G.1 G.2.1 hXs hbl hbA hW.2.2 v1 dL_law_971 ?_
  rw [e1]
  refine kc_i (wr := ((ao, .inl (cl, 1, .inr (.inl (woL o f)))) :: (ad, .inl (cd, 1, .inr (.inr (.inr (.inl g))))) :: wBB cy h h2 σ2 (wst o))) (w := wM cy hm τ) (w' := wM cy hm τn) (n := 1) (As := [.int a1]) (rest := []) (C := RX5) G hK hA hW (mX5_finishTime l D cy hm _ n τ a1 em) (gV q_22_12 q_22_13 q_22_14 q_1_5 q_22_15) ⟨rfl, rfl⟩ (by decide +kernel) ⟨Nat.le_of_ble_eq_true rfl, Nat.le_of_ble_eq_true rfl⟩ (va_recv hK.1 hW.1 (ci := 7) (q0 := 55) rfl rfl) rfl hl.1 rfl (Nat.le_of_ble_eq_true rfl) dL_law_972 ⟨by show _ ≤ 3160; omega, by show _ ≤ 121633; omega⟩ (fun H locs hW => ?_)
  replace hW : KW D (kA s) s.heap (wLaw cy cl cd ao ad h h2 hm (woL o f) g σ2 (wst o) τn) H locs := hW
  refine lv_istore (lv' := [(7, .int bm), (6, .int (wcd [xIO, xIS] o)), (0, .ref b), (1, .ref (h 104)), (2, .ref (hm 10)), (3, .ref ao), (4, .ref ad), (5, .int x5)]) G.1 G.2.1 dL_law_975 hl (by decide) rfl (fun ls hl => ?_)
  refine lv_aload_n G.1 G.2.1 dL_law_977 rfl (lv_at hl 4 rfl) ?_
  refine kc_i (wr := ((ao, .inl (cl, 1, .inr (.inl (woL o f)))) :: (ad, .inl (cd, 1, .inr (.inr (.inr (.inl g))))) :: wBB cy h h2 σ2 (wst o))) (w := wM cy hm τn) (w' := wM cy hm τn) (n := 0) (As := []) (rest := []) (C := RX5) G hK hA hW (mX5_thrown l D cy hm _ n τn  (show fX5_thrown n τn = some (τn 6 0) from rfl)) (gV q_10_9 q_10_10 q_10_11 q_1_5 q_10_12) ⟨rfl, rfl⟩ (by decide +kernel) ⟨Nat.le_of_ble_eq_true rfl, Nat.le_of_ble_eq_true rfl⟩ (va_recv hK.1 hW.1 (ci := 7) (q0 := 55) rfl rfl) rfl hl.1 rfl (Nat.le_of_ble_eq_true rfl) dL_law_978 ⟨by show _ ≤ 3160; omega, by show _ ≤ 121633; omega⟩ (fun H locs hW => ?_)
  replace hW : KW D (kA s) s.heap (wLaw cy cl cd ao ad h h2 hm (woL o f) g σ2 (wst o) τn) H locs := hW
  refine lv_iload G.1 G.2.1 dL_law_981 (lv_at hl 1 rfl) ?_
  refine lv_icmp_eq (tgt := 988) G.1 G.2.1 dL_law_983 (by decide) (fun c9 => ?_) (fun c9 => absurd hth c9)
  refine lv_iload G.1 G.2.1 dL_law_988 (lv_at hl 1 rfl) ?_
  refine lv_if_ne (tgt := 1005) G.1 G.2.1 dL_law_990 (by decide) (fun c9 => ?_) (fun c9 => ?_)
  · skip
    refine lv_goto (tgt := 2082) G.1 G.2.1 dL_law_1005 (by decide) ?_
    refine W.widen (k := 62 + 2 * j) (n := 3012 + 12 * j) (by omega) (by omega) ?_
    exact K _ _ _ _ _ _ _ hP9 hW (lv_sub hl [2, 3, 4, 5, 6, 7] rfl)
  · obtain ⟨v9, u9, rfl⟩ := wcd_2 hE c9
    have hvb9 : v9 = bm := hvb v9 u9 rfl
    subst hvb9
    refine lv_aload_n G.1 G.2.1 dL_law_993 rfl (lv_at hl 5 rfl) ?_
    refine lv_iconst (v := (0 : Int32)) G.1 G.2.1 dL_law_994 (by decide) ?_
    refine va_lald G.1 G.2.1 hKL.1 hW.1 0 1 rfl rfl k_in01 dL_law_995 ?_
    refine lv_iload G.1 G.2.1 dL_law_996 (lv_at hl 0 rfl) ?_
    refine lv_i2l (v := (v9).toInt64) G.1 G.2.1 dL_law_998 rfl ?_
    refine W.lcmp G.1 G.2.1 dL_law_999 ?_
    have cmp9 : lg_cmp (woL (.inr (v9, u9)) f (0 : Int32).toNatClampNeg) v9.toInt64 = 0 := k_cmp0 f v9 u9
    refine lv_if_eq (tgt := 1005) G.1 G.2.1 dL_law_1000 (by decide) (fun c9 => ?_) (fun c9 => absurd cmp9 c9)
    refine lv_goto (tgt := 2082) G.1 G.2.1 dL_law_1005 (by decide) ?_
    refine W.widen (k := 62 + 2 * j) (n := 3012 + 12 * j) (by omega) (by omega) ?_
    exact K _ _ _ _ _ _ _ hP9 hW (lv_sub hl [2, 3, 4, 5, 6, 7] rfl)

set_option maxHeartbeats 4000000 in
set_option maxRecDepth 100000 in
theorem law_c16 (hT : l.stackTraces = false) (G : CallFix p m c cL_law 9 s #[Value.ref b] wA RL) (hXs : va_X b L xs s s.heap) (hbl : b < s.heap.size) (hKL : KL D cy cl cd s) (hX : KX (kA s) s) (n : Nat) (hj : j < 512) {a1 : Int32} (v1 : vp_in (x5 + (1 : Int32)) L) (e1 : xs (x5 + (1 : Int32)).toNatClampNeg = a1) (P : St → St → Prop) (ag : AgI [xIO] (fX4_preemptions n σ a1) (fX5_preemptions n τ a1) P) (K : ∀ (f' : Nat → Int64) (g' : Nat → UInt64) (σ' τ' : St) (H : Heap) (locs : List Loc) (ls : Array Slot), P σ' τ' → KW D (kA s) s.heap (wLaw cy cl cd ao ad h h2 hm f' g' σ2 σ' τ') H locs → lv_has ls 9 [(0, .ref b), (1, .ref (h 104)), (2, .ref (hm 10)), (3, .ref ao), (4, .ref ad), (5, .int x5)] → W p l e room_1 s m #[Value.ref b] below meth c H locs (62 + 2 * j) (3012 + 12 * j) Q (F0 m 2082 ls [])) (hW : KW D (kA s) s.heap (wLaw cy cl cd ao ad h h2 hm f g σ2 σ τ) H locs) (hl : lv_has ls 9 [(0, .ref b), (1, .ref (h 104)), (2, .ref (hm 10)), (3, .ref ao), (4, .ref ad), (5, .int x5)]) : W p l e room_1 s m #[Value.ref b] below meth c H locs (60 + 2 * j) (3000 + 12 * j) Q (F0 m 1008 ls []) := by
  have hA : ∀ q : Nat, s.heap.size ≤ q → kA s q := fun _ h => h
  have hbA : ¬ kA s b := Nat.not_le.mpr hbl
  have hK := hKL.KK
  obtain ⟨o, bm, τn, ex, em, hE, hth, hvb, hP9⟩ := ag
  refine lv_aload_n G.1 G.2.1 dL_law_1008 rfl (lv_at hl 1 rfl) ?_
  refine lv_aload_n G.1 G.2.1 dL_law_1009 rfl (lv_at hl 0 rfl) ?_
  refine lv_iload G.1 G.2.1 dL_law_1010 (lv_at hl 5 rfl) ?_
  refine lv_iconst (v := (1 : Int32)) G.1 G.2.1 dL_law_1012 (by decide) ?_
  refine lv_iadd G.1 G.2.1 dL_law_1013 ?_
  refine va_sld G.1 G.2.1 hXs hbl hbA hW.2.2 v1 dL_law_1014 ?_
  rw [e1]
  refine lv_aload_n G.1 G.2.1 dL_law_1015 rfl (lv_at hl 3 rfl) ?_
  refine kl_w (wr := ([(ad, .inl (cd, 1, .inr (.inr (.inr (.inl g)))))] ++ (wC cy h2 σ2 ++ wM cy hm τ))) (w := ((ao, .inl (cl, 1, .inr (.inl f))) :: wB cy h (h2 103) σ)) (w' := ((ao, .inl (cl, 1, .inr (.inl (woL o f)))) :: wB cy h (h2 103) (wst o))) (n := 3) (As := [.ref (h 104), .int a1, .ref ao]) (rest := []) G hKL hX hA (pmL_in hW) (mL_preemptions l hT D cy cl cd h (h2 103) ao _ n σ f a1 ex (fun E u h9 => by have h8 := hE E u h9; simpa only [List.mem_cons, List.not_mem_nil, or_false] using h8)) (gSW q_22_16 q_22_17 q_4_12 q_22_18) ⟨rfl, rfl⟩ (by decide +kernel) ⟨Nat.le_of_ble_eq_true rfl, Nat.le_of_ble_eq_true rfl⟩ rfl hl.1 rfl (Nat.le_of_ble_eq_true rfl) dL_law_1016 ⟨by show _ ≤ 3160; omega, by show _ ≤ 121633; omega⟩ (fun H locs hW => ?_)
  replace hW := pmL_out (f := (woL o f)) (g := g) (σ2 := σ2) (σ := (wst o)) (τ := τ) hW
  refine lv_istore (lv' := [(6, .int (wcd [xIO] o)), (0, .ref b), (1, .ref (h 104)), (2, .ref (hm 10)), (3, .ref ao), (4, .ref ad), (5, .int x5)]) G.1 G.2.1 dL_law_1019 hl (by decide) rfl (fun ls hl => ?_)
  refine lv_aload_n G.1 G.2.1 dL_law_1021 rfl (lv_at hl 3 rfl) ?_
  refine lv_aload_n G.1 G.2.1 dL_law_1022 rfl (lv_at hl 1 rfl) ?_
  refine lv_iload G.1 G.2.1 dL_law_1023 (lv_at hl 6 rfl) ?_
  refine lv_iconst (v := (1 : Int32)) G.1 G.2.1 dL_law_1025 (by decide) ?_
  refine lv_iadd G.1 G.2.1 dL_law_1026 ?_
  refine va_sld G.1 G.2.1 hXs hbl hbA hW.2.2 v1 dL_law_1027 ?_
  rw [e1]
  refine kc_i (wr := ((ao, .inl (cl, 1, .inr (.inl (woL o f)))) :: (ad, .inl (cd, 1, .inr (.inr (.inr (.inl g))))) :: wBB cy h h2 σ2 (wst o))) (w := wM cy hm τ) (w' := wM cy hm τn) (n := 1) (As := [.int a1]) (rest := []) (C := RX5) G hK hA hW (mX5_preemptions l D cy hm _ n τ a1 em) (gV q_23_0 q_23_1 q_23_2 q_1_5 q_23_3) ⟨rfl, rfl⟩ (by decide +kernel) ⟨Nat.le_of_ble_eq_true rfl, Nat.le_of_ble_eq_true rfl⟩ (va_recv hK.1 hW.1 (ci := 7) (q0 := 55) rfl rfl) rfl hl.1 rfl (Nat.le_of_ble_eq_true rfl) dL_law_1028 ⟨by show _ ≤ 3160; omega, by show _ ≤ 121633; omega⟩ (fun H locs hW => ?_)
  replace hW : KW D (kA s) s.heap (wLaw cy cl cd ao ad h h2 hm (woL o f) g σ2 (wst o) τn) H locs := hW
  refine lv_istore (lv' := [(7, .int bm), (6, .int (wcd [xIO] o)), (0, .ref b), (1, .ref (h 104)), (2, .ref (hm 10)), (3, .ref ao), (4, .ref ad), (5, .int x5)]) G.1 G.2.1 dL_law_1031 hl (by decide) rfl (fun ls hl => ?_)
  refine lv_aload_n G.1 G.2.1 dL_law_1033 rfl (lv_at hl 4 rfl) ?_
  refine kc_i (wr := ((ao, .inl (cl, 1, .inr (.inl (woL o f)))) :: (ad, .inl (cd, 1, .inr (.inr (.inr (.inl g))))) :: wBB cy h h2 σ2 (wst o))) (w := wM cy hm τn) (w' := wM cy hm τn) (n := 0) (As := []) (rest := []) (C := RX5) G hK hA hW (mX5_thrown l D cy hm _ n τn  (show fX5_thrown n τn = some (τn 6 0) from rfl)) (gV q_10_9 q_10_10 q_10_11 q_1_5 q_10_12) ⟨rfl, rfl⟩ (by decide +kernel) ⟨Nat.le_of_ble_eq_true rfl, Nat.le_of_ble_eq_true rfl⟩ (va_recv hK.1 hW.1 (ci := 7) (q0 := 55) rfl rfl) rfl hl.1 rfl (Nat.le_of_ble_eq_true rfl) dL_law_1034 ⟨by show _ ≤ 3160; omega, by show _ ≤ 121633; omega⟩ (fun H locs hW => ?_)
  replace hW : KW D (kA s) s.heap (wLaw cy cl cd ao ad h h2 hm (woL o f) g σ2 (wst o) τn) H locs := hW
  refine lv_iload G.1 G.2.1 dL_law_1037 (lv_at hl 1 rfl) ?_
  refine lv_icmp_eq (tgt := 1044) G.1 G.2.1 dL_law_1039 (by decide) (fun c9 => ?_) (fun c9 => absurd hth c9)
  refine lv_iload G.1 G.2.1 dL_law_1044 (lv_at hl 1 rfl) ?_
  refine lv_if_ne (tgt := 1061) G.1 G.2.1 dL_law_1046 (by decide) (fun c9 => ?_) (fun c9 => ?_)
  · skip
    refine lv_goto (tgt := 2082) G.1 G.2.1 dL_law_1061 (by decide) ?_
    refine W.widen (k := 62 + 2 * j) (n := 3012 + 12 * j) (by omega) (by omega) ?_
    exact K _ _ _ _ _ _ _ hP9 hW (lv_sub hl [2, 3, 4, 5, 6, 7] rfl)
  · obtain ⟨v9, u9, rfl⟩ := wcd_1 hE c9
    have hvb9 : v9 = bm := hvb v9 u9 rfl
    subst hvb9
    refine lv_aload_n G.1 G.2.1 dL_law_1049 rfl (lv_at hl 5 rfl) ?_
    refine lv_iconst (v := (0 : Int32)) G.1 G.2.1 dL_law_1050 (by decide) ?_
    refine va_lald G.1 G.2.1 hKL.1 hW.1 0 1 rfl rfl k_in01 dL_law_1051 ?_
    refine lv_iload G.1 G.2.1 dL_law_1052 (lv_at hl 0 rfl) ?_
    refine lv_i2l (v := (v9).toInt64) G.1 G.2.1 dL_law_1054 rfl ?_
    refine W.lcmp G.1 G.2.1 dL_law_1055 ?_
    have cmp9 : lg_cmp (woL (.inr (v9, u9)) f (0 : Int32).toNatClampNeg) v9.toInt64 = 0 := k_cmp0 f v9 u9
    refine lv_if_eq (tgt := 1061) G.1 G.2.1 dL_law_1056 (by decide) (fun c9 => ?_) (fun c9 => absurd cmp9 c9)
    refine lv_goto (tgt := 2082) G.1 G.2.1 dL_law_1061 (by decide) ?_
    refine W.widen (k := 62 + 2 * j) (n := 3012 + 12 * j) (by omega) (by omega) ?_
    exact K _ _ _ _ _ _ _ hP9 hW (lv_sub hl [2, 3, 4, 5, 6, 7] rfl)

set_option maxHeartbeats 4000000 in
set_option maxRecDepth 100000 in
theorem law_c17 (hT : l.stackTraces = false) (G : CallFix p m c cL_law 9 s #[Value.ref b] wA RL) (hXs : va_X b L xs s s.heap) (hbl : b < s.heap.size) (hKL : KL D cy cl cd s) (hX : KX (kA s) s) (n : Nat) (hj : j < 512) {a1 : Int32} (v1 : vp_in (x5 + (1 : Int32)) L) (e1 : xs (x5 + (1 : Int32)).toNatClampNeg = a1) (P : St → St → Prop) (ag : AgI [xIO, xIS] (fX4_waitTime n σ a1) (fX5_waitTime n τ a1) P) (K : ∀ (f' : Nat → Int64) (g' : Nat → UInt64) (σ' τ' : St) (H : Heap) (locs : List Loc) (ls : Array Slot), P σ' τ' → KW D (kA s) s.heap (wLaw cy cl cd ao ad h h2 hm f' g' σ2 σ' τ') H locs → lv_has ls 9 [(0, .ref b), (1, .ref (h 104)), (2, .ref (hm 10)), (3, .ref ao), (4, .ref ad), (5, .int x5)] → W p l e room_1 s m #[Value.ref b] below meth c H locs (62 + 2 * j) (3012 + 12 * j) Q (F0 m 2082 ls [])) (hW : KW D (kA s) s.heap (wLaw cy cl cd ao ad h h2 hm f g σ2 σ τ) H locs) (hl : lv_has ls 9 [(0, .ref b), (1, .ref (h 104)), (2, .ref (hm 10)), (3, .ref ao), (4, .ref ad), (5, .int x5)]) : W p l e room_1 s m #[Value.ref b] below meth c H locs (60 + 2 * j) (3000 + 12 * j) Q (F0 m 1064 ls []) := by
  have hA : ∀ q : Nat, s.heap.size ≤ q → kA s q := fun _ h => h
  have hbA : ¬ kA s b := Nat.not_le.mpr hbl
  have hK := hKL.KK
  obtain ⟨o, bm, τn, ex, em, hE, hth, hvb, hP9⟩ := ag
  refine lv_aload_n G.1 G.2.1 dL_law_1064 rfl (lv_at hl 1 rfl) ?_
  refine lv_aload_n G.1 G.2.1 dL_law_1065 rfl (lv_at hl 0 rfl) ?_
  refine lv_iload G.1 G.2.1 dL_law_1066 (lv_at hl 5 rfl) ?_
  refine lv_iconst (v := (1 : Int32)) G.1 G.2.1 dL_law_1068 (by decide) ?_
  refine lv_iadd G.1 G.2.1 dL_law_1069 ?_
  refine va_sld G.1 G.2.1 hXs hbl hbA hW.2.2 v1 dL_law_1070 ?_
  rw [e1]
  refine lv_aload_n G.1 G.2.1 dL_law_1071 rfl (lv_at hl 3 rfl) ?_
  refine kl_w (wr := ([(ad, .inl (cd, 1, .inr (.inr (.inr (.inl g)))))] ++ (wC cy h2 σ2 ++ wM cy hm τ))) (w := ((ao, .inl (cl, 1, .inr (.inl f))) :: wB cy h (h2 103) σ)) (w' := ((ao, .inl (cl, 1, .inr (.inl (woL o f)))) :: wB cy h (h2 103) (wst o))) (n := 3) (As := [.ref (h 104), .int a1, .ref ao]) (rest := []) G hKL hX hA (pmL_in hW) (mL_waitTime l hT D cy cl cd h (h2 103) ao _ n σ f a1 ex (fun E u h9 => by have h8 := hE E u h9; simpa only [List.mem_cons, List.not_mem_nil, or_false] using h8)) (gSW q_23_4 q_23_5 q_4_12 q_23_6) ⟨rfl, rfl⟩ (by decide +kernel) ⟨Nat.le_of_ble_eq_true rfl, Nat.le_of_ble_eq_true rfl⟩ rfl hl.1 rfl (Nat.le_of_ble_eq_true rfl) dL_law_1072 ⟨by show _ ≤ 3160; omega, by show _ ≤ 121633; omega⟩ (fun H locs hW => ?_)
  replace hW := pmL_out (f := (woL o f)) (g := g) (σ2 := σ2) (σ := (wst o)) (τ := τ) hW
  refine lv_istore (lv' := [(6, .int (wcd [xIO, xIS] o)), (0, .ref b), (1, .ref (h 104)), (2, .ref (hm 10)), (3, .ref ao), (4, .ref ad), (5, .int x5)]) G.1 G.2.1 dL_law_1075 hl (by decide) rfl (fun ls hl => ?_)
  refine lv_aload_n G.1 G.2.1 dL_law_1077 rfl (lv_at hl 3 rfl) ?_
  refine lv_aload_n G.1 G.2.1 dL_law_1078 rfl (lv_at hl 1 rfl) ?_
  refine lv_iload G.1 G.2.1 dL_law_1079 (lv_at hl 6 rfl) ?_
  refine lv_iconst (v := (1 : Int32)) G.1 G.2.1 dL_law_1081 (by decide) ?_
  refine lv_iadd G.1 G.2.1 dL_law_1082 ?_
  refine va_sld G.1 G.2.1 hXs hbl hbA hW.2.2 v1 dL_law_1083 ?_
  rw [e1]
  refine kc_i (wr := ((ao, .inl (cl, 1, .inr (.inl (woL o f)))) :: (ad, .inl (cd, 1, .inr (.inr (.inr (.inl g))))) :: wBB cy h h2 σ2 (wst o))) (w := wM cy hm τ) (w' := wM cy hm τn) (n := 1) (As := [.int a1]) (rest := []) (C := RX5) G hK hA hW (mX5_waitTime l D cy hm _ n τ a1 em) (gV q_23_16 q_23_17 q_23_18 q_1_5 q_23_19) ⟨rfl, rfl⟩ (by decide +kernel) ⟨Nat.le_of_ble_eq_true rfl, Nat.le_of_ble_eq_true rfl⟩ (va_recv hK.1 hW.1 (ci := 7) (q0 := 55) rfl rfl) rfl hl.1 rfl (Nat.le_of_ble_eq_true rfl) dL_law_1084 ⟨by show _ ≤ 3160; omega, by show _ ≤ 121633; omega⟩ (fun H locs hW => ?_)
  replace hW : KW D (kA s) s.heap (wLaw cy cl cd ao ad h h2 hm (woL o f) g σ2 (wst o) τn) H locs := hW
  refine lv_istore (lv' := [(7, .int bm), (6, .int (wcd [xIO, xIS] o)), (0, .ref b), (1, .ref (h 104)), (2, .ref (hm 10)), (3, .ref ao), (4, .ref ad), (5, .int x5)]) G.1 G.2.1 dL_law_1087 hl (by decide) rfl (fun ls hl => ?_)
  refine lv_aload_n G.1 G.2.1 dL_law_1089 rfl (lv_at hl 4 rfl) ?_
  refine kc_i (wr := ((ao, .inl (cl, 1, .inr (.inl (woL o f)))) :: (ad, .inl (cd, 1, .inr (.inr (.inr (.inl g))))) :: wBB cy h h2 σ2 (wst o))) (w := wM cy hm τn) (w' := wM cy hm τn) (n := 0) (As := []) (rest := []) (C := RX5) G hK hA hW (mX5_thrown l D cy hm _ n τn  (show fX5_thrown n τn = some (τn 6 0) from rfl)) (gV q_10_9 q_10_10 q_10_11 q_1_5 q_10_12) ⟨rfl, rfl⟩ (by decide +kernel) ⟨Nat.le_of_ble_eq_true rfl, Nat.le_of_ble_eq_true rfl⟩ (va_recv hK.1 hW.1 (ci := 7) (q0 := 55) rfl rfl) rfl hl.1 rfl (Nat.le_of_ble_eq_true rfl) dL_law_1090 ⟨by show _ ≤ 3160; omega, by show _ ≤ 121633; omega⟩ (fun H locs hW => ?_)
  replace hW : KW D (kA s) s.heap (wLaw cy cl cd ao ad h h2 hm (woL o f) g σ2 (wst o) τn) H locs := hW
  refine lv_iload G.1 G.2.1 dL_law_1093 (lv_at hl 1 rfl) ?_
  refine lv_icmp_eq (tgt := 1100) G.1 G.2.1 dL_law_1095 (by decide) (fun c9 => ?_) (fun c9 => absurd hth c9)
  refine lv_iload G.1 G.2.1 dL_law_1100 (lv_at hl 1 rfl) ?_
  refine lv_if_ne (tgt := 1117) G.1 G.2.1 dL_law_1102 (by decide) (fun c9 => ?_) (fun c9 => ?_)
  · skip
    refine lv_goto (tgt := 2082) G.1 G.2.1 dL_law_1117 (by decide) ?_
    refine W.widen (k := 62 + 2 * j) (n := 3012 + 12 * j) (by omega) (by omega) ?_
    exact K _ _ _ _ _ _ _ hP9 hW (lv_sub hl [2, 3, 4, 5, 6, 7] rfl)
  · obtain ⟨v9, u9, rfl⟩ := wcd_2 hE c9
    have hvb9 : v9 = bm := hvb v9 u9 rfl
    subst hvb9
    refine lv_aload_n G.1 G.2.1 dL_law_1105 rfl (lv_at hl 5 rfl) ?_
    refine lv_iconst (v := (0 : Int32)) G.1 G.2.1 dL_law_1106 (by decide) ?_
    refine va_lald G.1 G.2.1 hKL.1 hW.1 0 1 rfl rfl k_in01 dL_law_1107 ?_
    refine lv_iload G.1 G.2.1 dL_law_1108 (lv_at hl 0 rfl) ?_
    refine lv_i2l (v := (v9).toInt64) G.1 G.2.1 dL_law_1110 rfl ?_
    refine W.lcmp G.1 G.2.1 dL_law_1111 ?_
    have cmp9 : lg_cmp (woL (.inr (v9, u9)) f (0 : Int32).toNatClampNeg) v9.toInt64 = 0 := k_cmp0 f v9 u9
    refine lv_if_eq (tgt := 1117) G.1 G.2.1 dL_law_1112 (by decide) (fun c9 => ?_) (fun c9 => absurd cmp9 c9)
    refine lv_goto (tgt := 2082) G.1 G.2.1 dL_law_1117 (by decide) ?_
    refine W.widen (k := 62 + 2 * j) (n := 3012 + 12 * j) (by omega) (by omega) ?_
    exact K _ _ _ _ _ _ _ hP9 hW (lv_sub hl [2, 3, 4, 5, 6, 7] rfl)

set_option maxHeartbeats 4000000 in
set_option maxRecDepth 100000 in
theorem law_c18 (hT : l.stackTraces = false) (G : CallFix p m c cL_law 9 s #[Value.ref b] wA RL) (hXs : va_X b L xs s s.heap) (hbl : b < s.heap.size) (hKL : KL D cy cl cd s) (hX : KX (kA s) s) (n : Nat) (hj : j < 512) (P : St → St → Prop) (ag : AgD [xAE] (fX4_averageWait n σ) (fX5_averageWait n τ) P) (K : ∀ (f' : Nat → Int64) (g' : Nat → UInt64) (σ' τ' : St) (H : Heap) (locs : List Loc) (ls : Array Slot), P σ' τ' → KW D (kA s) s.heap (wLaw cy cl cd ao ad h h2 hm f' g' σ2 σ' τ') H locs → lv_has ls 9 [(0, .ref b), (1, .ref (h 104)), (2, .ref (hm 10)), (3, .ref ao), (4, .ref ad), (5, .int x5)] → W p l e room_1 s m #[Value.ref b] below meth c H locs (62 + 2 * j) (3012 + 12 * j) Q (F0 m 2082 ls [])) (hW : KW D (kA s) s.heap (wLaw cy cl cd ao ad h h2 hm f g σ2 σ τ) H locs) (hl : lv_has ls 9 [(0, .ref b), (1, .ref (h 104)), (2, .ref (hm 10)), (3, .ref ao), (4, .ref ad), (5, .int x5)]) : W p l e room_1 s m #[Value.ref b] below meth c H locs (60 + 2 * j) (3000 + 12 * j) Q (F0 m 1120 ls []) := by
  have hA : ∀ q : Nat, s.heap.size ≤ q → kA s q := fun _ h => h
  have hbA : ¬ kA s b := Nat.not_le.mpr hbl
  have hK := hKL.KK
  obtain ⟨o, bm, τn, ex, em, hE, hth, hvb, hP9⟩ := ag
  refine lv_aload_n G.1 G.2.1 dL_law_1120 rfl (lv_at hl 1 rfl) ?_
  refine lv_aload G.1 G.2.1 dL_law_1121 (lv_at hl 4 rfl) ?_
  refine kl_w (wr := ([(ao, .inl (cl, 1, .inr (.inl f)))] ++ (wC cy h2 σ2 ++ wM cy hm τ))) (w := ((ad, .inl (cd, 1, .inr (.inr (.inr (.inl g))))) :: wB cy h (h2 103) σ)) (w' := ((ad, .inl (cd, 1, .inr (.inr (.inr (.inl (woD o g)))))) :: wB cy h (h2 103) (wst o))) (n := 2) (As := [.ref (h 104), .ref ad]) (rest := []) G hKL hX hA (pmD_in hW) (mL_averageWait l hT D cy cl cd h (h2 103) ad _ n σ g  ex (fun E u h9 => by have h8 := hE E u h9; simpa only [List.mem_cons, List.not_mem_nil, or_false] using h8)) (gSW q_23_20 q_23_21 q_4_12 q_23_22) ⟨rfl, rfl⟩ (by decide +kernel) ⟨Nat.le_of_ble_eq_true rfl, Nat.le_of_ble_eq_true rfl⟩ rfl hl.1 rfl (Nat.le_of_ble_eq_true rfl) dL_law_1123 ⟨by show _ ≤ 3160; omega, by show _ ≤ 121633; omega⟩ (fun H locs hW => ?_)
  replace hW := pmD_out (f := f) (g := (woD o g)) (σ2 := σ2) (σ := (wst o)) (τ := τ) hW
  refine lv_istore (lv' := [(6, .int (wcd [xAE] o)), (0, .ref b), (1, .ref (h 104)), (2, .ref (hm 10)), (3, .ref ao), (4, .ref ad), (5, .int x5)]) G.1 G.2.1 dL_law_1126 hl (by decide) rfl (fun ls hl => ?_)
  refine lv_aload_n G.1 G.2.1 dL_law_1128 rfl (lv_at hl 3 rfl) ?_
  refine kc_d (wr := ((ao, .inl (cl, 1, .inr (.inl f))) :: (ad, .inl (cd, 1, .inr (.inr (.inr (.inl (woD o g)))))) :: wBB cy h h2 σ2 (wst o))) (w := wM cy hm τ) (w' := wM cy hm τn) (n := 0) (As := []) (rest := []) (C := RX5) G hK hA hW (mX5_averageWait l D cy hm _ n τ  em) (gV q_24_6 q_24_7 q_24_8 q_1_5 q_24_9) ⟨rfl, rfl⟩ (by decide +kernel) ⟨Nat.le_of_ble_eq_true rfl, Nat.le_of_ble_eq_true rfl⟩ (va_recv hK.1 hW.1 (ci := 7) (q0 := 55) rfl rfl) rfl hl.1 rfl (Nat.le_of_ble_eq_true rfl) dL_law_1129 ⟨by show _ ≤ 3160; omega, by show _ ≤ 121633; omega⟩ (fun H locs hW => ?_)
  replace hW : KW D (kA s) s.heap (wLaw cy cl cd ao ad h h2 hm f (woD o g) σ2 (wst o) τn) H locs := hW
  refine lv_dstore (lv' := [(7, .double bm), (6, .int (wcd [xAE] o)), (0, .ref b), (1, .ref (h 104)), (2, .ref (hm 10)), (3, .ref ao), (4, .ref ad), (5, .int x5)]) G.1 G.2.1 dL_law_1132 hl (by decide) rfl (fun ls hl => ?_)
  refine lv_aload_n G.1 G.2.1 dL_law_1134 rfl (lv_at hl 4 rfl) ?_
  refine kc_i (wr := ((ao, .inl (cl, 1, .inr (.inl f))) :: (ad, .inl (cd, 1, .inr (.inr (.inr (.inl (woD o g)))))) :: wBB cy h h2 σ2 (wst o))) (w := wM cy hm τn) (w' := wM cy hm τn) (n := 0) (As := []) (rest := []) (C := RX5) G hK hA hW (mX5_thrown l D cy hm _ n τn  (show fX5_thrown n τn = some (τn 6 0) from rfl)) (gV q_10_9 q_10_10 q_10_11 q_1_5 q_10_12) ⟨rfl, rfl⟩ (by decide +kernel) ⟨Nat.le_of_ble_eq_true rfl, Nat.le_of_ble_eq_true rfl⟩ (va_recv hK.1 hW.1 (ci := 7) (q0 := 55) rfl rfl) rfl hl.1 rfl (Nat.le_of_ble_eq_true rfl) dL_law_1135 ⟨by show _ ≤ 3160; omega, by show _ ≤ 121633; omega⟩ (fun H locs hW => ?_)
  replace hW : KW D (kA s) s.heap (wLaw cy cl cd ao ad h h2 hm f (woD o g) σ2 (wst o) τn) H locs := hW
  refine lv_iload G.1 G.2.1 dL_law_1138 (lv_at hl 1 rfl) ?_
  refine lv_icmp_eq (tgt := 1145) G.1 G.2.1 dL_law_1140 (by decide) (fun c9 => ?_) (fun c9 => absurd hth c9)
  refine lv_iload G.1 G.2.1 dL_law_1145 (lv_at hl 1 rfl) ?_
  refine lv_if_ne (tgt := 1182) G.1 G.2.1 dL_law_1147 (by decide) (fun c9 => ?_) (fun c9 => ?_)
  · skip
    refine lv_goto (tgt := 2082) G.1 G.2.1 dL_law_1182 (by decide) ?_
    refine W.widen (k := 62 + 2 * j) (n := 3012 + 12 * j) (by omega) (by omega) ?_
    exact K _ _ _ _ _ _ _ hP9 hW (lv_sub hl [2, 3, 4, 5, 6, 7] rfl)
  · obtain ⟨v9, u9, rfl⟩ := wcd_1 hE c9
    have hvb9 := hvb v9 u9 rfl
    obtain ⟨hvb8, hvb7⟩ := hvb9
    subst hvb8
    refine lv_aload G.1 G.2.1 dL_law_1150 (lv_at hl 6 rfl) ?_
    refine lv_iconst (v := (0 : Int32)) G.1 G.2.1 dL_law_1152 (by decide) ?_
    refine va_dald G.1 G.2.1 hKL.1 hW.1 1 2 rfl rfl k_in01 dL_law_1153 ?_
    refine lv_dload G.1 G.2.1 dL_law_1154 (lv_at hl 0 rfl) ?_
    refine lv_dcmp G.1 G.2.1 dL_law_1156 ?_
    have cmp9 : Op.cmpValue (FP.dcmp (woD (.inr (v9, u9)) g (0 : Int32).toNatClampNeg) v9) CmpOp.l = 0 := hvb7
    refine lv_if_eq (tgt := 1182) G.1 G.2.1 dL_law_1157 (by decide) (fun c9 => ?_) (fun c9 => absurd cmp9 c9)
    refine lv_goto (tgt := 2082) G.1 G.2.1 dL_law_1182 (by decide) ?_
    refine W.widen (k := 62 + 2 * j) (n := 3012 + 12 * j) (by omega) (by omega) ?_
    exact K _ _ _ _ _ _ _ hP9 hW (lv_sub hl [2, 3, 4, 5, 6, 7] rfl)

set_option maxHeartbeats 4000000 in
set_option maxRecDepth 100000 in
theorem law_c19 (hT : l.stackTraces = false) (G : CallFix p m c cL_law 9 s #[Value.ref b] wA RL) (hXs : va_X b L xs s s.heap) (hbl : b < s.heap.size) (hKL : KL D cy cl cd s) (hX : KX (kA s) s) (n : Nat) (hj : j < 512) {a1 : Int32} (v1 : vp_in (x5 + (1 : Int32)) L) (e1 : xs (x5 + (1 : Int32)).toNatClampNeg = a1) (P : St → St → Prop) (ag : AgF [xIO, xIS] (fX4_slowdown n σ a1) (fX5_slowdown n τ a1) P) (K : ∀ (f' : Nat → Int64) (g' : Nat → UInt64) (σ' τ' : St) (H : Heap) (locs : List Loc) (ls : Array Slot), P σ' τ' → KW D (kA s) s.heap (wLaw cy cl cd ao ad h h2 hm f' g' σ2 σ' τ') H locs → lv_has ls 9 [(0, .ref b), (1, .ref (h 104)), (2, .ref (hm 10)), (3, .ref ao), (4, .ref ad), (5, .int x5)] → W p l e room_1 s m #[Value.ref b] below meth c H locs (62 + 2 * j) (3012 + 12 * j) Q (F0 m 2082 ls [])) (hW : KW D (kA s) s.heap (wLaw cy cl cd ao ad h h2 hm f g σ2 σ τ) H locs) (hl : lv_has ls 9 [(0, .ref b), (1, .ref (h 104)), (2, .ref (hm 10)), (3, .ref ao), (4, .ref ad), (5, .int x5)]) : W p l e room_1 s m #[Value.ref b] below meth c H locs (60 + 2 * j) (3000 + 12 * j) Q (F0 m 1185 ls []) := by
  have hA : ∀ q : Nat, s.heap.size ≤ q → kA s q := fun _ h => h
  have hbA : ¬ kA s b := Nat.not_le.mpr hbl
  have hK := hKL.KK
  obtain ⟨o, bm, τn, ex, em, hE, hth, hvb, hP9⟩ := ag
  refine lv_aload_n G.1 G.2.1 dL_law_1185 rfl (lv_at hl 1 rfl) ?_
  refine lv_aload_n G.1 G.2.1 dL_law_1186 rfl (lv_at hl 0 rfl) ?_
  refine lv_iload G.1 G.2.1 dL_law_1187 (lv_at hl 5 rfl) ?_
  refine lv_iconst (v := (1 : Int32)) G.1 G.2.1 dL_law_1189 (by decide) ?_
  refine lv_iadd G.1 G.2.1 dL_law_1190 ?_
  refine va_sld G.1 G.2.1 hXs hbl hbA hW.2.2 v1 dL_law_1191 ?_
  rw [e1]
  refine lv_aload G.1 G.2.1 dL_law_1192 (lv_at hl 4 rfl) ?_
  refine kl_w (wr := ([(ao, .inl (cl, 1, .inr (.inl f)))] ++ (wC cy h2 σ2 ++ wM cy hm τ))) (w := ((ad, .inl (cd, 1, .inr (.inr (.inr (.inl g))))) :: wB cy h (h2 103) σ)) (w' := ((ad, .inl (cd, 1, .inr (.inr (.inr (.inl (woF o g)))))) :: wB cy h (h2 103) (wst o))) (n := 3) (As := [.ref (h 104), .int a1, .ref ad]) (rest := []) G hKL hX hA (pmD_in hW) (mL_slowdown l hT D cy cl cd h (h2 103) ad _ n σ g a1 ex (fun E u h9 => by have h8 := hE E u h9; simpa only [List.mem_cons, List.not_mem_nil, or_false] using h8) (fun v u h9 => (hvb v u h9).2.1)) (gSW q_24_10 q_24_11 q_4_12 q_24_12) ⟨rfl, rfl⟩ (by decide +kernel) ⟨Nat.le_of_ble_eq_true rfl, Nat.le_of_ble_eq_true rfl⟩ rfl hl.1 rfl (Nat.le_of_ble_eq_true rfl) dL_law_1194 ⟨by show _ ≤ 3160; omega, by show _ ≤ 121633; omega⟩ (fun H locs hW => ?_)
  replace hW := pmD_out (f := f) (g := (woF o g)) (σ2 := σ2) (σ := (wst o)) (τ := τ) hW
  refine lv_istore (lv' := [(6, .int (wcd [xIO, xIS] o)), (0, .ref b), (1, .ref (h 104)), (2, .ref (hm 10)), (3, .ref ao), (4, .ref ad), (5, .int x5)]) G.1 G.2.1 dL_law_1197 hl (by decide) rfl (fun ls hl => ?_)
  refine lv_aload_n G.1 G.2.1 dL_law_1199 rfl (lv_at hl 3 rfl) ?_
  refine lv_aload_n G.1 G.2.1 dL_law_1200 rfl (lv_at hl 1 rfl) ?_
  refine lv_iload G.1 G.2.1 dL_law_1201 (lv_at hl 6 rfl) ?_
  refine lv_iconst (v := (1 : Int32)) G.1 G.2.1 dL_law_1203 (by decide) ?_
  refine lv_iadd G.1 G.2.1 dL_law_1204 ?_
  refine va_sld G.1 G.2.1 hXs hbl hbA hW.2.2 v1 dL_law_1205 ?_
  rw [e1]
  refine kc_f (wr := ((ao, .inl (cl, 1, .inr (.inl f))) :: (ad, .inl (cd, 1, .inr (.inr (.inr (.inl (woF o g)))))) :: wBB cy h h2 σ2 (wst o))) (w := wM cy hm τ) (w' := wM cy hm τn) (n := 1) (As := [.int a1]) (rest := []) (C := RX5) G hK hA hW (mX5_slowdown l D cy hm _ n τ a1 em) (gV q_24_19 q_24_20 q_24_21 q_1_5 q_24_22) ⟨rfl, rfl⟩ (by decide +kernel) ⟨Nat.le_of_ble_eq_true rfl, Nat.le_of_ble_eq_true rfl⟩ (va_recv hK.1 hW.1 (ci := 7) (q0 := 55) rfl rfl) rfl hl.1 rfl (Nat.le_of_ble_eq_true rfl) dL_law_1206 ⟨by show _ ≤ 3160; omega, by show _ ≤ 121633; omega⟩ (fun H locs hW => ?_)
  replace hW : KW D (kA s) s.heap (wLaw cy cl cd ao ad h h2 hm f (woF o g) σ2 (wst o) τn) H locs := hW
  refine lv_fstore (lv' := [(7, .float bm), (6, .int (wcd [xIO, xIS] o)), (0, .ref b), (1, .ref (h 104)), (2, .ref (hm 10)), (3, .ref ao), (4, .ref ad), (5, .int x5)]) G.1 G.2.1 dL_law_1209 hl (by decide) rfl (fun ls hl => ?_)
  refine lv_aload_n G.1 G.2.1 dL_law_1211 rfl (lv_at hl 4 rfl) ?_
  refine kc_i (wr := ((ao, .inl (cl, 1, .inr (.inl f))) :: (ad, .inl (cd, 1, .inr (.inr (.inr (.inl (woF o g)))))) :: wBB cy h h2 σ2 (wst o))) (w := wM cy hm τn) (w' := wM cy hm τn) (n := 0) (As := []) (rest := []) (C := RX5) G hK hA hW (mX5_thrown l D cy hm _ n τn  (show fX5_thrown n τn = some (τn 6 0) from rfl)) (gV q_10_9 q_10_10 q_10_11 q_1_5 q_10_12) ⟨rfl, rfl⟩ (by decide +kernel) ⟨Nat.le_of_ble_eq_true rfl, Nat.le_of_ble_eq_true rfl⟩ (va_recv hK.1 hW.1 (ci := 7) (q0 := 55) rfl rfl) rfl hl.1 rfl (Nat.le_of_ble_eq_true rfl) dL_law_1212 ⟨by show _ ≤ 3160; omega, by show _ ≤ 121633; omega⟩ (fun H locs hW => ?_)
  replace hW : KW D (kA s) s.heap (wLaw cy cl cd ao ad h h2 hm f (woF o g) σ2 (wst o) τn) H locs := hW
  refine lv_iload G.1 G.2.1 dL_law_1215 (lv_at hl 1 rfl) ?_
  refine lv_icmp_eq (tgt := 1222) G.1 G.2.1 dL_law_1217 (by decide) (fun c9 => ?_) (fun c9 => absurd hth c9)
  refine lv_iload G.1 G.2.1 dL_law_1222 (lv_at hl 1 rfl) ?_
  refine lv_if_ne (tgt := 1260) G.1 G.2.1 dL_law_1224 (by decide) (fun c9 => ?_) (fun c9 => ?_)
  · skip
    refine lv_goto (tgt := 2082) G.1 G.2.1 dL_law_1260 (by decide) ?_
    refine W.widen (k := 62 + 2 * j) (n := 3012 + 12 * j) (by omega) (by omega) ?_
    exact K _ _ _ _ _ _ _ hP9 hW (lv_sub hl [2, 3, 4, 5, 6, 7] rfl)
  · obtain ⟨v9, u9, rfl⟩ := wcd_2 hE c9
    have hvb9 := hvb v9 u9 rfl
    obtain ⟨hvb8, hvb6, hvb7⟩ := hvb9
    subst hvb8
    refine lv_aload G.1 G.2.1 dL_law_1227 (lv_at hl 6 rfl) ?_
    refine lv_iconst (v := (0 : Int32)) G.1 G.2.1 dL_law_1229 (by decide) ?_
    refine va_dald G.1 G.2.1 hKL.1 hW.1 1 2 rfl rfl k_in01 dL_law_1230 ?_
    refine lv_fload G.1 G.2.1 dL_law_1231 (lv_at hl 0 rfl) ?_
    refine lv_f2d G.1 G.2.1 dL_law_1233 hvb6 ?_
    refine lv_dcmp G.1 G.2.1 dL_law_1234 ?_
    have cmp9 : Op.cmpValue (FP.dcmp (woF (.inr (v9, u9)) g (0 : Int32).toNatClampNeg) (FP.f2d v9)) CmpOp.l = 0 := hvb7
    refine lv_if_eq (tgt := 1260) G.1 G.2.1 dL_law_1235 (by decide) (fun c9 => ?_) (fun c9 => absurd cmp9 c9)
    refine lv_goto (tgt := 2082) G.1 G.2.1 dL_law_1260 (by decide) ?_
    refine W.widen (k := 62 + 2 * j) (n := 3012 + 12 * j) (by omega) (by omega) ?_
    exact K _ _ _ _ _ _ _ hP9 hW (lv_sub hl [2, 3, 4, 5, 6, 7] rfl)

set_option maxHeartbeats 4000000 in
set_option maxRecDepth 100000 in
theorem law_c20 (hT : l.stackTraces = false) (G : CallFix p m c cL_law 9 s #[Value.ref b] wA RL) (hXs : va_X b L xs s s.heap) (hbl : b < s.heap.size) (hKL : KL D cy cl cd s) (hX : KX (kA s) s) (n : Nat) (hj : j < 512) {a1 : Int32} (v1 : vp_in (x5 + (1 : Int32)) L) (e1 : xs (x5 + (1 : Int32)).toNatClampNeg = a1) (P : St → St → Prop) (ag : AgI [xIO] (fX4_usage n σ a1) (fX5_usage n τ a1) P) (K : ∀ (f' : Nat → Int64) (g' : Nat → UInt64) (σ' τ' : St) (H : Heap) (locs : List Loc) (ls : Array Slot), P σ' τ' → KW D (kA s) s.heap (wLaw cy cl cd ao ad h h2 hm f' g' σ2 σ' τ') H locs → lv_has ls 9 [(0, .ref b), (1, .ref (h 104)), (2, .ref (hm 10)), (3, .ref ao), (4, .ref ad), (5, .int x5)] → W p l e room_1 s m #[Value.ref b] below meth c H locs (62 + 2 * j) (3012 + 12 * j) Q (F0 m 2082 ls [])) (hW : KW D (kA s) s.heap (wLaw cy cl cd ao ad h h2 hm f g σ2 σ τ) H locs) (hl : lv_has ls 9 [(0, .ref b), (1, .ref (h 104)), (2, .ref (hm 10)), (3, .ref ao), (4, .ref ad), (5, .int x5)]) : W p l e room_1 s m #[Value.ref b] below meth c H locs (60 + 2 * j) (3000 + 12 * j) Q (F0 m 1263 ls []) := by
  have hA : ∀ q : Nat, s.heap.size ≤ q → kA s q := fun _ h => h
  have hbA : ¬ kA s b := Nat.not_le.mpr hbl
  have hK := hKL.KK
  obtain ⟨o, bm, τn, ex, em, hE, hth, hvb, hP9⟩ := ag
  refine lv_aload_n G.1 G.2.1 dL_law_1263 rfl (lv_at hl 1 rfl) ?_
  refine lv_aload_n G.1 G.2.1 dL_law_1264 rfl (lv_at hl 0 rfl) ?_
  refine lv_iload G.1 G.2.1 dL_law_1265 (lv_at hl 5 rfl) ?_
  refine lv_iconst (v := (1 : Int32)) G.1 G.2.1 dL_law_1267 (by decide) ?_
  refine lv_iadd G.1 G.2.1 dL_law_1268 ?_
  refine va_sld G.1 G.2.1 hXs hbl hbA hW.2.2 v1 dL_law_1269 ?_
  rw [e1]
  refine lv_aload_n G.1 G.2.1 dL_law_1270 rfl (lv_at hl 3 rfl) ?_
  refine kl_w (wr := ([(ad, .inl (cd, 1, .inr (.inr (.inr (.inl g)))))] ++ (wC cy h2 σ2 ++ wM cy hm τ))) (w := ((ao, .inl (cl, 1, .inr (.inl f))) :: wB cy h (h2 103) σ)) (w' := ((ao, .inl (cl, 1, .inr (.inl (woL o f)))) :: wB cy h (h2 103) (wst o))) (n := 3) (As := [.ref (h 104), .int a1, .ref ao]) (rest := []) G hKL hX hA (pmL_in hW) (mL_usage l hT D cy cl cd h (h2 103) ao _ n σ f a1 ex (fun E u h9 => by have h8 := hE E u h9; simpa only [List.mem_cons, List.not_mem_nil, or_false] using h8)) (gSW q_24_23 q_25_0 q_4_12 q_25_1) ⟨rfl, rfl⟩ (by decide +kernel) ⟨Nat.le_of_ble_eq_true rfl, Nat.le_of_ble_eq_true rfl⟩ rfl hl.1 rfl (Nat.le_of_ble_eq_true rfl) dL_law_1271 ⟨by show _ ≤ 3160; omega, by show _ ≤ 121633; omega⟩ (fun H locs hW => ?_)
  replace hW := pmL_out (f := (woL o f)) (g := g) (σ2 := σ2) (σ := (wst o)) (τ := τ) hW
  refine lv_istore (lv' := [(6, .int (wcd [xIO] o)), (0, .ref b), (1, .ref (h 104)), (2, .ref (hm 10)), (3, .ref ao), (4, .ref ad), (5, .int x5)]) G.1 G.2.1 dL_law_1274 hl (by decide) rfl (fun ls hl => ?_)
  refine lv_aload_n G.1 G.2.1 dL_law_1276 rfl (lv_at hl 3 rfl) ?_
  refine lv_aload_n G.1 G.2.1 dL_law_1277 rfl (lv_at hl 1 rfl) ?_
  refine lv_iload G.1 G.2.1 dL_law_1278 (lv_at hl 6 rfl) ?_
  refine lv_iconst (v := (1 : Int32)) G.1 G.2.1 dL_law_1280 (by decide) ?_
  refine lv_iadd G.1 G.2.1 dL_law_1281 ?_
  refine va_sld G.1 G.2.1 hXs hbl hbA hW.2.2 v1 dL_law_1282 ?_
  rw [e1]
  refine kc_i (wr := ((ao, .inl (cl, 1, .inr (.inl (woL o f)))) :: (ad, .inl (cd, 1, .inr (.inr (.inr (.inl g))))) :: wBB cy h h2 σ2 (wst o))) (w := wM cy hm τ) (w' := wM cy hm τn) (n := 1) (As := [.int a1]) (rest := []) (C := RX5) G hK hA hW (mX5_usage l D cy hm _ n τ a1 em) (gV q_25_7 q_25_8 q_25_9 q_1_5 q_25_10) ⟨rfl, rfl⟩ (by decide +kernel) ⟨Nat.le_of_ble_eq_true rfl, Nat.le_of_ble_eq_true rfl⟩ (va_recv hK.1 hW.1 (ci := 7) (q0 := 55) rfl rfl) rfl hl.1 rfl (Nat.le_of_ble_eq_true rfl) dL_law_1283 ⟨by show _ ≤ 3160; omega, by show _ ≤ 121633; omega⟩ (fun H locs hW => ?_)
  replace hW : KW D (kA s) s.heap (wLaw cy cl cd ao ad h h2 hm (woL o f) g σ2 (wst o) τn) H locs := hW
  refine lv_istore (lv' := [(7, .int bm), (6, .int (wcd [xIO] o)), (0, .ref b), (1, .ref (h 104)), (2, .ref (hm 10)), (3, .ref ao), (4, .ref ad), (5, .int x5)]) G.1 G.2.1 dL_law_1286 hl (by decide) rfl (fun ls hl => ?_)
  refine lv_aload_n G.1 G.2.1 dL_law_1288 rfl (lv_at hl 4 rfl) ?_
  refine kc_i (wr := ((ao, .inl (cl, 1, .inr (.inl (woL o f)))) :: (ad, .inl (cd, 1, .inr (.inr (.inr (.inl g))))) :: wBB cy h h2 σ2 (wst o))) (w := wM cy hm τn) (w' := wM cy hm τn) (n := 0) (As := []) (rest := []) (C := RX5) G hK hA hW (mX5_thrown l D cy hm _ n τn  (show fX5_thrown n τn = some (τn 6 0) from rfl)) (gV q_10_9 q_10_10 q_10_11 q_1_5 q_10_12) ⟨rfl, rfl⟩ (by decide +kernel) ⟨Nat.le_of_ble_eq_true rfl, Nat.le_of_ble_eq_true rfl⟩ (va_recv hK.1 hW.1 (ci := 7) (q0 := 55) rfl rfl) rfl hl.1 rfl (Nat.le_of_ble_eq_true rfl) dL_law_1289 ⟨by show _ ≤ 3160; omega, by show _ ≤ 121633; omega⟩ (fun H locs hW => ?_)
  replace hW : KW D (kA s) s.heap (wLaw cy cl cd ao ad h h2 hm (woL o f) g σ2 (wst o) τn) H locs := hW
  refine lv_iload G.1 G.2.1 dL_law_1292 (lv_at hl 1 rfl) ?_
  refine lv_icmp_eq (tgt := 1299) G.1 G.2.1 dL_law_1294 (by decide) (fun c9 => ?_) (fun c9 => absurd hth c9)
  refine lv_iload G.1 G.2.1 dL_law_1299 (lv_at hl 1 rfl) ?_
  refine lv_if_ne (tgt := 1316) G.1 G.2.1 dL_law_1301 (by decide) (fun c9 => ?_) (fun c9 => ?_)
  · skip
    refine lv_goto (tgt := 2082) G.1 G.2.1 dL_law_1316 (by decide) ?_
    refine W.widen (k := 62 + 2 * j) (n := 3012 + 12 * j) (by omega) (by omega) ?_
    exact K _ _ _ _ _ _ _ hP9 hW (lv_sub hl [2, 3, 4, 5, 6, 7] rfl)
  · obtain ⟨v9, u9, rfl⟩ := wcd_1 hE c9
    have hvb9 : v9 = bm := hvb v9 u9 rfl
    subst hvb9
    refine lv_aload_n G.1 G.2.1 dL_law_1304 rfl (lv_at hl 5 rfl) ?_
    refine lv_iconst (v := (0 : Int32)) G.1 G.2.1 dL_law_1305 (by decide) ?_
    refine va_lald G.1 G.2.1 hKL.1 hW.1 0 1 rfl rfl k_in01 dL_law_1306 ?_
    refine lv_iload G.1 G.2.1 dL_law_1307 (lv_at hl 0 rfl) ?_
    refine lv_i2l (v := (v9).toInt64) G.1 G.2.1 dL_law_1309 rfl ?_
    refine W.lcmp G.1 G.2.1 dL_law_1310 ?_
    have cmp9 : lg_cmp (woL (.inr (v9, u9)) f (0 : Int32).toNatClampNeg) v9.toInt64 = 0 := k_cmp0 f v9 u9
    refine lv_if_eq (tgt := 1316) G.1 G.2.1 dL_law_1311 (by decide) (fun c9 => ?_) (fun c9 => absurd cmp9 c9)
    refine lv_goto (tgt := 2082) G.1 G.2.1 dL_law_1316 (by decide) ?_
    refine W.widen (k := 62 + 2 * j) (n := 3012 + 12 * j) (by omega) (by omega) ?_
    exact K _ _ _ _ _ _ _ hP9 hW (lv_sub hl [2, 3, 4, 5, 6, 7] rfl)

set_option maxHeartbeats 4000000 in
set_option maxRecDepth 100000 in
theorem law_c21 (hT : l.stackTraces = false) (G : CallFix p m c cL_law 9 s #[Value.ref b] wA RL) (hXs : va_X b L xs s s.heap) (hbl : b < s.heap.size) (hKL : KL D cy cl cd s) (hX : KX (kA s) s) (n : Nat) (hj : j < 512) (P : St → St → Prop) (ag : AgD [xAE] (fX4_utilization n σ) (fX5_utilization n τ) P) (K : ∀ (f' : Nat → Int64) (g' : Nat → UInt64) (σ' τ' : St) (H : Heap) (locs : List Loc) (ls : Array Slot), P σ' τ' → KW D (kA s) s.heap (wLaw cy cl cd ao ad h h2 hm f' g' σ2 σ' τ') H locs → lv_has ls 9 [(0, .ref b), (1, .ref (h 104)), (2, .ref (hm 10)), (3, .ref ao), (4, .ref ad), (5, .int x5)] → W p l e room_1 s m #[Value.ref b] below meth c H locs (62 + 2 * j) (3012 + 12 * j) Q (F0 m 2082 ls [])) (hW : KW D (kA s) s.heap (wLaw cy cl cd ao ad h h2 hm f g σ2 σ τ) H locs) (hl : lv_has ls 9 [(0, .ref b), (1, .ref (h 104)), (2, .ref (hm 10)), (3, .ref ao), (4, .ref ad), (5, .int x5)]) : W p l e room_1 s m #[Value.ref b] below meth c H locs (60 + 2 * j) (3000 + 12 * j) Q (F0 m 1319 ls []) := by
  have hA : ∀ q : Nat, s.heap.size ≤ q → kA s q := fun _ h => h
  have hbA : ¬ kA s b := Nat.not_le.mpr hbl
  have hK := hKL.KK
  obtain ⟨o, bm, τn, ex, em, hE, hth, hvb, hP9⟩ := ag
  refine lv_aload_n G.1 G.2.1 dL_law_1319 rfl (lv_at hl 1 rfl) ?_
  refine lv_aload G.1 G.2.1 dL_law_1320 (lv_at hl 4 rfl) ?_
  refine kl_w (wr := ([(ao, .inl (cl, 1, .inr (.inl f)))] ++ (wC cy h2 σ2 ++ wM cy hm τ))) (w := ((ad, .inl (cd, 1, .inr (.inr (.inr (.inl g))))) :: wB cy h (h2 103) σ)) (w' := ((ad, .inl (cd, 1, .inr (.inr (.inr (.inl (woD o g)))))) :: wB cy h (h2 103) (wst o))) (n := 2) (As := [.ref (h 104), .ref ad]) (rest := []) G hKL hX hA (pmD_in hW) (mL_utilization l hT D cy cl cd h (h2 103) ad _ n σ g  ex (fun E u h9 => by have h8 := hE E u h9; simpa only [List.mem_cons, List.not_mem_nil, or_false] using h8)) (gSW q_25_11 q_25_12 q_4_12 q_25_13) ⟨rfl, rfl⟩ (by decide +kernel) ⟨Nat.le_of_ble_eq_true rfl, Nat.le_of_ble_eq_true rfl⟩ rfl hl.1 rfl (Nat.le_of_ble_eq_true rfl) dL_law_1322 ⟨by show _ ≤ 3160; omega, by show _ ≤ 121633; omega⟩ (fun H locs hW => ?_)
  replace hW := pmD_out (f := f) (g := (woD o g)) (σ2 := σ2) (σ := (wst o)) (τ := τ) hW
  refine lv_istore (lv' := [(6, .int (wcd [xAE] o)), (0, .ref b), (1, .ref (h 104)), (2, .ref (hm 10)), (3, .ref ao), (4, .ref ad), (5, .int x5)]) G.1 G.2.1 dL_law_1325 hl (by decide) rfl (fun ls hl => ?_)
  refine lv_aload_n G.1 G.2.1 dL_law_1327 rfl (lv_at hl 3 rfl) ?_
  refine kc_d (wr := ((ao, .inl (cl, 1, .inr (.inl f))) :: (ad, .inl (cd, 1, .inr (.inr (.inr (.inl (woD o g)))))) :: wBB cy h h2 σ2 (wst o))) (w := wM cy hm τ) (w' := wM cy hm τn) (n := 0) (As := []) (rest := []) (C := RX5) G hK hA hW (mX5_utilization l D cy hm _ n τ  em) (gV q_25_18 q_25_19 q_25_20 q_1_5 q_25_21) ⟨rfl, rfl⟩ (by decide +kernel) ⟨Nat.le_of_ble_eq_true rfl, Nat.le_of_ble_eq_true rfl⟩ (va_recv hK.1 hW.1 (ci := 7) (q0 := 55) rfl rfl) rfl hl.1 rfl (Nat.le_of_ble_eq_true rfl) dL_law_1328 ⟨by show _ ≤ 3160; omega, by show _ ≤ 121633; omega⟩ (fun H locs hW => ?_)
  replace hW : KW D (kA s) s.heap (wLaw cy cl cd ao ad h h2 hm f (woD o g) σ2 (wst o) τn) H locs := hW
  refine lv_dstore (lv' := [(7, .double bm), (6, .int (wcd [xAE] o)), (0, .ref b), (1, .ref (h 104)), (2, .ref (hm 10)), (3, .ref ao), (4, .ref ad), (5, .int x5)]) G.1 G.2.1 dL_law_1331 hl (by decide) rfl (fun ls hl => ?_)
  refine lv_aload_n G.1 G.2.1 dL_law_1333 rfl (lv_at hl 4 rfl) ?_
  refine kc_i (wr := ((ao, .inl (cl, 1, .inr (.inl f))) :: (ad, .inl (cd, 1, .inr (.inr (.inr (.inl (woD o g)))))) :: wBB cy h h2 σ2 (wst o))) (w := wM cy hm τn) (w' := wM cy hm τn) (n := 0) (As := []) (rest := []) (C := RX5) G hK hA hW (mX5_thrown l D cy hm _ n τn  (show fX5_thrown n τn = some (τn 6 0) from rfl)) (gV q_10_9 q_10_10 q_10_11 q_1_5 q_10_12) ⟨rfl, rfl⟩ (by decide +kernel) ⟨Nat.le_of_ble_eq_true rfl, Nat.le_of_ble_eq_true rfl⟩ (va_recv hK.1 hW.1 (ci := 7) (q0 := 55) rfl rfl) rfl hl.1 rfl (Nat.le_of_ble_eq_true rfl) dL_law_1334 ⟨by show _ ≤ 3160; omega, by show _ ≤ 121633; omega⟩ (fun H locs hW => ?_)
  replace hW : KW D (kA s) s.heap (wLaw cy cl cd ao ad h h2 hm f (woD o g) σ2 (wst o) τn) H locs := hW
  refine lv_iload G.1 G.2.1 dL_law_1337 (lv_at hl 1 rfl) ?_
  refine lv_icmp_eq (tgt := 1344) G.1 G.2.1 dL_law_1339 (by decide) (fun c9 => ?_) (fun c9 => absurd hth c9)
  refine lv_iload G.1 G.2.1 dL_law_1344 (lv_at hl 1 rfl) ?_
  refine lv_if_ne (tgt := 1381) G.1 G.2.1 dL_law_1346 (by decide) (fun c9 => ?_) (fun c9 => ?_)
  · skip
    refine lv_goto (tgt := 2082) G.1 G.2.1 dL_law_1381 (by decide) ?_
    refine W.widen (k := 62 + 2 * j) (n := 3012 + 12 * j) (by omega) (by omega) ?_
    exact K _ _ _ _ _ _ _ hP9 hW (lv_sub hl [2, 3, 4, 5, 6, 7] rfl)
  · obtain ⟨v9, u9, rfl⟩ := wcd_1 hE c9
    have hvb9 := hvb v9 u9 rfl
    obtain ⟨hvb8, hvb7⟩ := hvb9
    subst hvb8
    refine lv_aload G.1 G.2.1 dL_law_1349 (lv_at hl 6 rfl) ?_
    refine lv_iconst (v := (0 : Int32)) G.1 G.2.1 dL_law_1351 (by decide) ?_
    refine va_dald G.1 G.2.1 hKL.1 hW.1 1 2 rfl rfl k_in01 dL_law_1352 ?_
    refine lv_dload G.1 G.2.1 dL_law_1353 (lv_at hl 0 rfl) ?_
    refine lv_dcmp G.1 G.2.1 dL_law_1355 ?_
    have cmp9 : Op.cmpValue (FP.dcmp (woD (.inr (v9, u9)) g (0 : Int32).toNatClampNeg) v9) CmpOp.l = 0 := hvb7
    refine lv_if_eq (tgt := 1381) G.1 G.2.1 dL_law_1356 (by decide) (fun c9 => ?_) (fun c9 => absurd cmp9 c9)
    refine lv_goto (tgt := 2082) G.1 G.2.1 dL_law_1381 (by decide) ?_
    refine W.widen (k := 62 + 2 * j) (n := 3012 + 12 * j) (by omega) (by omega) ?_
    exact K _ _ _ _ _ _ _ hP9 hW (lv_sub hl [2, 3, 4, 5, 6, 7] rfl)

set_option maxHeartbeats 4000000 in
set_option maxRecDepth 100000 in
theorem law_c22 (hT : l.stackTraces = false) (G : CallFix p m c cL_law 9 s #[Value.ref b] wA RL) (hXs : va_X b L xs s s.heap) (hbl : b < s.heap.size) (hKL : KL D cy cl cd s) (hX : KX (kA s) s) (n : Nat) (hj : j < 512) (P : St → St → Prop) (ag : ∃ v τ', fX4_makespan n σ = some v ∧ fX5_makespan n τ = some (v, τ') ∧ P σ τ') (K : ∀ (f' : Nat → Int64) (g' : Nat → UInt64) (σ' τ' : St) (H : Heap) (locs : List Loc) (ls : Array Slot), P σ' τ' → KW D (kA s) s.heap (wLaw cy cl cd ao ad h h2 hm f' g' σ2 σ' τ') H locs → lv_has ls 9 [(0, .ref b), (1, .ref (h 104)), (2, .ref (hm 10)), (3, .ref ao), (4, .ref ad), (5, .int x5)] → W p l e room_1 s m #[Value.ref b] below meth c H locs (62 + 2 * j) (3012 + 12 * j) Q (F0 m 2082 ls [])) (hW : KW D (kA s) s.heap (wLaw cy cl cd ao ad h h2 hm f g σ2 σ τ) H locs) (hl : lv_has ls 9 [(0, .ref b), (1, .ref (h 104)), (2, .ref (hm 10)), (3, .ref ao), (4, .ref ad), (5, .int x5)]) : W p l e room_1 s m #[Value.ref b] below meth c H locs (60 + 2 * j) (3000 + 12 * j) Q (F0 m 1384 ls []) := by
  have hA : ∀ q : Nat, s.heap.size ≤ q → kA s q := fun _ h => h
  have hbA : ¬ kA s b := Nat.not_le.mpr hbl
  have hK := hKL.KK
  obtain ⟨vx, τn, ex, em, hP9⟩ := ag
  refine lv_aload_n G.1 G.2.1 dL_law_1384 rfl (lv_at hl 1 rfl) ?_
  refine kc_i (wr := ([(ao, .inl (cl, 1, .inr (.inl f))), (ad, .inl (cd, 1, .inr (.inr (.inr (.inl g)))))] ++ (wC cy h2 σ2 ++ wM cy hm τ))) (w := (wB cy h (h2 103) σ)) (w' := (wB cy h (h2 103) σ)) (n := 0) (As := []) (rest := []) (C := RX4) G hK hA (pmN_in hW) (mX4_makespan l D cy h (h2 103) _ n σ  ex) (gV q_25_22 q_25_23 q_26_0 q_1_2 q_26_1) ⟨rfl, rfl⟩ (by decide +kernel) ⟨Nat.le_of_ble_eq_true rfl, Nat.le_of_ble_eq_true rfl⟩ (va_recv hK.1 hW.1 (ci := 6) (q0 := 2) rfl rfl) rfl hl.1 rfl (Nat.le_of_ble_eq_true rfl) dL_law_1385 ⟨by show _ ≤ 3160; omega, by show _ ≤ 121633; omega⟩ (fun H locs hW => ?_)
  replace hW := pmN_out (f := f) (g := g) (σ2 := σ2) (σ := σ) (τ := τ) hW
  refine lv_aload_n G.1 G.2.1 dL_law_1388 rfl (lv_at hl 2 rfl) ?_
  refine kc_i (wr := ((ao, .inl (cl, 1, .inr (.inl f))) :: (ad, .inl (cd, 1, .inr (.inr (.inr (.inl g))))) :: wBB cy h h2 σ2 σ)) (w := wM cy hm τ) (w' := wM cy hm τn) (n := 0) (As := []) (rest := [.int vx]) (C := RX5) G hK hA hW (mX5_makespan l D cy hm _ n τ  em) (gV q_26_11 q_26_12 q_26_13 q_1_5 q_26_14) ⟨rfl, rfl⟩ (by decide +kernel) ⟨Nat.le_of_ble_eq_true rfl, Nat.le_of_ble_eq_true rfl⟩ (va_recv hK.1 hW.1 (ci := 7) (q0 := 55) rfl rfl) rfl hl.1 rfl (Nat.le_of_ble_eq_true rfl) dL_law_1389 ⟨by show _ ≤ 3160; omega, by show _ ≤ 121633; omega⟩ (fun H locs hW => ?_)
  replace hW : KW D (kA s) s.heap (wLaw cy cl cd ao ad h h2 hm f g σ2 σ τn) H locs := hW
  refine lv_icmp_eq (tgt := 2082) G.1 G.2.1 dL_law_1392 (by decide) (fun c9 => ?_) (fun c9 => absurd rfl c9)
  refine W.widen (k := 62 + 2 * j) (n := 3012 + 12 * j) (by omega) (by omega) ?_
  exact K _ _ _ _ _ _ _ hP9 hW (lv_sub hl [0, 1, 2, 3, 4, 5] rfl)

set_option maxHeartbeats 4000000 in
set_option maxRecDepth 100000 in
theorem law_c23 (hT : l.stackTraces = false) (G : CallFix p m c cL_law 9 s #[Value.ref b] wA RL) (hXs : va_X b L xs s s.heap) (hbl : b < s.heap.size) (hKL : KL D cy cl cd s) (hX : KX (kA s) s) (n : Nat) (hj : j < 512) {a1 a2 : Int32} (v1 : vp_in (x5 + (1 : Int32)) L) (e1 : xs (x5 + (1 : Int32)).toNatClampNeg = a1) (v2 : vp_in (x5 + (2 : Int32)) L) (e2 : xs (x5 + (2 : Int32)).toNatClampNeg = a2) (P : St → St → Prop) (ag : AgI [xIO] (fX4_ownerAt n σ a1 a2) (fX5_ownerAt n τ a1 a2) P) (K : ∀ (f' : Nat → Int64) (g' : Nat → UInt64) (σ' τ' : St) (H : Heap) (locs : List Loc) (ls : Array Slot), P σ' τ' → KW D (kA s) s.heap (wLaw cy cl cd ao ad h h2 hm f' g' σ2 σ' τ') H locs → lv_has ls 9 [(0, .ref b), (1, .ref (h 104)), (2, .ref (hm 10)), (3, .ref ao), (4, .ref ad), (5, .int x5)] → W p l e room_1 s m #[Value.ref b] below meth c H locs (62 + 2 * j) (3012 + 12 * j) Q (F0 m 2082 ls [])) (hW : KW D (kA s) s.heap (wLaw cy cl cd ao ad h h2 hm f g σ2 σ τ) H locs) (hl : lv_has ls 9 [(0, .ref b), (1, .ref (h 104)), (2, .ref (hm 10)), (3, .ref ao), (4, .ref ad), (5, .int x5)]) : W p l e room_1 s m #[Value.ref b] below meth c H locs (60 + 2 * j) (3000 + 12 * j) Q (F0 m 1397 ls []) := by
  have hA : ∀ q : Nat, s.heap.size ≤ q → kA s q := fun _ h => h
  have hbA : ¬ kA s b := Nat.not_le.mpr hbl
  have hK := hKL.KK
  obtain ⟨o, bm, τn, ex, em, hE, hth, hvb, hP9⟩ := ag
  refine lv_aload_n G.1 G.2.1 dL_law_1397 rfl (lv_at hl 1 rfl) ?_
  refine lv_aload_n G.1 G.2.1 dL_law_1398 rfl (lv_at hl 0 rfl) ?_
  refine lv_iload G.1 G.2.1 dL_law_1399 (lv_at hl 5 rfl) ?_
  refine lv_iconst (v := (1 : Int32)) G.1 G.2.1 dL_law_1401 (by decide) ?_
  refine lv_iadd G.1 G.2.1 dL_law_1402 ?_
  refine va_sld G.1 G.2.1 hXs hbl hbA hW.2.2 v1 dL_law_1403 ?_
  rw [e1]
  refine lv_aload_n G.1 G.2.1 dL_law_1404 rfl (lv_at hl 0 rfl) ?_
  refine lv_iload G.1 G.2.1 dL_law_1405 (lv_at hl 5 rfl) ?_
  refine lv_iconst (v := (2 : Int32)) G.1 G.2.1 dL_law_1407 (by decide) ?_
  refine lv_iadd G.1 G.2.1 dL_law_1408 ?_
  refine va_sld G.1 G.2.1 hXs hbl hbA hW.2.2 v2 dL_law_1409 ?_
  rw [e2]
  refine lv_aload_n G.1 G.2.1 dL_law_1410 rfl (lv_at hl 3 rfl) ?_
  refine kl_w (wr := ([(ad, .inl (cd, 1, .inr (.inr (.inr (.inl g)))))] ++ (wC cy h2 σ2 ++ wM cy hm τ))) (w := ((ao, .inl (cl, 1, .inr (.inl f))) :: wB cy h (h2 103) σ)) (w' := ((ao, .inl (cl, 1, .inr (.inl (woL o f)))) :: wB cy h (h2 103) (wst o))) (n := 4) (As := [.ref (h 104), .int a1, .int a2, .ref ao]) (rest := []) G hKL hX hA (pmL_in hW) (mL_ownerAt l hT D cy cl cd h (h2 103) ao _ n σ f a1 a2 ex (fun E u h9 => by have h8 := hE E u h9; simpa only [List.mem_cons, List.not_mem_nil, or_false] using h8)) (gSW q_26_16 q_26_17 q_4_12 q_26_18) ⟨rfl, rfl⟩ (by decide +kernel) ⟨Nat.le_of_ble_eq_true rfl, Nat.le_of_ble_eq_true rfl⟩ rfl hl.1 rfl (Nat.le_of_ble_eq_true rfl) dL_law_1411 ⟨by show _ ≤ 3160; omega, by show _ ≤ 121633; omega⟩ (fun H locs hW => ?_)
  replace hW := pmL_out (f := (woL o f)) (g := g) (σ2 := σ2) (σ := (wst o)) (τ := τ) hW
  refine lv_istore (lv' := [(6, .int (wcd [xIO] o)), (0, .ref b), (1, .ref (h 104)), (2, .ref (hm 10)), (3, .ref ao), (4, .ref ad), (5, .int x5)]) G.1 G.2.1 dL_law_1414 hl (by decide) rfl (fun ls hl => ?_)
  refine lv_aload_n G.1 G.2.1 dL_law_1416 rfl (lv_at hl 3 rfl) ?_
  refine lv_aload_n G.1 G.2.1 dL_law_1417 rfl (lv_at hl 1 rfl) ?_
  refine lv_iload G.1 G.2.1 dL_law_1418 (lv_at hl 6 rfl) ?_
  refine lv_iconst (v := (1 : Int32)) G.1 G.2.1 dL_law_1420 (by decide) ?_
  refine lv_iadd G.1 G.2.1 dL_law_1421 ?_
  refine va_sld G.1 G.2.1 hXs hbl hbA hW.2.2 v1 dL_law_1422 ?_
  rw [e1]
  refine lv_aload_n G.1 G.2.1 dL_law_1423 rfl (lv_at hl 1 rfl) ?_
  refine lv_iload G.1 G.2.1 dL_law_1424 (lv_at hl 6 rfl) ?_
  refine lv_iconst (v := (2 : Int32)) G.1 G.2.1 dL_law_1426 (by decide) ?_
  refine lv_iadd G.1 G.2.1 dL_law_1427 ?_
  refine va_sld G.1 G.2.1 hXs hbl hbA hW.2.2 v2 dL_law_1428 ?_
  rw [e2]
  refine kc_i (wr := ((ao, .inl (cl, 1, .inr (.inl (woL o f)))) :: (ad, .inl (cd, 1, .inr (.inr (.inr (.inl g))))) :: wBB cy h h2 σ2 (wst o))) (w := wM cy hm τ) (w' := wM cy hm τn) (n := 2) (As := [.int a1, .int a2]) (rest := []) (C := RX5) G hK hA hW (mX5_ownerAt l D cy hm _ n τ a1 a2 em) (gV q_27_3 q_27_4 q_27_5 q_1_5 q_27_6) ⟨rfl, rfl⟩ (by decide +kernel) ⟨Nat.le_of_ble_eq_true rfl, Nat.le_of_ble_eq_true rfl⟩ (va_recv hK.1 hW.1 (ci := 7) (q0 := 55) rfl rfl) rfl hl.1 rfl (Nat.le_of_ble_eq_true rfl) dL_law_1429 ⟨by show _ ≤ 3160; omega, by show _ ≤ 121633; omega⟩ (fun H locs hW => ?_)
  replace hW : KW D (kA s) s.heap (wLaw cy cl cd ao ad h h2 hm (woL o f) g σ2 (wst o) τn) H locs := hW
  refine lv_istore (lv' := [(7, .int bm), (6, .int (wcd [xIO] o)), (0, .ref b), (1, .ref (h 104)), (2, .ref (hm 10)), (3, .ref ao), (4, .ref ad), (5, .int x5)]) G.1 G.2.1 dL_law_1432 hl (by decide) rfl (fun ls hl => ?_)
  refine lv_aload_n G.1 G.2.1 dL_law_1434 rfl (lv_at hl 4 rfl) ?_
  refine kc_i (wr := ((ao, .inl (cl, 1, .inr (.inl (woL o f)))) :: (ad, .inl (cd, 1, .inr (.inr (.inr (.inl g))))) :: wBB cy h h2 σ2 (wst o))) (w := wM cy hm τn) (w' := wM cy hm τn) (n := 0) (As := []) (rest := []) (C := RX5) G hK hA hW (mX5_thrown l D cy hm _ n τn  (show fX5_thrown n τn = some (τn 6 0) from rfl)) (gV q_10_9 q_10_10 q_10_11 q_1_5 q_10_12) ⟨rfl, rfl⟩ (by decide +kernel) ⟨Nat.le_of_ble_eq_true rfl, Nat.le_of_ble_eq_true rfl⟩ (va_recv hK.1 hW.1 (ci := 7) (q0 := 55) rfl rfl) rfl hl.1 rfl (Nat.le_of_ble_eq_true rfl) dL_law_1435 ⟨by show _ ≤ 3160; omega, by show _ ≤ 121633; omega⟩ (fun H locs hW => ?_)
  replace hW : KW D (kA s) s.heap (wLaw cy cl cd ao ad h h2 hm (woL o f) g σ2 (wst o) τn) H locs := hW
  refine lv_iload G.1 G.2.1 dL_law_1438 (lv_at hl 1 rfl) ?_
  refine lv_icmp_eq (tgt := 1445) G.1 G.2.1 dL_law_1440 (by decide) (fun c9 => ?_) (fun c9 => absurd hth c9)
  refine lv_iload G.1 G.2.1 dL_law_1445 (lv_at hl 1 rfl) ?_
  refine lv_if_ne (tgt := 1462) G.1 G.2.1 dL_law_1447 (by decide) (fun c9 => ?_) (fun c9 => ?_)
  · skip
    refine lv_goto (tgt := 2082) G.1 G.2.1 dL_law_1462 (by decide) ?_
    refine W.widen (k := 62 + 2 * j) (n := 3012 + 12 * j) (by omega) (by omega) ?_
    exact K _ _ _ _ _ _ _ hP9 hW (lv_sub hl [2, 3, 4, 5, 6, 7] rfl)
  · obtain ⟨v9, u9, rfl⟩ := wcd_1 hE c9
    have hvb9 : v9 = bm := hvb v9 u9 rfl
    subst hvb9
    refine lv_aload_n G.1 G.2.1 dL_law_1450 rfl (lv_at hl 5 rfl) ?_
    refine lv_iconst (v := (0 : Int32)) G.1 G.2.1 dL_law_1451 (by decide) ?_
    refine va_lald G.1 G.2.1 hKL.1 hW.1 0 1 rfl rfl k_in01 dL_law_1452 ?_
    refine lv_iload G.1 G.2.1 dL_law_1453 (lv_at hl 0 rfl) ?_
    refine lv_i2l (v := (v9).toInt64) G.1 G.2.1 dL_law_1455 rfl ?_
    refine W.lcmp G.1 G.2.1 dL_law_1456 ?_
    have cmp9 : lg_cmp (woL (.inr (v9, u9)) f (0 : Int32).toNatClampNeg) v9.toInt64 = 0 := k_cmp0 f v9 u9
    refine lv_if_eq (tgt := 1462) G.1 G.2.1 dL_law_1457 (by decide) (fun c9 => ?_) (fun c9 => absurd cmp9 c9)
    refine lv_goto (tgt := 2082) G.1 G.2.1 dL_law_1462 (by decide) ?_
    refine W.widen (k := 62 + 2 * j) (n := 3012 + 12 * j) (by omega) (by omega) ?_
    exact K _ _ _ _ _ _ _ hP9 hW (lv_sub hl [2, 3, 4, 5, 6, 7] rfl)

set_option maxHeartbeats 4000000 in
set_option maxRecDepth 100000 in
theorem law_c24 (hT : l.stackTraces = false) (G : CallFix p m c cL_law 9 s #[Value.ref b] wA RL) (hXs : va_X b L xs s s.heap) (hbl : b < s.heap.size) (hKL : KL D cy cl cd s) (hX : KX (kA s) s) (n : Nat) (hj : j < 512) {a1 : Int32} (v1 : vp_in (x5 + (1 : Int32)) L) (e1 : xs (x5 + (1 : Int32)).toNatClampNeg = a1) (P : St → St → Prop) (ag : AgI [xIO] (fX4_freeProcessors n σ a1) (fX5_freeProcessors n τ a1) P) (K : ∀ (f' : Nat → Int64) (g' : Nat → UInt64) (σ' τ' : St) (H : Heap) (locs : List Loc) (ls : Array Slot), P σ' τ' → KW D (kA s) s.heap (wLaw cy cl cd ao ad h h2 hm f' g' σ2 σ' τ') H locs → lv_has ls 9 [(0, .ref b), (1, .ref (h 104)), (2, .ref (hm 10)), (3, .ref ao), (4, .ref ad), (5, .int x5)] → W p l e room_1 s m #[Value.ref b] below meth c H locs (62 + 2 * j) (3012 + 12 * j) Q (F0 m 2082 ls [])) (hW : KW D (kA s) s.heap (wLaw cy cl cd ao ad h h2 hm f g σ2 σ τ) H locs) (hl : lv_has ls 9 [(0, .ref b), (1, .ref (h 104)), (2, .ref (hm 10)), (3, .ref ao), (4, .ref ad), (5, .int x5)]) : W p l e room_1 s m #[Value.ref b] below meth c H locs (60 + 2 * j) (3000 + 12 * j) Q (F0 m 1465 ls []) := by
  have hA : ∀ q : Nat, s.heap.size ≤ q → kA s q := fun _ h => h
  have hbA : ¬ kA s b := Nat.not_le.mpr hbl
  have hK := hKL.KK
  obtain ⟨o, bm, τn, ex, em, hE, hth, hvb, hP9⟩ := ag
  refine lv_aload_n G.1 G.2.1 dL_law_1465 rfl (lv_at hl 1 rfl) ?_
  refine lv_aload_n G.1 G.2.1 dL_law_1466 rfl (lv_at hl 0 rfl) ?_
  refine lv_iload G.1 G.2.1 dL_law_1467 (lv_at hl 5 rfl) ?_
  refine lv_iconst (v := (1 : Int32)) G.1 G.2.1 dL_law_1469 (by decide) ?_
  refine lv_iadd G.1 G.2.1 dL_law_1470 ?_
  refine va_sld G.1 G.2.1 hXs hbl hbA hW.2.2 v1 dL_law_1471 ?_
  rw [e1]
  refine lv_aload_n G.1 G.2.1 dL_law_1472 rfl (lv_at hl 3 rfl) ?_
  refine kl_w (wr := ([(ad, .inl (cd, 1, .inr (.inr (.inr (.inl g)))))] ++ (wC cy h2 σ2 ++ wM cy hm τ))) (w := ((ao, .inl (cl, 1, .inr (.inl f))) :: wB cy h (h2 103) σ)) (w' := ((ao, .inl (cl, 1, .inr (.inl (woL o f)))) :: wB cy h (h2 103) (wst o))) (n := 3) (As := [.ref (h 104), .int a1, .ref ao]) (rest := []) G hKL hX hA (pmL_in hW) (mL_freeProcessors l hT D cy cl cd h (h2 103) ao _ n σ f a1 ex (fun E u h9 => by have h8 := hE E u h9; simpa only [List.mem_cons, List.not_mem_nil, or_false] using h8)) (gSW q_27_11 q_27_12 q_4_12 q_27_13) ⟨rfl, rfl⟩ (by decide +kernel) ⟨Nat.le_of_ble_eq_true rfl, Nat.le_of_ble_eq_true rfl⟩ rfl hl.1 rfl (Nat.le_of_ble_eq_true rfl) dL_law_1473 ⟨by show _ ≤ 3160; omega, by show _ ≤ 121633; omega⟩ (fun H locs hW => ?_)
  replace hW := pmL_out (f := (woL o f)) (g := g) (σ2 := σ2) (σ := (wst o)) (τ := τ) hW
  refine lv_istore (lv' := [(6, .int (wcd [xIO] o)), (0, .ref b), (1, .ref (h 104)), (2, .ref (hm 10)), (3, .ref ao), (4, .ref ad), (5, .int x5)]) G.1 G.2.1 dL_law_1476 hl (by decide) rfl (fun ls hl => ?_)
  refine lv_aload_n G.1 G.2.1 dL_law_1478 rfl (lv_at hl 3 rfl) ?_
  refine lv_aload_n G.1 G.2.1 dL_law_1479 rfl (lv_at hl 1 rfl) ?_
  refine lv_iload G.1 G.2.1 dL_law_1480 (lv_at hl 6 rfl) ?_
  refine lv_iconst (v := (1 : Int32)) G.1 G.2.1 dL_law_1482 (by decide) ?_
  refine lv_iadd G.1 G.2.1 dL_law_1483 ?_
  refine va_sld G.1 G.2.1 hXs hbl hbA hW.2.2 v1 dL_law_1484 ?_
  rw [e1]
  refine kc_i (wr := ((ao, .inl (cl, 1, .inr (.inl (woL o f)))) :: (ad, .inl (cd, 1, .inr (.inr (.inr (.inl g))))) :: wBB cy h h2 σ2 (wst o))) (w := wM cy hm τ) (w' := wM cy hm τn) (n := 1) (As := [.int a1]) (rest := []) (C := RX5) G hK hA hW (mX5_freeProcessors l D cy hm _ n τ a1 em) (gV q_28_2 q_28_3 q_28_4 q_1_5 q_28_5) ⟨rfl, rfl⟩ (by decide +kernel) ⟨Nat.le_of_ble_eq_true rfl, Nat.le_of_ble_eq_true rfl⟩ (va_recv hK.1 hW.1 (ci := 7) (q0 := 55) rfl rfl) rfl hl.1 rfl (Nat.le_of_ble_eq_true rfl) dL_law_1485 ⟨by show _ ≤ 3160; omega, by show _ ≤ 121633; omega⟩ (fun H locs hW => ?_)
  replace hW : KW D (kA s) s.heap (wLaw cy cl cd ao ad h h2 hm (woL o f) g σ2 (wst o) τn) H locs := hW
  refine lv_istore (lv' := [(7, .int bm), (6, .int (wcd [xIO] o)), (0, .ref b), (1, .ref (h 104)), (2, .ref (hm 10)), (3, .ref ao), (4, .ref ad), (5, .int x5)]) G.1 G.2.1 dL_law_1488 hl (by decide) rfl (fun ls hl => ?_)
  refine lv_aload_n G.1 G.2.1 dL_law_1490 rfl (lv_at hl 4 rfl) ?_
  refine kc_i (wr := ((ao, .inl (cl, 1, .inr (.inl (woL o f)))) :: (ad, .inl (cd, 1, .inr (.inr (.inr (.inl g))))) :: wBB cy h h2 σ2 (wst o))) (w := wM cy hm τn) (w' := wM cy hm τn) (n := 0) (As := []) (rest := []) (C := RX5) G hK hA hW (mX5_thrown l D cy hm _ n τn  (show fX5_thrown n τn = some (τn 6 0) from rfl)) (gV q_10_9 q_10_10 q_10_11 q_1_5 q_10_12) ⟨rfl, rfl⟩ (by decide +kernel) ⟨Nat.le_of_ble_eq_true rfl, Nat.le_of_ble_eq_true rfl⟩ (va_recv hK.1 hW.1 (ci := 7) (q0 := 55) rfl rfl) rfl hl.1 rfl (Nat.le_of_ble_eq_true rfl) dL_law_1491 ⟨by show _ ≤ 3160; omega, by show _ ≤ 121633; omega⟩ (fun H locs hW => ?_)
  replace hW : KW D (kA s) s.heap (wLaw cy cl cd ao ad h h2 hm (woL o f) g σ2 (wst o) τn) H locs := hW
  refine lv_iload G.1 G.2.1 dL_law_1494 (lv_at hl 1 rfl) ?_
  refine lv_icmp_eq (tgt := 1501) G.1 G.2.1 dL_law_1496 (by decide) (fun c9 => ?_) (fun c9 => absurd hth c9)
  refine lv_iload G.1 G.2.1 dL_law_1501 (lv_at hl 1 rfl) ?_
  refine lv_if_ne (tgt := 1518) G.1 G.2.1 dL_law_1503 (by decide) (fun c9 => ?_) (fun c9 => ?_)
  · skip
    refine lv_goto (tgt := 2082) G.1 G.2.1 dL_law_1518 (by decide) ?_
    refine W.widen (k := 62 + 2 * j) (n := 3012 + 12 * j) (by omega) (by omega) ?_
    exact K _ _ _ _ _ _ _ hP9 hW (lv_sub hl [2, 3, 4, 5, 6, 7] rfl)
  · obtain ⟨v9, u9, rfl⟩ := wcd_1 hE c9
    have hvb9 : v9 = bm := hvb v9 u9 rfl
    subst hvb9
    refine lv_aload_n G.1 G.2.1 dL_law_1506 rfl (lv_at hl 5 rfl) ?_
    refine lv_iconst (v := (0 : Int32)) G.1 G.2.1 dL_law_1507 (by decide) ?_
    refine va_lald G.1 G.2.1 hKL.1 hW.1 0 1 rfl rfl k_in01 dL_law_1508 ?_
    refine lv_iload G.1 G.2.1 dL_law_1509 (lv_at hl 0 rfl) ?_
    refine lv_i2l (v := (v9).toInt64) G.1 G.2.1 dL_law_1511 rfl ?_
    refine W.lcmp G.1 G.2.1 dL_law_1512 ?_
    have cmp9 : lg_cmp (woL (.inr (v9, u9)) f (0 : Int32).toNatClampNeg) v9.toInt64 = 0 := k_cmp0 f v9 u9
    refine lv_if_eq (tgt := 1518) G.1 G.2.1 dL_law_1513 (by decide) (fun c9 => ?_) (fun c9 => absurd cmp9 c9)
    refine lv_goto (tgt := 2082) G.1 G.2.1 dL_law_1518 (by decide) ?_
    refine W.widen (k := 62 + 2 * j) (n := 3012 + 12 * j) (by omega) (by omega) ?_
    exact K _ _ _ _ _ _ _ hP9 hW (lv_sub hl [2, 3, 4, 5, 6, 7] rfl)

set_option maxHeartbeats 4000000 in
set_option maxRecDepth 100000 in
theorem law_c25 (hT : l.stackTraces = false) (G : CallFix p m c cL_law 9 s #[Value.ref b] wA RL) (hXs : va_X b L xs s s.heap) (hbl : b < s.heap.size) (hKL : KL D cy cl cd s) (hX : KX (kA s) s) (n : Nat) (hj : j < 512) {a1 : Int32} (v1 : vp_in (x5 + (1 : Int32)) L) (e1 : xs (x5 + (1 : Int32)).toNatClampNeg = a1) (P : St → St → Prop) (ag : AgI [xIO] (fX4_freeBlocks n σ a1) (fX5_freeBlocks n τ a1) P) (K : ∀ (f' : Nat → Int64) (g' : Nat → UInt64) (σ' τ' : St) (H : Heap) (locs : List Loc) (ls : Array Slot), P σ' τ' → KW D (kA s) s.heap (wLaw cy cl cd ao ad h h2 hm f' g' σ2 σ' τ') H locs → lv_has ls 9 [(0, .ref b), (1, .ref (h 104)), (2, .ref (hm 10)), (3, .ref ao), (4, .ref ad), (5, .int x5)] → W p l e room_1 s m #[Value.ref b] below meth c H locs (62 + 2 * j) (3012 + 12 * j) Q (F0 m 2082 ls [])) (hW : KW D (kA s) s.heap (wLaw cy cl cd ao ad h h2 hm f g σ2 σ τ) H locs) (hl : lv_has ls 9 [(0, .ref b), (1, .ref (h 104)), (2, .ref (hm 10)), (3, .ref ao), (4, .ref ad), (5, .int x5)]) : W p l e room_1 s m #[Value.ref b] below meth c H locs (60 + 2 * j) (3000 + 12 * j) Q (F0 m 1521 ls []) := by
  have hA : ∀ q : Nat, s.heap.size ≤ q → kA s q := fun _ h => h
  have hbA : ¬ kA s b := Nat.not_le.mpr hbl
  have hK := hKL.KK
  obtain ⟨o, bm, τn, ex, em, hE, hth, hvb, hP9⟩ := ag
  refine lv_aload_n G.1 G.2.1 dL_law_1521 rfl (lv_at hl 1 rfl) ?_
  refine lv_aload_n G.1 G.2.1 dL_law_1522 rfl (lv_at hl 0 rfl) ?_
  refine lv_iload G.1 G.2.1 dL_law_1523 (lv_at hl 5 rfl) ?_
  refine lv_iconst (v := (1 : Int32)) G.1 G.2.1 dL_law_1525 (by decide) ?_
  refine lv_iadd G.1 G.2.1 dL_law_1526 ?_
  refine va_sld G.1 G.2.1 hXs hbl hbA hW.2.2 v1 dL_law_1527 ?_
  rw [e1]
  refine lv_aload_n G.1 G.2.1 dL_law_1528 rfl (lv_at hl 3 rfl) ?_
  refine kl_w (wr := ([(ad, .inl (cd, 1, .inr (.inr (.inr (.inl g)))))] ++ (wC cy h2 σ2 ++ wM cy hm τ))) (w := ((ao, .inl (cl, 1, .inr (.inl f))) :: wB cy h (h2 103) σ)) (w' := ((ao, .inl (cl, 1, .inr (.inl (woL o f)))) :: wB cy h (h2 103) (wst o))) (n := 3) (As := [.ref (h 104), .int a1, .ref ao]) (rest := []) G hKL hX hA (pmL_in hW) (mL_freeBlocks l hT D cy cl cd h (h2 103) ao _ n σ f a1 ex (fun E u h9 => by have h8 := hE E u h9; simpa only [List.mem_cons, List.not_mem_nil, or_false] using h8)) (gSW q_28_10 q_28_11 q_4_12 q_28_12) ⟨rfl, rfl⟩ (by decide +kernel) ⟨Nat.le_of_ble_eq_true rfl, Nat.le_of_ble_eq_true rfl⟩ rfl hl.1 rfl (Nat.le_of_ble_eq_true rfl) dL_law_1529 ⟨by show _ ≤ 3160; omega, by show _ ≤ 121633; omega⟩ (fun H locs hW => ?_)
  replace hW := pmL_out (f := (woL o f)) (g := g) (σ2 := σ2) (σ := (wst o)) (τ := τ) hW
  refine lv_istore (lv' := [(6, .int (wcd [xIO] o)), (0, .ref b), (1, .ref (h 104)), (2, .ref (hm 10)), (3, .ref ao), (4, .ref ad), (5, .int x5)]) G.1 G.2.1 dL_law_1532 hl (by decide) rfl (fun ls hl => ?_)
  refine lv_aload_n G.1 G.2.1 dL_law_1534 rfl (lv_at hl 3 rfl) ?_
  refine lv_aload_n G.1 G.2.1 dL_law_1535 rfl (lv_at hl 1 rfl) ?_
  refine lv_iload G.1 G.2.1 dL_law_1536 (lv_at hl 6 rfl) ?_
  refine lv_iconst (v := (1 : Int32)) G.1 G.2.1 dL_law_1538 (by decide) ?_
  refine lv_iadd G.1 G.2.1 dL_law_1539 ?_
  refine va_sld G.1 G.2.1 hXs hbl hbA hW.2.2 v1 dL_law_1540 ?_
  rw [e1]
  refine kc_i (wr := ((ao, .inl (cl, 1, .inr (.inl (woL o f)))) :: (ad, .inl (cd, 1, .inr (.inr (.inr (.inl g))))) :: wBB cy h h2 σ2 (wst o))) (w := wM cy hm τ) (w' := wM cy hm τn) (n := 1) (As := [.int a1]) (rest := []) (C := RX5) G hK hA hW (mX5_freeBlocks l D cy hm _ n τ a1 em) (gV q_29_0 q_29_1 q_29_2 q_1_5 q_29_3) ⟨rfl, rfl⟩ (by decide +kernel) ⟨Nat.le_of_ble_eq_true rfl, Nat.le_of_ble_eq_true rfl⟩ (va_recv hK.1 hW.1 (ci := 7) (q0 := 55) rfl rfl) rfl hl.1 rfl (Nat.le_of_ble_eq_true rfl) dL_law_1541 ⟨by show _ ≤ 3160; omega, by show _ ≤ 121633; omega⟩ (fun H locs hW => ?_)
  replace hW : KW D (kA s) s.heap (wLaw cy cl cd ao ad h h2 hm (woL o f) g σ2 (wst o) τn) H locs := hW
  refine lv_istore (lv' := [(7, .int bm), (6, .int (wcd [xIO] o)), (0, .ref b), (1, .ref (h 104)), (2, .ref (hm 10)), (3, .ref ao), (4, .ref ad), (5, .int x5)]) G.1 G.2.1 dL_law_1544 hl (by decide) rfl (fun ls hl => ?_)
  refine lv_aload_n G.1 G.2.1 dL_law_1546 rfl (lv_at hl 4 rfl) ?_
  refine kc_i (wr := ((ao, .inl (cl, 1, .inr (.inl (woL o f)))) :: (ad, .inl (cd, 1, .inr (.inr (.inr (.inl g))))) :: wBB cy h h2 σ2 (wst o))) (w := wM cy hm τn) (w' := wM cy hm τn) (n := 0) (As := []) (rest := []) (C := RX5) G hK hA hW (mX5_thrown l D cy hm _ n τn  (show fX5_thrown n τn = some (τn 6 0) from rfl)) (gV q_10_9 q_10_10 q_10_11 q_1_5 q_10_12) ⟨rfl, rfl⟩ (by decide +kernel) ⟨Nat.le_of_ble_eq_true rfl, Nat.le_of_ble_eq_true rfl⟩ (va_recv hK.1 hW.1 (ci := 7) (q0 := 55) rfl rfl) rfl hl.1 rfl (Nat.le_of_ble_eq_true rfl) dL_law_1547 ⟨by show _ ≤ 3160; omega, by show _ ≤ 121633; omega⟩ (fun H locs hW => ?_)
  replace hW : KW D (kA s) s.heap (wLaw cy cl cd ao ad h h2 hm (woL o f) g σ2 (wst o) τn) H locs := hW
  refine lv_iload G.1 G.2.1 dL_law_1550 (lv_at hl 1 rfl) ?_
  refine lv_icmp_eq (tgt := 1557) G.1 G.2.1 dL_law_1552 (by decide) (fun c9 => ?_) (fun c9 => absurd hth c9)
  refine lv_iload G.1 G.2.1 dL_law_1557 (lv_at hl 1 rfl) ?_
  refine lv_if_ne (tgt := 1574) G.1 G.2.1 dL_law_1559 (by decide) (fun c9 => ?_) (fun c9 => ?_)
  · skip
    refine lv_goto (tgt := 2082) G.1 G.2.1 dL_law_1574 (by decide) ?_
    refine W.widen (k := 62 + 2 * j) (n := 3012 + 12 * j) (by omega) (by omega) ?_
    exact K _ _ _ _ _ _ _ hP9 hW (lv_sub hl [2, 3, 4, 5, 6, 7] rfl)
  · obtain ⟨v9, u9, rfl⟩ := wcd_1 hE c9
    have hvb9 : v9 = bm := hvb v9 u9 rfl
    subst hvb9
    refine lv_aload_n G.1 G.2.1 dL_law_1562 rfl (lv_at hl 5 rfl) ?_
    refine lv_iconst (v := (0 : Int32)) G.1 G.2.1 dL_law_1563 (by decide) ?_
    refine va_lald G.1 G.2.1 hKL.1 hW.1 0 1 rfl rfl k_in01 dL_law_1564 ?_
    refine lv_iload G.1 G.2.1 dL_law_1565 (lv_at hl 0 rfl) ?_
    refine lv_i2l (v := (v9).toInt64) G.1 G.2.1 dL_law_1567 rfl ?_
    refine W.lcmp G.1 G.2.1 dL_law_1568 ?_
    have cmp9 : lg_cmp (woL (.inr (v9, u9)) f (0 : Int32).toNatClampNeg) v9.toInt64 = 0 := k_cmp0 f v9 u9
    refine lv_if_eq (tgt := 1574) G.1 G.2.1 dL_law_1569 (by decide) (fun c9 => ?_) (fun c9 => absurd cmp9 c9)
    refine lv_goto (tgt := 2082) G.1 G.2.1 dL_law_1574 (by decide) ?_
    refine W.widen (k := 62 + 2 * j) (n := 3012 + 12 * j) (by omega) (by omega) ?_
    exact K _ _ _ _ _ _ _ hP9 hW (lv_sub hl [2, 3, 4, 5, 6, 7] rfl)

set_option maxHeartbeats 4000000 in
set_option maxRecDepth 100000 in
theorem law_c26 (hT : l.stackTraces = false) (G : CallFix p m c cL_law 9 s #[Value.ref b] wA RL) (hXs : va_X b L xs s s.heap) (hbl : b < s.heap.size) (hKL : KL D cy cl cd s) (hX : KX (kA s) s) (n : Nat) (hj : j < 512) (P : St → St → Prop) (ag : AgI [xNS] (fX4_largestFree n σ) (fX5_largestFree n τ) P) (K : ∀ (f' : Nat → Int64) (g' : Nat → UInt64) (σ' τ' : St) (H : Heap) (locs : List Loc) (ls : Array Slot), P σ' τ' → KW D (kA s) s.heap (wLaw cy cl cd ao ad h h2 hm f' g' σ2 σ' τ') H locs → lv_has ls 9 [(0, .ref b), (1, .ref (h 104)), (2, .ref (hm 10)), (3, .ref ao), (4, .ref ad), (5, .int x5)] → W p l e room_1 s m #[Value.ref b] below meth c H locs (62 + 2 * j) (3012 + 12 * j) Q (F0 m 2082 ls [])) (hW : KW D (kA s) s.heap (wLaw cy cl cd ao ad h h2 hm f g σ2 σ τ) H locs) (hl : lv_has ls 9 [(0, .ref b), (1, .ref (h 104)), (2, .ref (hm 10)), (3, .ref ao), (4, .ref ad), (5, .int x5)]) : W p l e room_1 s m #[Value.ref b] below meth c H locs (60 + 2 * j) (3000 + 12 * j) Q (F0 m 1577 ls []) := by
  have hA : ∀ q : Nat, s.heap.size ≤ q → kA s q := fun _ h => h
  have hbA : ¬ kA s b := Nat.not_le.mpr hbl
  have hK := hKL.KK
  obtain ⟨o, bm, τn, ex, em, hE, hth, hvb, hP9⟩ := ag
  refine lv_aload_n G.1 G.2.1 dL_law_1577 rfl (lv_at hl 1 rfl) ?_
  refine lv_aload_n G.1 G.2.1 dL_law_1578 rfl (lv_at hl 3 rfl) ?_
  refine kl_w (wr := ([(ad, .inl (cd, 1, .inr (.inr (.inr (.inl g)))))] ++ (wC cy h2 σ2 ++ wM cy hm τ))) (w := ((ao, .inl (cl, 1, .inr (.inl f))) :: wB cy h (h2 103) σ)) (w' := ((ao, .inl (cl, 1, .inr (.inl (woL o f)))) :: wB cy h (h2 103) (wst o))) (n := 2) (As := [.ref (h 104), .ref ao]) (rest := []) G hKL hX hA (pmL_in hW) (mL_largestFree l hT D cy cl cd h (h2 103) ao _ n σ f  ex (fun E u h9 => by have h8 := hE E u h9; simpa only [List.mem_cons, List.not_mem_nil, or_false] using h8)) (gSW q_29_8 q_29_9 q_4_12 q_29_10) ⟨rfl, rfl⟩ (by decide +kernel) ⟨Nat.le_of_ble_eq_true rfl, Nat.le_of_ble_eq_true rfl⟩ rfl hl.1 rfl (Nat.le_of_ble_eq_true rfl) dL_law_1579 ⟨by show _ ≤ 3160; omega, by show _ ≤ 121633; omega⟩ (fun H locs hW => ?_)
  replace hW := pmL_out (f := (woL o f)) (g := g) (σ2 := σ2) (σ := (wst o)) (τ := τ) hW
  refine lv_istore (lv' := [(6, .int (wcd [xNS] o)), (0, .ref b), (1, .ref (h 104)), (2, .ref (hm 10)), (3, .ref ao), (4, .ref ad), (5, .int x5)]) G.1 G.2.1 dL_law_1582 hl (by decide) rfl (fun ls hl => ?_)
  refine lv_aload_n G.1 G.2.1 dL_law_1584 rfl (lv_at hl 3 rfl) ?_
  refine kc_i (wr := ((ao, .inl (cl, 1, .inr (.inl (woL o f)))) :: (ad, .inl (cd, 1, .inr (.inr (.inr (.inl g))))) :: wBB cy h h2 σ2 (wst o))) (w := wM cy hm τ) (w' := wM cy hm τn) (n := 0) (As := []) (rest := []) (C := RX5) G hK hA hW (mX5_largestFree l D cy hm _ n τ  em) (gV q_29_22 q_29_23 q_30_0 q_1_5 q_30_1) ⟨rfl, rfl⟩ (by decide +kernel) ⟨Nat.le_of_ble_eq_true rfl, Nat.le_of_ble_eq_true rfl⟩ (va_recv hK.1 hW.1 (ci := 7) (q0 := 55) rfl rfl) rfl hl.1 rfl (Nat.le_of_ble_eq_true rfl) dL_law_1585 ⟨by show _ ≤ 3160; omega, by show _ ≤ 121633; omega⟩ (fun H locs hW => ?_)
  replace hW : KW D (kA s) s.heap (wLaw cy cl cd ao ad h h2 hm (woL o f) g σ2 (wst o) τn) H locs := hW
  refine lv_istore (lv' := [(7, .int bm), (6, .int (wcd [xNS] o)), (0, .ref b), (1, .ref (h 104)), (2, .ref (hm 10)), (3, .ref ao), (4, .ref ad), (5, .int x5)]) G.1 G.2.1 dL_law_1588 hl (by decide) rfl (fun ls hl => ?_)
  refine lv_aload_n G.1 G.2.1 dL_law_1590 rfl (lv_at hl 4 rfl) ?_
  refine kc_i (wr := ((ao, .inl (cl, 1, .inr (.inl (woL o f)))) :: (ad, .inl (cd, 1, .inr (.inr (.inr (.inl g))))) :: wBB cy h h2 σ2 (wst o))) (w := wM cy hm τn) (w' := wM cy hm τn) (n := 0) (As := []) (rest := []) (C := RX5) G hK hA hW (mX5_thrown l D cy hm _ n τn  (show fX5_thrown n τn = some (τn 6 0) from rfl)) (gV q_10_9 q_10_10 q_10_11 q_1_5 q_10_12) ⟨rfl, rfl⟩ (by decide +kernel) ⟨Nat.le_of_ble_eq_true rfl, Nat.le_of_ble_eq_true rfl⟩ (va_recv hK.1 hW.1 (ci := 7) (q0 := 55) rfl rfl) rfl hl.1 rfl (Nat.le_of_ble_eq_true rfl) dL_law_1591 ⟨by show _ ≤ 3160; omega, by show _ ≤ 121633; omega⟩ (fun H locs hW => ?_)
  replace hW : KW D (kA s) s.heap (wLaw cy cl cd ao ad h h2 hm (woL o f) g σ2 (wst o) τn) H locs := hW
  refine lv_iload G.1 G.2.1 dL_law_1594 (lv_at hl 1 rfl) ?_
  refine lv_icmp_eq (tgt := 1601) G.1 G.2.1 dL_law_1596 (by decide) (fun c9 => ?_) (fun c9 => absurd hth c9)
  refine lv_iload G.1 G.2.1 dL_law_1601 (lv_at hl 1 rfl) ?_
  refine lv_if_ne (tgt := 1618) G.1 G.2.1 dL_law_1603 (by decide) (fun c9 => ?_) (fun c9 => ?_)
  · skip
    refine lv_goto (tgt := 2082) G.1 G.2.1 dL_law_1618 (by decide) ?_
    refine W.widen (k := 62 + 2 * j) (n := 3012 + 12 * j) (by omega) (by omega) ?_
    exact K _ _ _ _ _ _ _ hP9 hW (lv_sub hl [2, 3, 4, 5, 6, 7] rfl)
  · obtain ⟨v9, u9, rfl⟩ := wcd_1 hE c9
    have hvb9 : v9 = bm := hvb v9 u9 rfl
    subst hvb9
    refine lv_aload_n G.1 G.2.1 dL_law_1606 rfl (lv_at hl 5 rfl) ?_
    refine lv_iconst (v := (0 : Int32)) G.1 G.2.1 dL_law_1607 (by decide) ?_
    refine va_lald G.1 G.2.1 hKL.1 hW.1 0 1 rfl rfl k_in01 dL_law_1608 ?_
    refine lv_iload G.1 G.2.1 dL_law_1609 (lv_at hl 0 rfl) ?_
    refine lv_i2l (v := (v9).toInt64) G.1 G.2.1 dL_law_1611 rfl ?_
    refine W.lcmp G.1 G.2.1 dL_law_1612 ?_
    have cmp9 : lg_cmp (woL (.inr (v9, u9)) f (0 : Int32).toNatClampNeg) v9.toInt64 = 0 := k_cmp0 f v9 u9
    refine lv_if_eq (tgt := 1618) G.1 G.2.1 dL_law_1613 (by decide) (fun c9 => ?_) (fun c9 => absurd cmp9 c9)
    refine lv_goto (tgt := 2082) G.1 G.2.1 dL_law_1618 (by decide) ?_
    refine W.widen (k := 62 + 2 * j) (n := 3012 + 12 * j) (by omega) (by omega) ?_
    exact K _ _ _ _ _ _ _ hP9 hW (lv_sub hl [2, 3, 4, 5, 6, 7] rfl)

set_option maxHeartbeats 4000000 in
set_option maxRecDepth 100000 in
theorem law_c27 (hT : l.stackTraces = false) (G : CallFix p m c cL_law 9 s #[Value.ref b] wA RL) (hXs : va_X b L xs s s.heap) (hbl : b < s.heap.size) (hKL : KL D cy cl cd s) (hX : KX (kA s) s) (n : Nat) (hj : j < 512) (P : St → St → Prop) (ag : AgD [xNS] (fX4_fragmentation n σ) (fX5_fragmentation n τ) P) (K : ∀ (f' : Nat → Int64) (g' : Nat → UInt64) (σ' τ' : St) (H : Heap) (locs : List Loc) (ls : Array Slot), P σ' τ' → KW D (kA s) s.heap (wLaw cy cl cd ao ad h h2 hm f' g' σ2 σ' τ') H locs → lv_has ls 9 [(0, .ref b), (1, .ref (h 104)), (2, .ref (hm 10)), (3, .ref ao), (4, .ref ad), (5, .int x5)] → W p l e room_1 s m #[Value.ref b] below meth c H locs (62 + 2 * j) (3012 + 12 * j) Q (F0 m 2082 ls [])) (hW : KW D (kA s) s.heap (wLaw cy cl cd ao ad h h2 hm f g σ2 σ τ) H locs) (hl : lv_has ls 9 [(0, .ref b), (1, .ref (h 104)), (2, .ref (hm 10)), (3, .ref ao), (4, .ref ad), (5, .int x5)]) : W p l e room_1 s m #[Value.ref b] below meth c H locs (60 + 2 * j) (3000 + 12 * j) Q (F0 m 1621 ls []) := by
  have hA : ∀ q : Nat, s.heap.size ≤ q → kA s q := fun _ h => h
  have hbA : ¬ kA s b := Nat.not_le.mpr hbl
  have hK := hKL.KK
  obtain ⟨o, bm, τn, ex, em, hE, hth, hvb, hP9⟩ := ag
  refine lv_aload_n G.1 G.2.1 dL_law_1621 rfl (lv_at hl 1 rfl) ?_
  refine lv_aload G.1 G.2.1 dL_law_1622 (lv_at hl 4 rfl) ?_
  refine kl_w (wr := ([(ao, .inl (cl, 1, .inr (.inl f)))] ++ (wC cy h2 σ2 ++ wM cy hm τ))) (w := ((ad, .inl (cd, 1, .inr (.inr (.inr (.inl g))))) :: wB cy h (h2 103) σ)) (w' := ((ad, .inl (cd, 1, .inr (.inr (.inr (.inl (woD o g)))))) :: wB cy h (h2 103) (wst o))) (n := 2) (As := [.ref (h 104), .ref ad]) (rest := []) G hKL hX hA (pmD_in hW) (mL_fragmentation l hT D cy cl cd h (h2 103) ad _ n σ g  ex (fun E u h9 => by have h8 := hE E u h9; simpa only [List.mem_cons, List.not_mem_nil, or_false] using h8)) (gSW q_30_6 q_30_7 q_4_12 q_30_8) ⟨rfl, rfl⟩ (by decide +kernel) ⟨Nat.le_of_ble_eq_true rfl, Nat.le_of_ble_eq_true rfl⟩ rfl hl.1 rfl (Nat.le_of_ble_eq_true rfl) dL_law_1624 ⟨by show _ ≤ 3160; omega, by show _ ≤ 121633; omega⟩ (fun H locs hW => ?_)
  replace hW := pmD_out (f := f) (g := (woD o g)) (σ2 := σ2) (σ := (wst o)) (τ := τ) hW
  refine lv_istore (lv' := [(6, .int (wcd [xNS] o)), (0, .ref b), (1, .ref (h 104)), (2, .ref (hm 10)), (3, .ref ao), (4, .ref ad), (5, .int x5)]) G.1 G.2.1 dL_law_1627 hl (by decide) rfl (fun ls hl => ?_)
  refine lv_aload_n G.1 G.2.1 dL_law_1629 rfl (lv_at hl 3 rfl) ?_
  refine kc_d (wr := ((ao, .inl (cl, 1, .inr (.inl f))) :: (ad, .inl (cd, 1, .inr (.inr (.inr (.inl (woD o g)))))) :: wBB cy h h2 σ2 (wst o))) (w := wM cy hm τ) (w' := wM cy hm τn) (n := 0) (As := []) (rest := []) (C := RX5) G hK hA hW (mX5_fragmentation l D cy hm _ n τ  em) (gV q_30_13 q_30_14 q_30_15 q_1_5 q_30_16) ⟨rfl, rfl⟩ (by decide +kernel) ⟨Nat.le_of_ble_eq_true rfl, Nat.le_of_ble_eq_true rfl⟩ (va_recv hK.1 hW.1 (ci := 7) (q0 := 55) rfl rfl) rfl hl.1 rfl (Nat.le_of_ble_eq_true rfl) dL_law_1630 ⟨by show _ ≤ 3160; omega, by show _ ≤ 121633; omega⟩ (fun H locs hW => ?_)
  replace hW : KW D (kA s) s.heap (wLaw cy cl cd ao ad h h2 hm f (woD o g) σ2 (wst o) τn) H locs := hW
  refine lv_dstore (lv' := [(7, .double bm), (6, .int (wcd [xNS] o)), (0, .ref b), (1, .ref (h 104)), (2, .ref (hm 10)), (3, .ref ao), (4, .ref ad), (5, .int x5)]) G.1 G.2.1 dL_law_1633 hl (by decide) rfl (fun ls hl => ?_)
  refine lv_aload_n G.1 G.2.1 dL_law_1635 rfl (lv_at hl 4 rfl) ?_
  refine kc_i (wr := ((ao, .inl (cl, 1, .inr (.inl f))) :: (ad, .inl (cd, 1, .inr (.inr (.inr (.inl (woD o g)))))) :: wBB cy h h2 σ2 (wst o))) (w := wM cy hm τn) (w' := wM cy hm τn) (n := 0) (As := []) (rest := []) (C := RX5) G hK hA hW (mX5_thrown l D cy hm _ n τn  (show fX5_thrown n τn = some (τn 6 0) from rfl)) (gV q_10_9 q_10_10 q_10_11 q_1_5 q_10_12) ⟨rfl, rfl⟩ (by decide +kernel) ⟨Nat.le_of_ble_eq_true rfl, Nat.le_of_ble_eq_true rfl⟩ (va_recv hK.1 hW.1 (ci := 7) (q0 := 55) rfl rfl) rfl hl.1 rfl (Nat.le_of_ble_eq_true rfl) dL_law_1636 ⟨by show _ ≤ 3160; omega, by show _ ≤ 121633; omega⟩ (fun H locs hW => ?_)
  replace hW : KW D (kA s) s.heap (wLaw cy cl cd ao ad h h2 hm f (woD o g) σ2 (wst o) τn) H locs := hW
  refine lv_iload G.1 G.2.1 dL_law_1639 (lv_at hl 1 rfl) ?_
  refine lv_icmp_eq (tgt := 1646) G.1 G.2.1 dL_law_1641 (by decide) (fun c9 => ?_) (fun c9 => absurd hth c9)
  refine lv_iload G.1 G.2.1 dL_law_1646 (lv_at hl 1 rfl) ?_
  refine lv_if_ne (tgt := 1683) G.1 G.2.1 dL_law_1648 (by decide) (fun c9 => ?_) (fun c9 => ?_)
  · skip
    refine lv_goto (tgt := 2082) G.1 G.2.1 dL_law_1683 (by decide) ?_
    refine W.widen (k := 62 + 2 * j) (n := 3012 + 12 * j) (by omega) (by omega) ?_
    exact K _ _ _ _ _ _ _ hP9 hW (lv_sub hl [2, 3, 4, 5, 6, 7] rfl)
  · obtain ⟨v9, u9, rfl⟩ := wcd_1 hE c9
    have hvb9 := hvb v9 u9 rfl
    obtain ⟨hvb8, hvb7⟩ := hvb9
    subst hvb8
    refine lv_aload G.1 G.2.1 dL_law_1651 (lv_at hl 6 rfl) ?_
    refine lv_iconst (v := (0 : Int32)) G.1 G.2.1 dL_law_1653 (by decide) ?_
    refine va_dald G.1 G.2.1 hKL.1 hW.1 1 2 rfl rfl k_in01 dL_law_1654 ?_
    refine lv_dload G.1 G.2.1 dL_law_1655 (lv_at hl 0 rfl) ?_
    refine lv_dcmp G.1 G.2.1 dL_law_1657 ?_
    have cmp9 : Op.cmpValue (FP.dcmp (woD (.inr (v9, u9)) g (0 : Int32).toNatClampNeg) v9) CmpOp.l = 0 := hvb7
    refine lv_if_eq (tgt := 1683) G.1 G.2.1 dL_law_1658 (by decide) (fun c9 => ?_) (fun c9 => absurd cmp9 c9)
    refine lv_goto (tgt := 2082) G.1 G.2.1 dL_law_1683 (by decide) ?_
    refine W.widen (k := 62 + 2 * j) (n := 3012 + 12 * j) (by omega) (by omega) ?_
    exact K _ _ _ _ _ _ _ hP9 hW (lv_sub hl [2, 3, 4, 5, 6, 7] rfl)

set_option maxHeartbeats 4000000 in
set_option maxRecDepth 100000 in
theorem law_c28 (hT : l.stackTraces = false) (G : CallFix p m c cL_law 9 s #[Value.ref b] wA RL) (hXs : va_X b L xs s s.heap) (hbl : b < s.heap.size) (hKL : KL D cy cl cd s) (hX : KX (kA s) s) (n : Nat) (hj : j < 512) {a1 a2 : Int32} (v1 : vp_in (x5 + (1 : Int32)) L) (e1 : xs (x5 + (1 : Int32)).toNatClampNeg = a1) (v2 : vp_in (x5 + (2 : Int32)) L) (e2 : xs (x5 + (2 : Int32)).toNatClampNeg = a2) (P : St → St → Prop) (ag : AgI [xIA] (fX4_earliestStart n σ a1 a2) (fX5_earliestStart n τ a1 a2) P) (K : ∀ (f' : Nat → Int64) (g' : Nat → UInt64) (σ' τ' : St) (H : Heap) (locs : List Loc) (ls : Array Slot), P σ' τ' → KW D (kA s) s.heap (wLaw cy cl cd ao ad h h2 hm f' g' σ2 σ' τ') H locs → lv_has ls 9 [(0, .ref b), (1, .ref (h 104)), (2, .ref (hm 10)), (3, .ref ao), (4, .ref ad), (5, .int x5)] → W p l e room_1 s m #[Value.ref b] below meth c H locs (62 + 2 * j) (3012 + 12 * j) Q (F0 m 2082 ls [])) (hW : KW D (kA s) s.heap (wLaw cy cl cd ao ad h h2 hm f g σ2 σ τ) H locs) (hl : lv_has ls 9 [(0, .ref b), (1, .ref (h 104)), (2, .ref (hm 10)), (3, .ref ao), (4, .ref ad), (5, .int x5)]) : W p l e room_1 s m #[Value.ref b] below meth c H locs (60 + 2 * j) (3000 + 12 * j) Q (F0 m 1686 ls []) := by
  have hA : ∀ q : Nat, s.heap.size ≤ q → kA s q := fun _ h => h
  have hbA : ¬ kA s b := Nat.not_le.mpr hbl
  have hK := hKL.KK
  obtain ⟨o, bm, τn, ex, em, hE, hth, hvb, hP9⟩ := ag
  refine lv_aload_n G.1 G.2.1 dL_law_1686 rfl (lv_at hl 1 rfl) ?_
  refine lv_aload_n G.1 G.2.1 dL_law_1687 rfl (lv_at hl 0 rfl) ?_
  refine lv_iload G.1 G.2.1 dL_law_1688 (lv_at hl 5 rfl) ?_
  refine lv_iconst (v := (1 : Int32)) G.1 G.2.1 dL_law_1690 (by decide) ?_
  refine lv_iadd G.1 G.2.1 dL_law_1691 ?_
  refine va_sld G.1 G.2.1 hXs hbl hbA hW.2.2 v1 dL_law_1692 ?_
  rw [e1]
  refine lv_aload_n G.1 G.2.1 dL_law_1693 rfl (lv_at hl 0 rfl) ?_
  refine lv_iload G.1 G.2.1 dL_law_1694 (lv_at hl 5 rfl) ?_
  refine lv_iconst (v := (2 : Int32)) G.1 G.2.1 dL_law_1696 (by decide) ?_
  refine lv_iadd G.1 G.2.1 dL_law_1697 ?_
  refine va_sld G.1 G.2.1 hXs hbl hbA hW.2.2 v2 dL_law_1698 ?_
  rw [e2]
  refine lv_aload_n G.1 G.2.1 dL_law_1699 rfl (lv_at hl 3 rfl) ?_
  refine kl_w (wr := ([(ad, .inl (cd, 1, .inr (.inr (.inr (.inl g)))))] ++ (wC cy h2 σ2 ++ wM cy hm τ))) (w := ((ao, .inl (cl, 1, .inr (.inl f))) :: wB cy h (h2 103) σ)) (w' := ((ao, .inl (cl, 1, .inr (.inl (woL o f)))) :: wB cy h (h2 103) (wst o))) (n := 4) (As := [.ref (h 104), .int a1, .int a2, .ref ao]) (rest := []) G hKL hX hA (pmL_in hW) (mL_earliestStart l hT D cy cl cd h (h2 103) ao _ n σ f a1 a2 ex (fun E u h9 => by have h8 := hE E u h9; simpa only [List.mem_cons, List.not_mem_nil, or_false] using h8)) (gSW q_30_17 q_30_18 q_4_12 q_30_19) ⟨rfl, rfl⟩ (by decide +kernel) ⟨Nat.le_of_ble_eq_true rfl, Nat.le_of_ble_eq_true rfl⟩ rfl hl.1 rfl (Nat.le_of_ble_eq_true rfl) dL_law_1700 ⟨by show _ ≤ 3160; omega, by show _ ≤ 121633; omega⟩ (fun H locs hW => ?_)
  replace hW := pmL_out (f := (woL o f)) (g := g) (σ2 := σ2) (σ := (wst o)) (τ := τ) hW
  refine lv_istore (lv' := [(6, .int (wcd [xIA] o)), (0, .ref b), (1, .ref (h 104)), (2, .ref (hm 10)), (3, .ref ao), (4, .ref ad), (5, .int x5)]) G.1 G.2.1 dL_law_1703 hl (by decide) rfl (fun ls hl => ?_)
  refine lv_aload_n G.1 G.2.1 dL_law_1705 rfl (lv_at hl 3 rfl) ?_
  refine lv_aload_n G.1 G.2.1 dL_law_1706 rfl (lv_at hl 1 rfl) ?_
  refine lv_iload G.1 G.2.1 dL_law_1707 (lv_at hl 6 rfl) ?_
  refine lv_iconst (v := (1 : Int32)) G.1 G.2.1 dL_law_1709 (by decide) ?_
  refine lv_iadd G.1 G.2.1 dL_law_1710 ?_
  refine va_sld G.1 G.2.1 hXs hbl hbA hW.2.2 v1 dL_law_1711 ?_
  rw [e1]
  refine lv_aload_n G.1 G.2.1 dL_law_1712 rfl (lv_at hl 1 rfl) ?_
  refine lv_iload G.1 G.2.1 dL_law_1713 (lv_at hl 6 rfl) ?_
  refine lv_iconst (v := (2 : Int32)) G.1 G.2.1 dL_law_1715 (by decide) ?_
  refine lv_iadd G.1 G.2.1 dL_law_1716 ?_
  refine va_sld G.1 G.2.1 hXs hbl hbA hW.2.2 v2 dL_law_1717 ?_
  rw [e2]
  refine kc_i (wr := ((ao, .inl (cl, 1, .inr (.inl (woL o f)))) :: (ad, .inl (cd, 1, .inr (.inr (.inr (.inl g))))) :: wBB cy h h2 σ2 (wst o))) (w := wM cy hm τ) (w' := wM cy hm τn) (n := 2) (As := [.int a1, .int a2]) (rest := []) (C := RX5) G hK hA hW (mX5_earliestStart l D cy hm _ n τ a1 a2 em) (gV q_31_1 q_31_2 q_31_3 q_1_5 q_31_4) ⟨rfl, rfl⟩ (by decide +kernel) ⟨Nat.le_of_ble_eq_true rfl, Nat.le_of_ble_eq_true rfl⟩ (va_recv hK.1 hW.1 (ci := 7) (q0 := 55) rfl rfl) rfl hl.1 rfl (Nat.le_of_ble_eq_true rfl) dL_law_1718 ⟨by show _ ≤ 3160; omega, by show _ ≤ 121633; omega⟩ (fun H locs hW => ?_)
  replace hW : KW D (kA s) s.heap (wLaw cy cl cd ao ad h h2 hm (woL o f) g σ2 (wst o) τn) H locs := hW
  refine lv_istore (lv' := [(7, .int bm), (6, .int (wcd [xIA] o)), (0, .ref b), (1, .ref (h 104)), (2, .ref (hm 10)), (3, .ref ao), (4, .ref ad), (5, .int x5)]) G.1 G.2.1 dL_law_1721 hl (by decide) rfl (fun ls hl => ?_)
  refine lv_aload_n G.1 G.2.1 dL_law_1723 rfl (lv_at hl 4 rfl) ?_
  refine kc_i (wr := ((ao, .inl (cl, 1, .inr (.inl (woL o f)))) :: (ad, .inl (cd, 1, .inr (.inr (.inr (.inl g))))) :: wBB cy h h2 σ2 (wst o))) (w := wM cy hm τn) (w' := wM cy hm τn) (n := 0) (As := []) (rest := []) (C := RX5) G hK hA hW (mX5_thrown l D cy hm _ n τn  (show fX5_thrown n τn = some (τn 6 0) from rfl)) (gV q_10_9 q_10_10 q_10_11 q_1_5 q_10_12) ⟨rfl, rfl⟩ (by decide +kernel) ⟨Nat.le_of_ble_eq_true rfl, Nat.le_of_ble_eq_true rfl⟩ (va_recv hK.1 hW.1 (ci := 7) (q0 := 55) rfl rfl) rfl hl.1 rfl (Nat.le_of_ble_eq_true rfl) dL_law_1724 ⟨by show _ ≤ 3160; omega, by show _ ≤ 121633; omega⟩ (fun H locs hW => ?_)
  replace hW : KW D (kA s) s.heap (wLaw cy cl cd ao ad h h2 hm (woL o f) g σ2 (wst o) τn) H locs := hW
  refine lv_iload G.1 G.2.1 dL_law_1727 (lv_at hl 1 rfl) ?_
  refine lv_icmp_eq (tgt := 1734) G.1 G.2.1 dL_law_1729 (by decide) (fun c9 => ?_) (fun c9 => absurd hth c9)
  refine lv_iload G.1 G.2.1 dL_law_1734 (lv_at hl 1 rfl) ?_
  refine lv_if_ne (tgt := 1751) G.1 G.2.1 dL_law_1736 (by decide) (fun c9 => ?_) (fun c9 => ?_)
  · skip
    refine lv_goto (tgt := 2082) G.1 G.2.1 dL_law_1751 (by decide) ?_
    refine W.widen (k := 62 + 2 * j) (n := 3012 + 12 * j) (by omega) (by omega) ?_
    exact K _ _ _ _ _ _ _ hP9 hW (lv_sub hl [2, 3, 4, 5, 6, 7] rfl)
  · obtain ⟨v9, u9, rfl⟩ := wcd_1 hE c9
    have hvb9 : v9 = bm := hvb v9 u9 rfl
    subst hvb9
    refine lv_aload_n G.1 G.2.1 dL_law_1739 rfl (lv_at hl 5 rfl) ?_
    refine lv_iconst (v := (0 : Int32)) G.1 G.2.1 dL_law_1740 (by decide) ?_
    refine va_lald G.1 G.2.1 hKL.1 hW.1 0 1 rfl rfl k_in01 dL_law_1741 ?_
    refine lv_iload G.1 G.2.1 dL_law_1742 (lv_at hl 0 rfl) ?_
    refine lv_i2l (v := (v9).toInt64) G.1 G.2.1 dL_law_1744 rfl ?_
    refine W.lcmp G.1 G.2.1 dL_law_1745 ?_
    have cmp9 : lg_cmp (woL (.inr (v9, u9)) f (0 : Int32).toNatClampNeg) v9.toInt64 = 0 := k_cmp0 f v9 u9
    refine lv_if_eq (tgt := 1751) G.1 G.2.1 dL_law_1746 (by decide) (fun c9 => ?_) (fun c9 => absurd cmp9 c9)
    refine lv_goto (tgt := 2082) G.1 G.2.1 dL_law_1751 (by decide) ?_
    refine W.widen (k := 62 + 2 * j) (n := 3012 + 12 * j) (by omega) (by omega) ?_
    exact K _ _ _ _ _ _ _ hP9 hW (lv_sub hl [2, 3, 4, 5, 6, 7] rfl)

set_option maxHeartbeats 4000000 in
set_option maxRecDepth 100000 in
theorem law_c29 (hT : l.stackTraces = false) (G : CallFix p m c cL_law 9 s #[Value.ref b] wA RL) (hXs : va_X b L xs s s.heap) (hbl : b < s.heap.size) (hKL : KL D cy cl cd s) (hX : KX (kA s) s) (n : Nat) (hj : j < 512) {a1 a2 a3 : Int32} (v1 : vp_in (x5 + (1 : Int32)) L) (e1 : xs (x5 + (1 : Int32)).toNatClampNeg = a1) (v2 : vp_in (x5 + (2 : Int32)) L) (e2 : xs (x5 + (2 : Int32)).toNatClampNeg = a2) (v3 : vp_in (x5 + (3 : Int32)) L) (e3 : xs (x5 + (3 : Int32)).toNatClampNeg = a3) (P : St → St → Prop) (ag : AgI [xIA, xNS] (fX4_lowestBlock n σ a1 a2 a3) (fX5_lowestBlock n τ a1 a2 a3) P) (K : ∀ (f' : Nat → Int64) (g' : Nat → UInt64) (σ' τ' : St) (H : Heap) (locs : List Loc) (ls : Array Slot), P σ' τ' → KW D (kA s) s.heap (wLaw cy cl cd ao ad h h2 hm f' g' σ2 σ' τ') H locs → lv_has ls 9 [(0, .ref b), (1, .ref (h 104)), (2, .ref (hm 10)), (3, .ref ao), (4, .ref ad), (5, .int x5)] → W p l e room_1 s m #[Value.ref b] below meth c H locs (62 + 2 * j) (3012 + 12 * j) Q (F0 m 2082 ls [])) (hW : KW D (kA s) s.heap (wLaw cy cl cd ao ad h h2 hm f g σ2 σ τ) H locs) (hl : lv_has ls 9 [(0, .ref b), (1, .ref (h 104)), (2, .ref (hm 10)), (3, .ref ao), (4, .ref ad), (5, .int x5)]) : W p l e room_1 s m #[Value.ref b] below meth c H locs (60 + 2 * j) (3000 + 12 * j) Q (F0 m 1754 ls []) := by
  have hA : ∀ q : Nat, s.heap.size ≤ q → kA s q := fun _ h => h
  have hbA : ¬ kA s b := Nat.not_le.mpr hbl
  have hK := hKL.KK
  obtain ⟨o, bm, τn, ex, em, hE, hth, hvb, hP9⟩ := ag
  refine lv_aload_n G.1 G.2.1 dL_law_1754 rfl (lv_at hl 1 rfl) ?_
  refine lv_aload_n G.1 G.2.1 dL_law_1755 rfl (lv_at hl 0 rfl) ?_
  refine lv_iload G.1 G.2.1 dL_law_1756 (lv_at hl 5 rfl) ?_
  refine lv_iconst (v := (1 : Int32)) G.1 G.2.1 dL_law_1758 (by decide) ?_
  refine lv_iadd G.1 G.2.1 dL_law_1759 ?_
  refine va_sld G.1 G.2.1 hXs hbl hbA hW.2.2 v1 dL_law_1760 ?_
  rw [e1]
  refine lv_aload_n G.1 G.2.1 dL_law_1761 rfl (lv_at hl 0 rfl) ?_
  refine lv_iload G.1 G.2.1 dL_law_1762 (lv_at hl 5 rfl) ?_
  refine lv_iconst (v := (2 : Int32)) G.1 G.2.1 dL_law_1764 (by decide) ?_
  refine lv_iadd G.1 G.2.1 dL_law_1765 ?_
  refine va_sld G.1 G.2.1 hXs hbl hbA hW.2.2 v2 dL_law_1766 ?_
  rw [e2]
  refine lv_aload_n G.1 G.2.1 dL_law_1767 rfl (lv_at hl 0 rfl) ?_
  refine lv_iload G.1 G.2.1 dL_law_1768 (lv_at hl 5 rfl) ?_
  refine lv_iconst (v := (3 : Int32)) G.1 G.2.1 dL_law_1770 (by decide) ?_
  refine lv_iadd G.1 G.2.1 dL_law_1771 ?_
  refine va_sld G.1 G.2.1 hXs hbl hbA hW.2.2 v3 dL_law_1772 ?_
  rw [e3]
  refine lv_aload_n G.1 G.2.1 dL_law_1773 rfl (lv_at hl 3 rfl) ?_
  refine kl_w (wr := ([(ad, .inl (cd, 1, .inr (.inr (.inr (.inl g)))))] ++ (wC cy h2 σ2 ++ wM cy hm τ))) (w := ((ao, .inl (cl, 1, .inr (.inl f))) :: wB cy h (h2 103) σ)) (w' := ((ao, .inl (cl, 1, .inr (.inl (woL o f)))) :: wB cy h (h2 103) (wst o))) (n := 5) (As := [.ref (h 104), .int a1, .int a2, .int a3, .ref ao]) (rest := []) G hKL hX hA (pmL_in hW) (mL_lowestBlock l hT D cy cl cd h (h2 103) ao _ n σ f a1 a2 a3 ex (fun E u h9 => by have h8 := hE E u h9; simpa only [List.mem_cons, List.not_mem_nil, or_false] using h8)) (gSW q_31_5 q_31_6 q_4_12 q_31_7) ⟨rfl, rfl⟩ (by decide +kernel) ⟨Nat.le_of_ble_eq_true rfl, Nat.le_of_ble_eq_true rfl⟩ rfl hl.1 rfl (Nat.le_of_ble_eq_true rfl) dL_law_1774 ⟨by show _ ≤ 3160; omega, by show _ ≤ 121633; omega⟩ (fun H locs hW => ?_)
  replace hW := pmL_out (f := (woL o f)) (g := g) (σ2 := σ2) (σ := (wst o)) (τ := τ) hW
  refine lv_istore (lv' := [(6, .int (wcd [xIA, xNS] o)), (0, .ref b), (1, .ref (h 104)), (2, .ref (hm 10)), (3, .ref ao), (4, .ref ad), (5, .int x5)]) G.1 G.2.1 dL_law_1777 hl (by decide) rfl (fun ls hl => ?_)
  refine lv_aload_n G.1 G.2.1 dL_law_1779 rfl (lv_at hl 3 rfl) ?_
  refine lv_aload_n G.1 G.2.1 dL_law_1780 rfl (lv_at hl 1 rfl) ?_
  refine lv_iload G.1 G.2.1 dL_law_1781 (lv_at hl 6 rfl) ?_
  refine lv_iconst (v := (1 : Int32)) G.1 G.2.1 dL_law_1783 (by decide) ?_
  refine lv_iadd G.1 G.2.1 dL_law_1784 ?_
  refine va_sld G.1 G.2.1 hXs hbl hbA hW.2.2 v1 dL_law_1785 ?_
  rw [e1]
  refine lv_aload_n G.1 G.2.1 dL_law_1786 rfl (lv_at hl 1 rfl) ?_
  refine lv_iload G.1 G.2.1 dL_law_1787 (lv_at hl 6 rfl) ?_
  refine lv_iconst (v := (2 : Int32)) G.1 G.2.1 dL_law_1789 (by decide) ?_
  refine lv_iadd G.1 G.2.1 dL_law_1790 ?_
  refine va_sld G.1 G.2.1 hXs hbl hbA hW.2.2 v2 dL_law_1791 ?_
  rw [e2]
  refine lv_aload_n G.1 G.2.1 dL_law_1792 rfl (lv_at hl 1 rfl) ?_
  refine lv_iload G.1 G.2.1 dL_law_1793 (lv_at hl 6 rfl) ?_
  refine lv_iconst (v := (3 : Int32)) G.1 G.2.1 dL_law_1795 (by decide) ?_
  refine lv_iadd G.1 G.2.1 dL_law_1796 ?_
  refine va_sld G.1 G.2.1 hXs hbl hbA hW.2.2 v3 dL_law_1797 ?_
  rw [e3]
  refine kc_i (wr := ((ao, .inl (cl, 1, .inr (.inl (woL o f)))) :: (ad, .inl (cd, 1, .inr (.inr (.inr (.inl g))))) :: wBB cy h h2 σ2 (wst o))) (w := wM cy hm τ) (w' := wM cy hm τn) (n := 3) (As := [.int a1, .int a2, .int a3]) (rest := []) (C := RX5) G hK hA hW (mX5_lowestBlock l D cy hm _ n τ a1 a2 a3 em) (gV q_31_12 q_31_13 q_31_14 q_1_5 q_31_15) ⟨rfl, rfl⟩ (by decide +kernel) ⟨Nat.le_of_ble_eq_true rfl, Nat.le_of_ble_eq_true rfl⟩ (va_recv hK.1 hW.1 (ci := 7) (q0 := 55) rfl rfl) rfl hl.1 rfl (Nat.le_of_ble_eq_true rfl) dL_law_1798 ⟨by show _ ≤ 3160; omega, by show _ ≤ 121633; omega⟩ (fun H locs hW => ?_)
  replace hW : KW D (kA s) s.heap (wLaw cy cl cd ao ad h h2 hm (woL o f) g σ2 (wst o) τn) H locs := hW
  refine lv_istore (lv' := [(7, .int bm), (6, .int (wcd [xIA, xNS] o)), (0, .ref b), (1, .ref (h 104)), (2, .ref (hm 10)), (3, .ref ao), (4, .ref ad), (5, .int x5)]) G.1 G.2.1 dL_law_1801 hl (by decide) rfl (fun ls hl => ?_)
  refine lv_aload_n G.1 G.2.1 dL_law_1803 rfl (lv_at hl 4 rfl) ?_
  refine kc_i (wr := ((ao, .inl (cl, 1, .inr (.inl (woL o f)))) :: (ad, .inl (cd, 1, .inr (.inr (.inr (.inl g))))) :: wBB cy h h2 σ2 (wst o))) (w := wM cy hm τn) (w' := wM cy hm τn) (n := 0) (As := []) (rest := []) (C := RX5) G hK hA hW (mX5_thrown l D cy hm _ n τn  (show fX5_thrown n τn = some (τn 6 0) from rfl)) (gV q_10_9 q_10_10 q_10_11 q_1_5 q_10_12) ⟨rfl, rfl⟩ (by decide +kernel) ⟨Nat.le_of_ble_eq_true rfl, Nat.le_of_ble_eq_true rfl⟩ (va_recv hK.1 hW.1 (ci := 7) (q0 := 55) rfl rfl) rfl hl.1 rfl (Nat.le_of_ble_eq_true rfl) dL_law_1804 ⟨by show _ ≤ 3160; omega, by show _ ≤ 121633; omega⟩ (fun H locs hW => ?_)
  replace hW : KW D (kA s) s.heap (wLaw cy cl cd ao ad h h2 hm (woL o f) g σ2 (wst o) τn) H locs := hW
  refine lv_iload G.1 G.2.1 dL_law_1807 (lv_at hl 1 rfl) ?_
  refine lv_icmp_eq (tgt := 1814) G.1 G.2.1 dL_law_1809 (by decide) (fun c9 => ?_) (fun c9 => absurd hth c9)
  refine lv_iload G.1 G.2.1 dL_law_1814 (lv_at hl 1 rfl) ?_
  refine lv_if_ne (tgt := 1831) G.1 G.2.1 dL_law_1816 (by decide) (fun c9 => ?_) (fun c9 => ?_)
  · skip
    refine lv_goto (tgt := 2082) G.1 G.2.1 dL_law_1831 (by decide) ?_
    refine W.widen (k := 62 + 2 * j) (n := 3012 + 12 * j) (by omega) (by omega) ?_
    exact K _ _ _ _ _ _ _ hP9 hW (lv_sub hl [2, 3, 4, 5, 6, 7] rfl)
  · obtain ⟨v9, u9, rfl⟩ := wcd_2 hE c9
    have hvb9 : v9 = bm := hvb v9 u9 rfl
    subst hvb9
    refine lv_aload_n G.1 G.2.1 dL_law_1819 rfl (lv_at hl 5 rfl) ?_
    refine lv_iconst (v := (0 : Int32)) G.1 G.2.1 dL_law_1820 (by decide) ?_
    refine va_lald G.1 G.2.1 hKL.1 hW.1 0 1 rfl rfl k_in01 dL_law_1821 ?_
    refine lv_iload G.1 G.2.1 dL_law_1822 (lv_at hl 0 rfl) ?_
    refine lv_i2l (v := (v9).toInt64) G.1 G.2.1 dL_law_1824 rfl ?_
    refine W.lcmp G.1 G.2.1 dL_law_1825 ?_
    have cmp9 : lg_cmp (woL (.inr (v9, u9)) f (0 : Int32).toNatClampNeg) v9.toInt64 = 0 := k_cmp0 f v9 u9
    refine lv_if_eq (tgt := 1831) G.1 G.2.1 dL_law_1826 (by decide) (fun c9 => ?_) (fun c9 => absurd cmp9 c9)
    refine lv_goto (tgt := 2082) G.1 G.2.1 dL_law_1831 (by decide) ?_
    refine W.widen (k := 62 + 2 * j) (n := 3012 + 12 * j) (by omega) (by omega) ?_
    exact K _ _ _ _ _ _ _ hP9 hW (lv_sub hl [2, 3, 4, 5, 6, 7] rfl)

set_option maxHeartbeats 4000000 in
set_option maxRecDepth 100000 in
theorem law_c30 (hT : l.stackTraces = false) (G : CallFix p m c cL_law 9 s #[Value.ref b] wA RL) (hXs : va_X b L xs s s.heap) (hbl : b < s.heap.size) (hKL : KL D cy cl cd s) (hX : KX (kA s) s) (n : Nat) (hj : j < 512) {a1 a2 : Int32} (v1 : vp_in (x5 + (1 : Int32)) L) (e1 : xs (x5 + (1 : Int32)).toNatClampNeg = a1) (v2 : vp_in (x5 + (2 : Int32)) L) (e2 : xs (x5 + (2 : Int32)).toNatClampNeg = a2) (P : St → St → Prop) (ag : AgI [xIA] (fX4_blockStarts n σ a1 a2) (fX5_blockStarts n τ a1 a2) P) (K : ∀ (f' : Nat → Int64) (g' : Nat → UInt64) (σ' τ' : St) (H : Heap) (locs : List Loc) (ls : Array Slot), P σ' τ' → KW D (kA s) s.heap (wLaw cy cl cd ao ad h h2 hm f' g' σ2 σ' τ') H locs → lv_has ls 9 [(0, .ref b), (1, .ref (h 104)), (2, .ref (hm 10)), (3, .ref ao), (4, .ref ad), (5, .int x5)] → W p l e room_1 s m #[Value.ref b] below meth c H locs (62 + 2 * j) (3012 + 12 * j) Q (F0 m 2082 ls [])) (hW : KW D (kA s) s.heap (wLaw cy cl cd ao ad h h2 hm f g σ2 σ τ) H locs) (hl : lv_has ls 9 [(0, .ref b), (1, .ref (h 104)), (2, .ref (hm 10)), (3, .ref ao), (4, .ref ad), (5, .int x5)]) : W p l e room_1 s m #[Value.ref b] below meth c H locs (60 + 2 * j) (3000 + 12 * j) Q (F0 m 1834 ls []) := by
  have hA : ∀ q : Nat, s.heap.size ≤ q → kA s q := fun _ h => h
  have hbA : ¬ kA s b := Nat.not_le.mpr hbl
  have hK := hKL.KK
  obtain ⟨o, bm, τn, ex, em, hE, hth, hvb, hP9⟩ := ag
  refine lv_aload_n G.1 G.2.1 dL_law_1834 rfl (lv_at hl 1 rfl) ?_
  refine lv_aload_n G.1 G.2.1 dL_law_1835 rfl (lv_at hl 0 rfl) ?_
  refine lv_iload G.1 G.2.1 dL_law_1836 (lv_at hl 5 rfl) ?_
  refine lv_iconst (v := (1 : Int32)) G.1 G.2.1 dL_law_1838 (by decide) ?_
  refine lv_iadd G.1 G.2.1 dL_law_1839 ?_
  refine va_sld G.1 G.2.1 hXs hbl hbA hW.2.2 v1 dL_law_1840 ?_
  rw [e1]
  refine lv_aload_n G.1 G.2.1 dL_law_1841 rfl (lv_at hl 0 rfl) ?_
  refine lv_iload G.1 G.2.1 dL_law_1842 (lv_at hl 5 rfl) ?_
  refine lv_iconst (v := (2 : Int32)) G.1 G.2.1 dL_law_1844 (by decide) ?_
  refine lv_iadd G.1 G.2.1 dL_law_1845 ?_
  refine va_sld G.1 G.2.1 hXs hbl hbA hW.2.2 v2 dL_law_1846 ?_
  rw [e2]
  refine lv_aload_n G.1 G.2.1 dL_law_1847 rfl (lv_at hl 3 rfl) ?_
  refine kl_w (wr := ([(ad, .inl (cd, 1, .inr (.inr (.inr (.inl g)))))] ++ (wC cy h2 σ2 ++ wM cy hm τ))) (w := ((ao, .inl (cl, 1, .inr (.inl f))) :: wB cy h (h2 103) σ)) (w' := ((ao, .inl (cl, 1, .inr (.inl (woL o f)))) :: wB cy h (h2 103) (wst o))) (n := 4) (As := [.ref (h 104), .int a1, .int a2, .ref ao]) (rest := []) G hKL hX hA (pmL_in hW) (mL_blockStarts l hT D cy cl cd h (h2 103) ao _ n σ f a1 a2 ex (fun E u h9 => by have h8 := hE E u h9; simpa only [List.mem_cons, List.not_mem_nil, or_false] using h8)) (gSW q_31_16 q_31_17 q_4_12 q_31_18) ⟨rfl, rfl⟩ (by decide +kernel) ⟨Nat.le_of_ble_eq_true rfl, Nat.le_of_ble_eq_true rfl⟩ rfl hl.1 rfl (Nat.le_of_ble_eq_true rfl) dL_law_1848 ⟨by show _ ≤ 3160; omega, by show _ ≤ 121633; omega⟩ (fun H locs hW => ?_)
  replace hW := pmL_out (f := (woL o f)) (g := g) (σ2 := σ2) (σ := (wst o)) (τ := τ) hW
  refine lv_istore (lv' := [(6, .int (wcd [xIA] o)), (0, .ref b), (1, .ref (h 104)), (2, .ref (hm 10)), (3, .ref ao), (4, .ref ad), (5, .int x5)]) G.1 G.2.1 dL_law_1851 hl (by decide) rfl (fun ls hl => ?_)
  refine lv_aload_n G.1 G.2.1 dL_law_1853 rfl (lv_at hl 3 rfl) ?_
  refine lv_aload_n G.1 G.2.1 dL_law_1854 rfl (lv_at hl 1 rfl) ?_
  refine lv_iload G.1 G.2.1 dL_law_1855 (lv_at hl 6 rfl) ?_
  refine lv_iconst (v := (1 : Int32)) G.1 G.2.1 dL_law_1857 (by decide) ?_
  refine lv_iadd G.1 G.2.1 dL_law_1858 ?_
  refine va_sld G.1 G.2.1 hXs hbl hbA hW.2.2 v1 dL_law_1859 ?_
  rw [e1]
  refine lv_aload_n G.1 G.2.1 dL_law_1860 rfl (lv_at hl 1 rfl) ?_
  refine lv_iload G.1 G.2.1 dL_law_1861 (lv_at hl 6 rfl) ?_
  refine lv_iconst (v := (2 : Int32)) G.1 G.2.1 dL_law_1863 (by decide) ?_
  refine lv_iadd G.1 G.2.1 dL_law_1864 ?_
  refine va_sld G.1 G.2.1 hXs hbl hbA hW.2.2 v2 dL_law_1865 ?_
  rw [e2]
  refine kc_i (wr := ((ao, .inl (cl, 1, .inr (.inl (woL o f)))) :: (ad, .inl (cd, 1, .inr (.inr (.inr (.inl g))))) :: wBB cy h h2 σ2 (wst o))) (w := wM cy hm τ) (w' := wM cy hm τn) (n := 2) (As := [.int a1, .int a2]) (rest := []) (C := RX5) G hK hA hW (mX5_blockStarts l D cy hm _ n τ a1 a2 em) (gV q_32_4 q_32_5 q_32_6 q_1_5 q_32_7) ⟨rfl, rfl⟩ (by decide +kernel) ⟨Nat.le_of_ble_eq_true rfl, Nat.le_of_ble_eq_true rfl⟩ (va_recv hK.1 hW.1 (ci := 7) (q0 := 55) rfl rfl) rfl hl.1 rfl (Nat.le_of_ble_eq_true rfl) dL_law_1866 ⟨by show _ ≤ 3160; omega, by show _ ≤ 121633; omega⟩ (fun H locs hW => ?_)
  replace hW : KW D (kA s) s.heap (wLaw cy cl cd ao ad h h2 hm (woL o f) g σ2 (wst o) τn) H locs := hW
  refine lv_istore (lv' := [(7, .int bm), (6, .int (wcd [xIA] o)), (0, .ref b), (1, .ref (h 104)), (2, .ref (hm 10)), (3, .ref ao), (4, .ref ad), (5, .int x5)]) G.1 G.2.1 dL_law_1869 hl (by decide) rfl (fun ls hl => ?_)
  refine lv_aload_n G.1 G.2.1 dL_law_1871 rfl (lv_at hl 4 rfl) ?_
  refine kc_i (wr := ((ao, .inl (cl, 1, .inr (.inl (woL o f)))) :: (ad, .inl (cd, 1, .inr (.inr (.inr (.inl g))))) :: wBB cy h h2 σ2 (wst o))) (w := wM cy hm τn) (w' := wM cy hm τn) (n := 0) (As := []) (rest := []) (C := RX5) G hK hA hW (mX5_thrown l D cy hm _ n τn  (show fX5_thrown n τn = some (τn 6 0) from rfl)) (gV q_10_9 q_10_10 q_10_11 q_1_5 q_10_12) ⟨rfl, rfl⟩ (by decide +kernel) ⟨Nat.le_of_ble_eq_true rfl, Nat.le_of_ble_eq_true rfl⟩ (va_recv hK.1 hW.1 (ci := 7) (q0 := 55) rfl rfl) rfl hl.1 rfl (Nat.le_of_ble_eq_true rfl) dL_law_1872 ⟨by show _ ≤ 3160; omega, by show _ ≤ 121633; omega⟩ (fun H locs hW => ?_)
  replace hW : KW D (kA s) s.heap (wLaw cy cl cd ao ad h h2 hm (woL o f) g σ2 (wst o) τn) H locs := hW
  refine lv_iload G.1 G.2.1 dL_law_1875 (lv_at hl 1 rfl) ?_
  refine lv_icmp_eq (tgt := 1882) G.1 G.2.1 dL_law_1877 (by decide) (fun c9 => ?_) (fun c9 => absurd hth c9)
  refine lv_iload G.1 G.2.1 dL_law_1882 (lv_at hl 1 rfl) ?_
  refine lv_if_ne (tgt := 1899) G.1 G.2.1 dL_law_1884 (by decide) (fun c9 => ?_) (fun c9 => ?_)
  · skip
    refine lv_goto (tgt := 2082) G.1 G.2.1 dL_law_1899 (by decide) ?_
    refine W.widen (k := 62 + 2 * j) (n := 3012 + 12 * j) (by omega) (by omega) ?_
    exact K _ _ _ _ _ _ _ hP9 hW (lv_sub hl [2, 3, 4, 5, 6, 7] rfl)
  · obtain ⟨v9, u9, rfl⟩ := wcd_1 hE c9
    have hvb9 : v9 = bm := hvb v9 u9 rfl
    subst hvb9
    refine lv_aload_n G.1 G.2.1 dL_law_1887 rfl (lv_at hl 5 rfl) ?_
    refine lv_iconst (v := (0 : Int32)) G.1 G.2.1 dL_law_1888 (by decide) ?_
    refine va_lald G.1 G.2.1 hKL.1 hW.1 0 1 rfl rfl k_in01 dL_law_1889 ?_
    refine lv_iload G.1 G.2.1 dL_law_1890 (lv_at hl 0 rfl) ?_
    refine lv_i2l (v := (v9).toInt64) G.1 G.2.1 dL_law_1892 rfl ?_
    refine W.lcmp G.1 G.2.1 dL_law_1893 ?_
    have cmp9 : lg_cmp (woL (.inr (v9, u9)) f (0 : Int32).toNatClampNeg) v9.toInt64 = 0 := k_cmp0 f v9 u9
    refine lv_if_eq (tgt := 1899) G.1 G.2.1 dL_law_1894 (by decide) (fun c9 => ?_) (fun c9 => absurd cmp9 c9)
    refine lv_goto (tgt := 2082) G.1 G.2.1 dL_law_1899 (by decide) ?_
    refine W.widen (k := 62 + 2 * j) (n := 3012 + 12 * j) (by omega) (by omega) ?_
    exact K _ _ _ _ _ _ _ hP9 hW (lv_sub hl [2, 3, 4, 5, 6, 7] rfl)

set_option maxHeartbeats 4000000 in
set_option maxRecDepth 100000 in
theorem law_c31 (hT : l.stackTraces = false) (G : CallFix p m c cL_law 9 s #[Value.ref b] wA RL) (hXs : va_X b L xs s s.heap) (hbl : b < s.heap.size) (hKL : KL D cy cl cd s) (hX : KX (kA s) s) (n : Nat) (hj : j < 512) (P : St → St → Prop) (ag : AgI [xNS] (fX4_busiestBlock n σ) (fX5_busiestBlock n τ) P) (K : ∀ (f' : Nat → Int64) (g' : Nat → UInt64) (σ' τ' : St) (H : Heap) (locs : List Loc) (ls : Array Slot), P σ' τ' → KW D (kA s) s.heap (wLaw cy cl cd ao ad h h2 hm f' g' σ2 σ' τ') H locs → lv_has ls 9 [(0, .ref b), (1, .ref (h 104)), (2, .ref (hm 10)), (3, .ref ao), (4, .ref ad), (5, .int x5)] → W p l e room_1 s m #[Value.ref b] below meth c H locs (62 + 2 * j) (3012 + 12 * j) Q (F0 m 2082 ls [])) (hW : KW D (kA s) s.heap (wLaw cy cl cd ao ad h h2 hm f g σ2 σ τ) H locs) (hl : lv_has ls 9 [(0, .ref b), (1, .ref (h 104)), (2, .ref (hm 10)), (3, .ref ao), (4, .ref ad), (5, .int x5)]) : W p l e room_1 s m #[Value.ref b] below meth c H locs (60 + 2 * j) (3000 + 12 * j) Q (F0 m 1902 ls []) := by
  have hA : ∀ q : Nat, s.heap.size ≤ q → kA s q := fun _ h => h
  have hbA : ¬ kA s b := Nat.not_le.mpr hbl
  have hK := hKL.KK
  obtain ⟨o, bm, τn, ex, em, hE, hth, hvb, hP9⟩ := ag
  refine lv_aload_n G.1 G.2.1 dL_law_1902 rfl (lv_at hl 1 rfl) ?_
  refine lv_aload_n G.1 G.2.1 dL_law_1903 rfl (lv_at hl 3 rfl) ?_
  refine kl_w (wr := ([(ad, .inl (cd, 1, .inr (.inr (.inr (.inl g)))))] ++ (wC cy h2 σ2 ++ wM cy hm τ))) (w := ((ao, .inl (cl, 1, .inr (.inl f))) :: wB cy h (h2 103) σ)) (w' := ((ao, .inl (cl, 1, .inr (.inl (woL o f)))) :: wB cy h (h2 103) (wst o))) (n := 2) (As := [.ref (h 104), .ref ao]) (rest := []) G hKL hX hA (pmL_in hW) (mL_busiestBlock l hT D cy cl cd h (h2 103) ao _ n σ f  ex (fun E u h9 => by have h8 := hE E u h9; simpa only [List.mem_cons, List.not_mem_nil, or_false] using h8)) (gSW q_32_8 q_32_9 q_4_12 q_32_10) ⟨rfl, rfl⟩ (by decide +kernel) ⟨Nat.le_of_ble_eq_true rfl, Nat.le_of_ble_eq_true rfl⟩ rfl hl.1 rfl (Nat.le_of_ble_eq_true rfl) dL_law_1904 ⟨by show _ ≤ 3160; omega, by show _ ≤ 121633; omega⟩ (fun H locs hW => ?_)
  replace hW := pmL_out (f := (woL o f)) (g := g) (σ2 := σ2) (σ := (wst o)) (τ := τ) hW
  refine lv_istore (lv' := [(6, .int (wcd [xNS] o)), (0, .ref b), (1, .ref (h 104)), (2, .ref (hm 10)), (3, .ref ao), (4, .ref ad), (5, .int x5)]) G.1 G.2.1 dL_law_1907 hl (by decide) rfl (fun ls hl => ?_)
  refine lv_aload_n G.1 G.2.1 dL_law_1909 rfl (lv_at hl 3 rfl) ?_
  refine kc_i (wr := ((ao, .inl (cl, 1, .inr (.inl (woL o f)))) :: (ad, .inl (cd, 1, .inr (.inr (.inr (.inl g))))) :: wBB cy h h2 σ2 (wst o))) (w := wM cy hm τ) (w' := wM cy hm τn) (n := 0) (As := []) (rest := []) (C := RX5) G hK hA hW (mX5_busiestBlock l D cy hm _ n τ  em) (gV q_32_15 q_32_16 q_32_17 q_1_5 q_32_18) ⟨rfl, rfl⟩ (by decide +kernel) ⟨Nat.le_of_ble_eq_true rfl, Nat.le_of_ble_eq_true rfl⟩ (va_recv hK.1 hW.1 (ci := 7) (q0 := 55) rfl rfl) rfl hl.1 rfl (Nat.le_of_ble_eq_true rfl) dL_law_1910 ⟨by show _ ≤ 3160; omega, by show _ ≤ 121633; omega⟩ (fun H locs hW => ?_)
  replace hW : KW D (kA s) s.heap (wLaw cy cl cd ao ad h h2 hm (woL o f) g σ2 (wst o) τn) H locs := hW
  refine lv_istore (lv' := [(7, .int bm), (6, .int (wcd [xNS] o)), (0, .ref b), (1, .ref (h 104)), (2, .ref (hm 10)), (3, .ref ao), (4, .ref ad), (5, .int x5)]) G.1 G.2.1 dL_law_1913 hl (by decide) rfl (fun ls hl => ?_)
  refine lv_aload_n G.1 G.2.1 dL_law_1915 rfl (lv_at hl 4 rfl) ?_
  refine kc_i (wr := ((ao, .inl (cl, 1, .inr (.inl (woL o f)))) :: (ad, .inl (cd, 1, .inr (.inr (.inr (.inl g))))) :: wBB cy h h2 σ2 (wst o))) (w := wM cy hm τn) (w' := wM cy hm τn) (n := 0) (As := []) (rest := []) (C := RX5) G hK hA hW (mX5_thrown l D cy hm _ n τn  (show fX5_thrown n τn = some (τn 6 0) from rfl)) (gV q_10_9 q_10_10 q_10_11 q_1_5 q_10_12) ⟨rfl, rfl⟩ (by decide +kernel) ⟨Nat.le_of_ble_eq_true rfl, Nat.le_of_ble_eq_true rfl⟩ (va_recv hK.1 hW.1 (ci := 7) (q0 := 55) rfl rfl) rfl hl.1 rfl (Nat.le_of_ble_eq_true rfl) dL_law_1916 ⟨by show _ ≤ 3160; omega, by show _ ≤ 121633; omega⟩ (fun H locs hW => ?_)
  replace hW : KW D (kA s) s.heap (wLaw cy cl cd ao ad h h2 hm (woL o f) g σ2 (wst o) τn) H locs := hW
  refine lv_iload G.1 G.2.1 dL_law_1919 (lv_at hl 1 rfl) ?_
  refine lv_icmp_eq (tgt := 1926) G.1 G.2.1 dL_law_1921 (by decide) (fun c9 => ?_) (fun c9 => absurd hth c9)
  refine lv_iload G.1 G.2.1 dL_law_1926 (lv_at hl 1 rfl) ?_
  refine lv_if_ne (tgt := 1943) G.1 G.2.1 dL_law_1928 (by decide) (fun c9 => ?_) (fun c9 => ?_)
  · skip
    refine lv_goto (tgt := 2082) G.1 G.2.1 dL_law_1943 (by decide) ?_
    refine W.widen (k := 62 + 2 * j) (n := 3012 + 12 * j) (by omega) (by omega) ?_
    exact K _ _ _ _ _ _ _ hP9 hW (lv_sub hl [2, 3, 4, 5, 6, 7] rfl)
  · obtain ⟨v9, u9, rfl⟩ := wcd_1 hE c9
    have hvb9 : v9 = bm := hvb v9 u9 rfl
    subst hvb9
    refine lv_aload_n G.1 G.2.1 dL_law_1931 rfl (lv_at hl 5 rfl) ?_
    refine lv_iconst (v := (0 : Int32)) G.1 G.2.1 dL_law_1932 (by decide) ?_
    refine va_lald G.1 G.2.1 hKL.1 hW.1 0 1 rfl rfl k_in01 dL_law_1933 ?_
    refine lv_iload G.1 G.2.1 dL_law_1934 (lv_at hl 0 rfl) ?_
    refine lv_i2l (v := (v9).toInt64) G.1 G.2.1 dL_law_1936 rfl ?_
    refine W.lcmp G.1 G.2.1 dL_law_1937 ?_
    have cmp9 : lg_cmp (woL (.inr (v9, u9)) f (0 : Int32).toNatClampNeg) v9.toInt64 = 0 := k_cmp0 f v9 u9
    refine lv_if_eq (tgt := 1943) G.1 G.2.1 dL_law_1938 (by decide) (fun c9 => ?_) (fun c9 => absurd cmp9 c9)
    refine lv_goto (tgt := 2082) G.1 G.2.1 dL_law_1943 (by decide) ?_
    refine W.widen (k := 62 + 2 * j) (n := 3012 + 12 * j) (by omega) (by omega) ?_
    exact K _ _ _ _ _ _ _ hP9 hW (lv_sub hl [2, 3, 4, 5, 6, 7] rfl)

set_option maxHeartbeats 4000000 in
set_option maxRecDepth 100000 in
theorem law_c32 (hT : l.stackTraces = false) (G : CallFix p m c cL_law 9 s #[Value.ref b] wA RL) (hXs : va_X b L xs s s.heap) (hbl : b < s.heap.size) (hKL : KL D cy cl cd s) (hX : KX (kA s) s) (n : Nat) (hj : j < 512) (P : St → St → Prop) (ag : ∃ v τ', fX4_eventCount n σ = some v ∧ fX5_eventCount n τ = some (v, τ') ∧ P σ τ') (K : ∀ (f' : Nat → Int64) (g' : Nat → UInt64) (σ' τ' : St) (H : Heap) (locs : List Loc) (ls : Array Slot), P σ' τ' → KW D (kA s) s.heap (wLaw cy cl cd ao ad h h2 hm f' g' σ2 σ' τ') H locs → lv_has ls 9 [(0, .ref b), (1, .ref (h 104)), (2, .ref (hm 10)), (3, .ref ao), (4, .ref ad), (5, .int x5)] → W p l e room_1 s m #[Value.ref b] below meth c H locs (62 + 2 * j) (3012 + 12 * j) Q (F0 m 2082 ls [])) (hW : KW D (kA s) s.heap (wLaw cy cl cd ao ad h h2 hm f g σ2 σ τ) H locs) (hl : lv_has ls 9 [(0, .ref b), (1, .ref (h 104)), (2, .ref (hm 10)), (3, .ref ao), (4, .ref ad), (5, .int x5)]) : W p l e room_1 s m #[Value.ref b] below meth c H locs (60 + 2 * j) (3000 + 12 * j) Q (F0 m 1946 ls []) := by
  have hA : ∀ q : Nat, s.heap.size ≤ q → kA s q := fun _ h => h
  have hbA : ¬ kA s b := Nat.not_le.mpr hbl
  have hK := hKL.KK
  obtain ⟨vx, τn, ex, em, hP9⟩ := ag
  refine lv_aload_n G.1 G.2.1 dL_law_1946 rfl (lv_at hl 1 rfl) ?_
  refine kc_i (wr := ([(ao, .inl (cl, 1, .inr (.inl f))), (ad, .inl (cd, 1, .inr (.inr (.inr (.inl g)))))] ++ (wC cy h2 σ2 ++ wM cy hm τ))) (w := (wB cy h (h2 103) σ)) (w' := (wB cy h (h2 103) σ)) (n := 0) (As := []) (rest := []) (C := RX4) G hK hA (pmN_in hW) (mX4_eventCount l D cy h (h2 103) _ n σ  ex) (gV q_32_19 q_32_20 q_32_21 q_1_2 q_32_22) ⟨rfl, rfl⟩ (by decide +kernel) ⟨Nat.le_of_ble_eq_true rfl, Nat.le_of_ble_eq_true rfl⟩ (va_recv hK.1 hW.1 (ci := 6) (q0 := 2) rfl rfl) rfl hl.1 rfl (Nat.le_of_ble_eq_true rfl) dL_law_1947 ⟨by show _ ≤ 3160; omega, by show _ ≤ 121633; omega⟩ (fun H locs hW => ?_)
  replace hW := pmN_out (f := f) (g := g) (σ2 := σ2) (σ := σ) (τ := τ) hW
  refine lv_aload_n G.1 G.2.1 dL_law_1950 rfl (lv_at hl 2 rfl) ?_
  refine kc_i (wr := ((ao, .inl (cl, 1, .inr (.inl f))) :: (ad, .inl (cd, 1, .inr (.inr (.inr (.inl g))))) :: wBB cy h h2 σ2 σ)) (w := wM cy hm τ) (w' := wM cy hm τn) (n := 0) (As := []) (rest := [.int vx]) (C := RX5) G hK hA hW (mX5_eventCount l D cy hm _ n τ  em) (gV q_33_1 q_33_2 q_33_3 q_1_5 q_33_4) ⟨rfl, rfl⟩ (by decide +kernel) ⟨Nat.le_of_ble_eq_true rfl, Nat.le_of_ble_eq_true rfl⟩ (va_recv hK.1 hW.1 (ci := 7) (q0 := 55) rfl rfl) rfl hl.1 rfl (Nat.le_of_ble_eq_true rfl) dL_law_1951 ⟨by show _ ≤ 3160; omega, by show _ ≤ 121633; omega⟩ (fun H locs hW => ?_)
  replace hW : KW D (kA s) s.heap (wLaw cy cl cd ao ad h h2 hm f g σ2 σ τn) H locs := hW
  refine lv_icmp_eq (tgt := 2082) G.1 G.2.1 dL_law_1954 (by decide) (fun c9 => ?_) (fun c9 => absurd rfl c9)
  refine W.widen (k := 62 + 2 * j) (n := 3012 + 12 * j) (by omega) (by omega) ?_
  exact K _ _ _ _ _ _ _ hP9 hW (lv_sub hl [0, 1, 2, 3, 4, 5] rfl)

set_option maxHeartbeats 4000000 in
set_option maxRecDepth 100000 in
theorem law_c33 (hT : l.stackTraces = false) (G : CallFix p m c cL_law 9 s #[Value.ref b] wA RL) (hXs : va_X b L xs s s.heap) (hbl : b < s.heap.size) (hKL : KL D cy cl cd s) (hX : KX (kA s) s) (n : Nat) (hj : j < 512) {a1 a2 : Int32} (v1 : vp_in (x5 + (1 : Int32)) L) (e1 : xs (x5 + (1 : Int32)).toNatClampNeg = a1) (v2 : vp_in (x5 + (2 : Int32)) L) (e2 : xs (x5 + (2 : Int32)).toNatClampNeg = a2) (P : St → St → Prop) (ag : AgI [xIO] (fX4_event n σ a1 a2) (fX5_event n τ a1 a2) P) (K : ∀ (f' : Nat → Int64) (g' : Nat → UInt64) (σ' τ' : St) (H : Heap) (locs : List Loc) (ls : Array Slot), P σ' τ' → KW D (kA s) s.heap (wLaw cy cl cd ao ad h h2 hm f' g' σ2 σ' τ') H locs → lv_has ls 9 [(0, .ref b), (1, .ref (h 104)), (2, .ref (hm 10)), (3, .ref ao), (4, .ref ad), (5, .int x5)] → W p l e room_1 s m #[Value.ref b] below meth c H locs (62 + 2 * j) (3012 + 12 * j) Q (F0 m 2082 ls [])) (hW : KW D (kA s) s.heap (wLaw cy cl cd ao ad h h2 hm f g σ2 σ τ) H locs) (hl : lv_has ls 9 [(0, .ref b), (1, .ref (h 104)), (2, .ref (hm 10)), (3, .ref ao), (4, .ref ad), (5, .int x5)]) : W p l e room_1 s m #[Value.ref b] below meth c H locs (60 + 2 * j) (3000 + 12 * j) Q (F0 m 1959 ls []) := by
  have hA : ∀ q : Nat, s.heap.size ≤ q → kA s q := fun _ h => h
  have hbA : ¬ kA s b := Nat.not_le.mpr hbl
  have hK := hKL.KK
  obtain ⟨o, bm, τn, ex, em, hE, hth, hvb, hP9⟩ := ag
  refine lv_aload_n G.1 G.2.1 dL_law_1959 rfl (lv_at hl 1 rfl) ?_
  refine lv_aload_n G.1 G.2.1 dL_law_1960 rfl (lv_at hl 0 rfl) ?_
  refine lv_iload G.1 G.2.1 dL_law_1961 (lv_at hl 5 rfl) ?_
  refine lv_iconst (v := (1 : Int32)) G.1 G.2.1 dL_law_1963 (by decide) ?_
  refine lv_iadd G.1 G.2.1 dL_law_1964 ?_
  refine va_sld G.1 G.2.1 hXs hbl hbA hW.2.2 v1 dL_law_1965 ?_
  rw [e1]
  refine lv_aload_n G.1 G.2.1 dL_law_1966 rfl (lv_at hl 0 rfl) ?_
  refine lv_iload G.1 G.2.1 dL_law_1967 (lv_at hl 5 rfl) ?_
  refine lv_iconst (v := (2 : Int32)) G.1 G.2.1 dL_law_1969 (by decide) ?_
  refine lv_iadd G.1 G.2.1 dL_law_1970 ?_
  refine va_sld G.1 G.2.1 hXs hbl hbA hW.2.2 v2 dL_law_1971 ?_
  rw [e2]
  refine lv_aload_n G.1 G.2.1 dL_law_1972 rfl (lv_at hl 3 rfl) ?_
  refine kl_w (wr := ([(ad, .inl (cd, 1, .inr (.inr (.inr (.inl g)))))] ++ (wC cy h2 σ2 ++ wM cy hm τ))) (w := ((ao, .inl (cl, 1, .inr (.inl f))) :: wB cy h (h2 103) σ)) (w' := ((ao, .inl (cl, 1, .inr (.inl (woL o f)))) :: wB cy h (h2 103) (wst o))) (n := 4) (As := [.ref (h 104), .int a1, .int a2, .ref ao]) (rest := []) G hKL hX hA (pmL_in hW) (mL_event l hT D cy cl cd h (h2 103) ao _ n σ f a1 a2 ex (fun E u h9 => by have h8 := hE E u h9; simpa only [List.mem_cons, List.not_mem_nil, or_false] using h8)) (gSW q_33_5 q_33_6 q_4_12 q_33_7) ⟨rfl, rfl⟩ (by decide +kernel) ⟨Nat.le_of_ble_eq_true rfl, Nat.le_of_ble_eq_true rfl⟩ rfl hl.1 rfl (Nat.le_of_ble_eq_true rfl) dL_law_1973 ⟨by show _ ≤ 3160; omega, by show _ ≤ 121633; omega⟩ (fun H locs hW => ?_)
  replace hW := pmL_out (f := (woL o f)) (g := g) (σ2 := σ2) (σ := (wst o)) (τ := τ) hW
  refine lv_istore (lv' := [(6, .int (wcd [xIO] o)), (0, .ref b), (1, .ref (h 104)), (2, .ref (hm 10)), (3, .ref ao), (4, .ref ad), (5, .int x5)]) G.1 G.2.1 dL_law_1976 hl (by decide) rfl (fun ls hl => ?_)
  refine lv_aload_n G.1 G.2.1 dL_law_1978 rfl (lv_at hl 3 rfl) ?_
  refine lv_aload_n G.1 G.2.1 dL_law_1979 rfl (lv_at hl 1 rfl) ?_
  refine lv_iload G.1 G.2.1 dL_law_1980 (lv_at hl 6 rfl) ?_
  refine lv_iconst (v := (1 : Int32)) G.1 G.2.1 dL_law_1982 (by decide) ?_
  refine lv_iadd G.1 G.2.1 dL_law_1983 ?_
  refine va_sld G.1 G.2.1 hXs hbl hbA hW.2.2 v1 dL_law_1984 ?_
  rw [e1]
  refine lv_aload_n G.1 G.2.1 dL_law_1985 rfl (lv_at hl 1 rfl) ?_
  refine lv_iload G.1 G.2.1 dL_law_1986 (lv_at hl 6 rfl) ?_
  refine lv_iconst (v := (2 : Int32)) G.1 G.2.1 dL_law_1988 (by decide) ?_
  refine lv_iadd G.1 G.2.1 dL_law_1989 ?_
  refine va_sld G.1 G.2.1 hXs hbl hbA hW.2.2 v2 dL_law_1990 ?_
  rw [e2]
  refine kc_i (wr := ((ao, .inl (cl, 1, .inr (.inl (woL o f)))) :: (ad, .inl (cd, 1, .inr (.inr (.inr (.inl g))))) :: wBB cy h h2 σ2 (wst o))) (w := wM cy hm τ) (w' := wM cy hm τn) (n := 2) (As := [.int a1, .int a2]) (rest := []) (C := RX5) G hK hA hW (mX5_event l D cy hm _ n τ a1 a2 em) (gV q_33_16 q_33_17 q_33_18 q_1_5 q_33_19) ⟨rfl, rfl⟩ (by decide +kernel) ⟨Nat.le_of_ble_eq_true rfl, Nat.le_of_ble_eq_true rfl⟩ (va_recv hK.1 hW.1 (ci := 7) (q0 := 55) rfl rfl) rfl hl.1 rfl (Nat.le_of_ble_eq_true rfl) dL_law_1991 ⟨by show _ ≤ 3160; omega, by show _ ≤ 121633; omega⟩ (fun H locs hW => ?_)
  replace hW : KW D (kA s) s.heap (wLaw cy cl cd ao ad h h2 hm (woL o f) g σ2 (wst o) τn) H locs := hW
  refine lv_istore (lv' := [(7, .int bm), (6, .int (wcd [xIO] o)), (0, .ref b), (1, .ref (h 104)), (2, .ref (hm 10)), (3, .ref ao), (4, .ref ad), (5, .int x5)]) G.1 G.2.1 dL_law_1994 hl (by decide) rfl (fun ls hl => ?_)
  refine lv_aload_n G.1 G.2.1 dL_law_1996 rfl (lv_at hl 4 rfl) ?_
  refine kc_i (wr := ((ao, .inl (cl, 1, .inr (.inl (woL o f)))) :: (ad, .inl (cd, 1, .inr (.inr (.inr (.inl g))))) :: wBB cy h h2 σ2 (wst o))) (w := wM cy hm τn) (w' := wM cy hm τn) (n := 0) (As := []) (rest := []) (C := RX5) G hK hA hW (mX5_thrown l D cy hm _ n τn  (show fX5_thrown n τn = some (τn 6 0) from rfl)) (gV q_10_9 q_10_10 q_10_11 q_1_5 q_10_12) ⟨rfl, rfl⟩ (by decide +kernel) ⟨Nat.le_of_ble_eq_true rfl, Nat.le_of_ble_eq_true rfl⟩ (va_recv hK.1 hW.1 (ci := 7) (q0 := 55) rfl rfl) rfl hl.1 rfl (Nat.le_of_ble_eq_true rfl) dL_law_1997 ⟨by show _ ≤ 3160; omega, by show _ ≤ 121633; omega⟩ (fun H locs hW => ?_)
  replace hW : KW D (kA s) s.heap (wLaw cy cl cd ao ad h h2 hm (woL o f) g σ2 (wst o) τn) H locs := hW
  refine lv_iload G.1 G.2.1 dL_law_2000 (lv_at hl 1 rfl) ?_
  refine lv_icmp_eq (tgt := 2007) G.1 G.2.1 dL_law_2002 (by decide) (fun c9 => ?_) (fun c9 => absurd hth c9)
  refine lv_iload G.1 G.2.1 dL_law_2007 (lv_at hl 1 rfl) ?_
  refine lv_if_ne (tgt := 2024) G.1 G.2.1 dL_law_2009 (by decide) (fun c9 => ?_) (fun c9 => ?_)
  · skip
    refine lv_goto (tgt := 2082) G.1 G.2.1 dL_law_2024 (by decide) ?_
    refine W.widen (k := 62 + 2 * j) (n := 3012 + 12 * j) (by omega) (by omega) ?_
    exact K _ _ _ _ _ _ _ hP9 hW (lv_sub hl [2, 3, 4, 5, 6, 7] rfl)
  · obtain ⟨v9, u9, rfl⟩ := wcd_1 hE c9
    have hvb9 : v9 = bm := hvb v9 u9 rfl
    subst hvb9
    refine lv_aload_n G.1 G.2.1 dL_law_2012 rfl (lv_at hl 5 rfl) ?_
    refine lv_iconst (v := (0 : Int32)) G.1 G.2.1 dL_law_2013 (by decide) ?_
    refine va_lald G.1 G.2.1 hKL.1 hW.1 0 1 rfl rfl k_in01 dL_law_2014 ?_
    refine lv_iload G.1 G.2.1 dL_law_2015 (lv_at hl 0 rfl) ?_
    refine lv_i2l (v := (v9).toInt64) G.1 G.2.1 dL_law_2017 rfl ?_
    refine W.lcmp G.1 G.2.1 dL_law_2018 ?_
    have cmp9 : lg_cmp (woL (.inr (v9, u9)) f (0 : Int32).toNatClampNeg) v9.toInt64 = 0 := k_cmp0 f v9 u9
    refine lv_if_eq (tgt := 2024) G.1 G.2.1 dL_law_2019 (by decide) (fun c9 => ?_) (fun c9 => absurd cmp9 c9)
    refine lv_goto (tgt := 2082) G.1 G.2.1 dL_law_2024 (by decide) ?_
    refine W.widen (k := 62 + 2 * j) (n := 3012 + 12 * j) (by omega) (by omega) ?_
    exact K _ _ _ _ _ _ _ hP9 hW (lv_sub hl [2, 3, 4, 5, 6, 7] rfl)

set_option maxHeartbeats 4000000 in
set_option maxRecDepth 100000 in
theorem law_c34 (hT : l.stackTraces = false) (G : CallFix p m c cL_law 9 s #[Value.ref b] wA RL) (hXs : va_X b L xs s s.heap) (hbl : b < s.heap.size) (hKL : KL D cy cl cd s) (hX : KX (kA s) s) (n : Nat) (hj : j < 512) (P : St → St → St → Prop) (ag : ∃ σ2' σ' τ', fX4_save n σ2 σ = some (σ2', σ') ∧ fX5_save n τ = some τ' ∧ P σ2' σ' τ') (K : ∀ (f' : Nat → Int64) (g' : Nat → UInt64) (σ2' : St) (σ' τ' : St) (H : Heap) (locs : List Loc) (ls : Array Slot), P σ2' σ' τ' → KW D (kA s) s.heap (wLaw cy cl cd ao ad h h2 hm f' g' σ2' σ' τ') H locs → lv_has ls 9 [(0, .ref b), (1, .ref (h 104)), (2, .ref (hm 10)), (3, .ref ao), (4, .ref ad), (5, .int x5)] → W p l e room_1 s m #[Value.ref b] below meth c H locs (62 + 2 * j) (3012 + 12 * j) Q (F0 m 2082 ls [])) (hW : KW D (kA s) s.heap (wLaw cy cl cd ao ad h h2 hm f g σ2 σ τ) H locs) (hl : lv_has ls 9 [(0, .ref b), (1, .ref (h 104)), (2, .ref (hm 10)), (3, .ref ao), (4, .ref ad), (5, .int x5)]) : W p l e room_1 s m #[Value.ref b] below meth c H locs (60 + 2 * j) (3000 + 12 * j) Q (F0 m 2027 ls []) := by
  have hA : ∀ q : Nat, s.heap.size ≤ q → kA s q := fun _ h => h
  have hbA : ¬ kA s b := Nat.not_le.mpr hbl
  have hK := hKL.KK
  obtain ⟨σ2n, σn, τn, ex, em, hP9⟩ := ag
  refine lv_aload_n G.1 G.2.1 dL_law_2027 rfl (lv_at hl 1 rfl) ?_
  refine kc_v (wr := ([(ao, .inl (cl, 1, .inr (.inl f))), (ad, .inl (cd, 1, .inr (.inr (.inr (.inl g)))))] ++ wM cy hm τ)) (w := (wBB cy h h2 σ2 σ)) (w' := (wBB cy h h2 σ2n σn)) (n := 0) (As := []) (rest := []) (C := RX4) G hK hA (pmS_in hW) (mX4_save l D cy h h2 _ n σ2 σ ex) (gV q_33_20 q_33_21 q_33_22 q_1_2 q_33_23) ⟨rfl, rfl⟩ (by decide +kernel) ⟨Nat.le_of_ble_eq_true rfl, Nat.le_of_ble_eq_true rfl⟩ (va_recv hK.1 hW.1 (ci := 6) (q0 := 2) rfl rfl) rfl hl.1 rfl (Nat.le_of_ble_eq_true rfl) dL_law_2028 ⟨by show _ ≤ 3160; omega, by show _ ≤ 121633; omega⟩ (fun H locs hW => ?_)
  replace hW := pmS_out (f := f) (g := g) (σ2 := σ2n) (σ := σn) (τ := τ) hW
  refine lv_aload_n G.1 G.2.1 dL_law_2031 rfl (lv_at hl 2 rfl) ?_
  refine kc_v (wr := ((ao, .inl (cl, 1, .inr (.inl f))) :: (ad, .inl (cd, 1, .inr (.inr (.inr (.inl g))))) :: wBB cy h h2 σ2n σn)) (w := wM cy hm τ) (w' := wM cy hm τn) (n := 0) (As := []) (rest := []) (C := RX5) G hK hA hW (mX5_save l D cy hm _ n τ  em) (gV q_34_23 q_35_0 q_35_1 q_1_5 q_35_2) ⟨rfl, rfl⟩ (by decide +kernel) ⟨Nat.le_of_ble_eq_true rfl, Nat.le_of_ble_eq_true rfl⟩ (va_recv hK.1 hW.1 (ci := 7) (q0 := 55) rfl rfl) rfl hl.1 rfl (Nat.le_of_ble_eq_true rfl) dL_law_2032 ⟨by show _ ≤ 3160; omega, by show _ ≤ 121633; omega⟩ (fun H locs hW => ?_)
  replace hW : KW D (kA s) s.heap (wLaw cy cl cd ao ad h h2 hm f g σ2n σn τn) H locs := hW
  refine lv_goto (tgt := 2082) G.1 G.2.1 dL_law_2035 (by decide) ?_
  refine W.widen (k := 62 + 2 * j) (n := 3012 + 12 * j) (by omega) (by omega) ?_
  exact K _ _ _ _ _ _ _ _ hP9 hW (lv_sub hl [0, 1, 2, 3, 4, 5] rfl)

set_option maxHeartbeats 4000000 in
set_option maxRecDepth 100000 in
theorem law_c35 (hT : l.stackTraces = false) (G : CallFix p m c cL_law 9 s #[Value.ref b] wA RL) (hXs : va_X b L xs s s.heap) (hbl : b < s.heap.size) (hKL : KL D cy cl cd s) (hX : KX (kA s) s) (n : Nat) (hj : j < 512) (P : St → St → Prop) (ag : AgI [xIS] (fX4_restore n σ2 σ) (fX5_restore n τ) P) (K : ∀ (f' : Nat → Int64) (g' : Nat → UInt64) (σ' τ' : St) (H : Heap) (locs : List Loc) (ls : Array Slot), P σ' τ' → KW D (kA s) s.heap (wLaw cy cl cd ao ad h h2 hm f' g' σ2 σ' τ') H locs → lv_has ls 9 [(0, .ref b), (1, .ref (h 104)), (2, .ref (hm 10)), (3, .ref ao), (4, .ref ad), (5, .int x5)] → W p l e room_1 s m #[Value.ref b] below meth c H locs (62 + 2 * j) (3012 + 12 * j) Q (F0 m 2082 ls [])) (hW : KW D (kA s) s.heap (wLaw cy cl cd ao ad h h2 hm f g σ2 σ τ) H locs) (hl : lv_has ls 9 [(0, .ref b), (1, .ref (h 104)), (2, .ref (hm 10)), (3, .ref ao), (4, .ref ad), (5, .int x5)]) : W p l e room_1 s m #[Value.ref b] below meth c H locs (60 + 2 * j) (3000 + 12 * j) Q (F0 m 2038 ls []) := by
  have hA : ∀ q : Nat, s.heap.size ≤ q → kA s q := fun _ h => h
  have hbA : ¬ kA s b := Nat.not_le.mpr hbl
  have hK := hKL.KK
  obtain ⟨o, bm, τn, ex, em, hE, hth, hvb, hP9⟩ := ag
  refine lv_aload_n G.1 G.2.1 dL_law_2038 rfl (lv_at hl 1 rfl) ?_
  refine lv_aload_n G.1 G.2.1 dL_law_2039 rfl (lv_at hl 3 rfl) ?_
  refine kl_w (wr := ([(ad, .inl (cd, 1, .inr (.inr (.inr (.inl g)))))] ++ wM cy hm τ)) (w := ((ao, .inl (cl, 1, .inr (.inl f))) :: wBB cy h h2 σ2 σ)) (w' := ((ao, .inl (cl, 1, .inr (.inl (woL o f)))) :: wBB cy h h2 σ2 (wst o))) (n := 2) (As := [.ref (h 104), .ref ao]) (rest := []) G hKL hX hA (pmR_in hW) (mL_restore l hT D cy cl cd h h2 ao _ n σ2 σ f  ex (fun E u h9 => by have h8 := hE E u h9; simpa only [List.mem_cons, List.not_mem_nil, or_false] using h8)) (gSW q_35_4 q_35_5 q_4_12 q_35_6) ⟨rfl, rfl⟩ (by decide +kernel) ⟨Nat.le_of_ble_eq_true rfl, Nat.le_of_ble_eq_true rfl⟩ rfl hl.1 rfl (Nat.le_of_ble_eq_true rfl) dL_law_2040 ⟨by show _ ≤ 3160; omega, by show _ ≤ 121633; omega⟩ (fun H locs hW => ?_)
  replace hW := pmR_out (f := (woL o f)) (g := g) (σ2 := σ2) (σ := (wst o)) (τ := τ) hW
  refine lv_istore (lv' := [(6, .int (wcd [xIS] o)), (0, .ref b), (1, .ref (h 104)), (2, .ref (hm 10)), (3, .ref ao), (4, .ref ad), (5, .int x5)]) G.1 G.2.1 dL_law_2043 hl (by decide) rfl (fun ls hl => ?_)
  refine lv_aload_n G.1 G.2.1 dL_law_2045 rfl (lv_at hl 3 rfl) ?_
  refine kc_i (wr := ((ao, .inl (cl, 1, .inr (.inl (woL o f)))) :: (ad, .inl (cd, 1, .inr (.inr (.inr (.inl g))))) :: wBB cy h h2 σ2 (wst o))) (w := wM cy hm τ) (w' := wM cy hm τn) (n := 0) (As := []) (rest := []) (C := RX5) G hK hA hW (mX5_restore l D cy hm _ n τ  em) (gV q_35_11 q_35_12 q_35_13 q_1_5 q_35_14) ⟨rfl, rfl⟩ (by decide +kernel) ⟨Nat.le_of_ble_eq_true rfl, Nat.le_of_ble_eq_true rfl⟩ (va_recv hK.1 hW.1 (ci := 7) (q0 := 55) rfl rfl) rfl hl.1 rfl (Nat.le_of_ble_eq_true rfl) dL_law_2046 ⟨by show _ ≤ 3160; omega, by show _ ≤ 121633; omega⟩ (fun H locs hW => ?_)
  replace hW : KW D (kA s) s.heap (wLaw cy cl cd ao ad h h2 hm (woL o f) g σ2 (wst o) τn) H locs := hW
  refine lv_istore (lv' := [(7, .int bm), (6, .int (wcd [xIS] o)), (0, .ref b), (1, .ref (h 104)), (2, .ref (hm 10)), (3, .ref ao), (4, .ref ad), (5, .int x5)]) G.1 G.2.1 dL_law_2049 hl (by decide) rfl (fun ls hl => ?_)
  refine lv_aload_n G.1 G.2.1 dL_law_2051 rfl (lv_at hl 4 rfl) ?_
  refine kc_i (wr := ((ao, .inl (cl, 1, .inr (.inl (woL o f)))) :: (ad, .inl (cd, 1, .inr (.inr (.inr (.inl g))))) :: wBB cy h h2 σ2 (wst o))) (w := wM cy hm τn) (w' := wM cy hm τn) (n := 0) (As := []) (rest := []) (C := RX5) G hK hA hW (mX5_thrown l D cy hm _ n τn  (show fX5_thrown n τn = some (τn 6 0) from rfl)) (gV q_10_9 q_10_10 q_10_11 q_1_5 q_10_12) ⟨rfl, rfl⟩ (by decide +kernel) ⟨Nat.le_of_ble_eq_true rfl, Nat.le_of_ble_eq_true rfl⟩ (va_recv hK.1 hW.1 (ci := 7) (q0 := 55) rfl rfl) rfl hl.1 rfl (Nat.le_of_ble_eq_true rfl) dL_law_2052 ⟨by show _ ≤ 3160; omega, by show _ ≤ 121633; omega⟩ (fun H locs hW => ?_)
  replace hW : KW D (kA s) s.heap (wLaw cy cl cd ao ad h h2 hm (woL o f) g σ2 (wst o) τn) H locs := hW
  refine lv_iload G.1 G.2.1 dL_law_2055 (lv_at hl 1 rfl) ?_
  refine lv_icmp_eq (tgt := 2062) G.1 G.2.1 dL_law_2057 (by decide) (fun c9 => ?_) (fun c9 => absurd hth c9)
  refine lv_iload G.1 G.2.1 dL_law_2062 (lv_at hl 1 rfl) ?_
  refine lv_if_ne (tgt := 2079) G.1 G.2.1 dL_law_2064 (by decide) (fun c9 => ?_) (fun c9 => ?_)
  · skip
    refine lv_goto (tgt := 2082) G.1 G.2.1 dL_law_2079 (by decide) ?_
    refine W.widen (k := 62 + 2 * j) (n := 3012 + 12 * j) (by omega) (by omega) ?_
    exact K _ _ _ _ _ _ _ hP9 hW (lv_sub hl [2, 3, 4, 5, 6, 7] rfl)
  · obtain ⟨v9, u9, rfl⟩ := wcd_1 hE c9
    have hvb9 : v9 = bm := hvb v9 u9 rfl
    subst hvb9
    refine lv_aload_n G.1 G.2.1 dL_law_2067 rfl (lv_at hl 5 rfl) ?_
    refine lv_iconst (v := (0 : Int32)) G.1 G.2.1 dL_law_2068 (by decide) ?_
    refine va_lald G.1 G.2.1 hKL.1 hW.1 0 1 rfl rfl k_in01 dL_law_2069 ?_
    refine lv_iload G.1 G.2.1 dL_law_2070 (lv_at hl 0 rfl) ?_
    refine lv_i2l (v := (v9).toInt64) G.1 G.2.1 dL_law_2072 rfl ?_
    refine W.lcmp G.1 G.2.1 dL_law_2073 ?_
    have cmp9 : lg_cmp (woL (.inr (v9, u9)) f (0 : Int32).toNatClampNeg) v9.toInt64 = 0 := k_cmp0 f v9 u9
    refine lv_if_eq (tgt := 2079) G.1 G.2.1 dL_law_2074 (by decide) (fun c9 => ?_) (fun c9 => absurd cmp9 c9)
    refine lv_goto (tgt := 2082) G.1 G.2.1 dL_law_2079 (by decide) ?_
    refine W.widen (k := 62 + 2 * j) (n := 3012 + 12 * j) (by omega) (by omega) ?_
    exact K _ _ _ _ _ _ _ hP9 hW (lv_sub hl [2, 3, 4, 5, 6, 7] rfl)

end LAWC
