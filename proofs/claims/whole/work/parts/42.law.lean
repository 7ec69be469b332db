/-! the law -/
def LE (p : Program) (s : State) (m : MethodId) (c : Code) (b L : Nat) (xs : Nat → Int32) (D : va_G) (cA : Nat → ClassId) : Prop :=
  p.tables.exec = Jvm.exec ∧ c.code = cL_law ∧ c.maxLocals = 4 ∧ s.vm.findClass RL = some m.cls ∧ (∀ w ∈ xU, w.before #[Value.ref b] s = true) ∧ va_X b L xs s s.heap ∧ b < s.heap.size ∧ va_K D vwCl (xty cA) s ∧ xN s ∧ xZA (fun q => s.heap.size ≤ q) s s.heap
theorem x_scr (x : Int32) : ∃ z : Int, x = xI z ∧ -2147483648 ≤ z ∧ z ≤ 2147483647 := ⟨x.toInt, (xI_of x).symm, by have := x.le_toInt; omega, by have := x.toInt_lt; omega⟩
theorem x_scl (x : Int64) : ∃ z : Int, x = xL z ∧ -9223372036854775808 ≤ z ∧ z ≤ 9223372036854775807 := ⟨x.toInt, (xL_of x).symm, by have := x.le_toInt; omega, by have := x.toInt_lt; omega⟩
set_option maxRecDepth 20000 in
set_option maxHeartbeats 1000000 in
theorem lc_sign {p : Program} {l : Launch} {e : Env} {s : State} {m : MethodId} {below : List Frame} {meth : Method} {c : Code} {Q : State → Prop} {D : va_G} {cA : Nat → ClassId} {b L : Nat} {xs : Nat → Int32} (hE : LE p s m c b L xs D cA) {ad : Nat → Nat} (hD : xD (fun q => s.heap.size ≤ q) 68 ad) {S : xSt} {M : MO} {en : Nat → va_E} {H : Heap} {locs : List Loc} (hC : CW cA ad en S) (hM : MW cA ad en M) (hR : MR S M) (hP : va_P D vwCl (xw 68 ad en) H) (hS : va_S (fun q => s.heap.size ≤ q) s.heap H locs) {i : Int} (hi : 0 ≤ i ∧ i + 6 ≤ L ∧ L ≤ 3072) {ls : Array Slot} (hl : lv_has ls 4 [(0, .ref b), (1, .ref (ad 0)), (2, .ref (ad 53)), (3, .int (xI i))])
    (kk : ∀ (S1 : xSt) (M1 : MO) (en1 : Nat → va_E) (H1 : Heap) (locs1 : List Loc), CW cA ad en1 S1 → MW cA ad en1 M1 → MR S1 M1 → va_P D vwCl (xw 68 ad en1) H1 → va_S (fun q => s.heap.size ≤ q) s.heap H1 locs1 → W p l e room_1 s m #[Value.ref b] below meth c H1 locs1 68 8593 Q (F0 m 2030 ls [])) : W p l e room_1 s m #[Value.ref b] below meth c H locs 68 8593 Q (F0 m 228 ls []) := by
  obtain ⟨hx, hb, hml, hown, hts, hX, hbl, hK, hN, hZ⟩ := hE
  have hA : ∀ q : Nat, s.heap.size ≤ q → (fun q : Nat => s.heap.size ≤ q) q := fun _ h => h
  have hbA : ¬ (fun q : Nat => s.heap.size ≤ q) b := Nat.not_le.mpr hbl
  have hW : WF S := hC.wf
  obtain ⟨z1, hz1, hr1⟩ := x_scr (xs ((xI (i + 1)).toNatClampNeg))
  obtain ⟨z2, hz2, hr2⟩ := x_scr (xs ((xI (i + 2)).toNatClampNeg))
  obtain ⟨z3, hz3, hr3⟩ := x_scr (xs ((xI (i + 3)).toNatClampNeg))
  obtain ⟨z4, hz4, hr4⟩ := x_scr (xs ((xI (i + 4)).toNatClampNeg))
  obtain ⟨z5, hz5, hr5⟩ := x_scr (xs ((xI (i + 5)).toNatClampNeg))
  refine lv_aload_n hx hb dL_law_228 rfl (lv_at hl 1 rfl) ?_
  refine lv_aload_n hx hb dL_law_229 rfl (lv_at hl 0 rfl) ?_
  refine lv_iload_n hx hb dL_law_230 rfl (lv_at hl 3 rfl) ?_
  refine x_iconst hx hb dL_law_231 ?_
  refine x_iadd hx hb dL_law_232 ?_
  refine va_sld hx hb hX hbl hbA hS (xI_in (by omega)) dL_law_233 ?_
  refine x_toi z1 hz1 ?_
  refine lv_aload_n hx hb dL_law_234 rfl (lv_at hl 0 rfl) ?_
  refine lv_iload_n hx hb dL_law_235 rfl (lv_at hl 3 rfl) ?_
  refine x_iconst hx hb dL_law_236 ?_
  refine x_iadd hx hb dL_law_237 ?_
  refine va_sld hx hb hX hbl hbA hS (xI_in (by omega)) dL_law_238 ?_
  refine x_toi z2 hz2 ?_
  refine xm_i (i := 0) (As := [.int (xI z1), .int (xI z2)]) (rest := []) ⟨hx, hb, hml, hown, hts⟩ hl.1 (c_X4_sign l D cA 68 ad en _ (by omega) hC z1 hr1 z2 hr2) k_X4_sign u_ml_RL_13 hK hN hP (by omega) hC.1 rfl rfl rfl rfl (Nat.le_of_ble_eq_true rfl) ⟨Nat.le_of_ble_eq_true rfl, Nat.le_of_ble_eq_true rfl⟩ ⟨Nat.le_of_ble_eq_true rfl, Nat.le_of_ble_eq_true rfl⟩ dL_law_239 hD hS hA (fun r1 ur1 H locs hpr1 hP hS => ?_)
  obtain ⟨ha1, hC, ho1⟩ := hpr1
  have hM := hM.ko ho1 (by omega)
  refine lv_aload_n hx hb dL_law_242 rfl (lv_at hl 2 rfl) ?_
  refine lv_aload_n hx hb dL_law_243 rfl (lv_at hl 0 rfl) ?_
  refine lv_iload_n hx hb dL_law_244 rfl (lv_at hl 3 rfl) ?_
  refine x_iconst hx hb dL_law_245 ?_
  refine x_iadd hx hb dL_law_246 ?_
  refine va_sld hx hb hX hbl hbA hS (xI_in (by omega)) dL_law_247 ?_
  refine x_toi z1 hz1 ?_
  refine lv_aload_n hx hb dL_law_248 rfl (lv_at hl 0 rfl) ?_
  refine lv_iload_n hx hb dL_law_249 rfl (lv_at hl 3 rfl) ?_
  refine x_iconst hx hb dL_law_250 ?_
  refine x_iadd hx hb dL_law_251 ?_
  refine va_sld hx hb hX hbl hbA hS (xI_in (by omega)) dL_law_252 ?_
  refine x_toi z2 hz2 ?_
  refine xm_i (i := 53) (As := [.int (xI z1), .int (xI z2)]) (rest := [.int r1]) ⟨hx, hb, hml, hown, hts⟩ hl.1 (c_X5_sign l D cA 68 ad ur1 _ (by omega) hM hW hR z1 hr1 z2 hr2) k_X5_sign u_ml_RL_17 hK hN hP (by omega) hM.1 rfl rfl rfl rfl (Nat.le_of_ble_eq_true rfl) ⟨Nat.le_of_ble_eq_true rfl, Nat.le_of_ble_eq_true rfl⟩ ⟨Nat.le_of_ble_eq_true rfl, Nat.le_of_ble_eq_true rfl⟩ dL_law_253 hD hS hA (fun r2 ur2 H locs hpr2 hP hS => ?_)
  obtain ⟨ha2, M1, hM, hR1, ho2⟩ := hpr2
  have hC := hC.far ho2 (by omega)
  exact lv_icmp_eq hx hb (tgt := 2030) dL_law_256 (by decide) (fun _ => kk _ _ _ _ _ hC hM hR1 hP hS) (fun q => absurd (ha1.trans ha2.symm) q)

set_option maxRecDepth 20000 in
set_option maxHeartbeats 1000000 in
theorem lc_signs {p : Program} {l : Launch} {e : Env} {s : State} {m : MethodId} {below : List Frame} {meth : Method} {c : Code} {Q : State → Prop} {D : va_G} {cA : Nat → ClassId} {b L : Nat} {xs : Nat → Int32} (hE : LE p s m c b L xs D cA) {ad : Nat → Nat} (hD : xD (fun q => s.heap.size ≤ q) 68 ad) {S : xSt} {M : MO} {en : Nat → va_E} {H : Heap} {locs : List Loc} (hC : CW cA ad en S) (hM : MW cA ad en M) (hR : MR S M) (hP : va_P D vwCl (xw 68 ad en) H) (hS : va_S (fun q => s.heap.size ≤ q) s.heap H locs) {i : Int} (hi : 0 ≤ i ∧ i + 6 ≤ L ∧ L ≤ 3072) {ls : Array Slot} (hl : lv_has ls 4 [(0, .ref b), (1, .ref (ad 0)), (2, .ref (ad 53)), (3, .int (xI i))])
    (kk : ∀ (S1 : xSt) (M1 : MO) (en1 : Nat → va_E) (H1 : Heap) (locs1 : List Loc), CW cA ad en1 S1 → MW cA ad en1 M1 → MR S1 M1 → va_P D vwCl (xw 68 ad en1) H1 → va_S (fun q => s.heap.size ≤ q) s.heap H1 locs1 → W p l e room_1 s m #[Value.ref b] below meth c H1 locs1 68 8593 Q (F0 m 2030 ls [])) : W p l e room_1 s m #[Value.ref b] below meth c H locs 68 8593 Q (F0 m 261 ls []) := by
  obtain ⟨hx, hb, hml, hown, hts, hX, hbl, hK, hN, hZ⟩ := hE
  have hA : ∀ q : Nat, s.heap.size ≤ q → (fun q : Nat => s.heap.size ≤ q) q := fun _ h => h
  have hbA : ¬ (fun q : Nat => s.heap.size ≤ q) b := Nat.not_le.mpr hbl
  have hW : WF S := hC.wf
  obtain ⟨z1, hz1, hr1⟩ := x_scr (xs ((xI (i + 1)).toNatClampNeg))
  obtain ⟨z2, hz2, hr2⟩ := x_scr (xs ((xI (i + 2)).toNatClampNeg))
  obtain ⟨z3, hz3, hr3⟩ := x_scr (xs ((xI (i + 3)).toNatClampNeg))
  obtain ⟨z4, hz4, hr4⟩ := x_scr (xs ((xI (i + 4)).toNatClampNeg))
  obtain ⟨z5, hz5, hr5⟩ := x_scr (xs ((xI (i + 5)).toNatClampNeg))
  refine lv_aload_n hx hb dL_law_261 rfl (lv_at hl 1 rfl) ?_
  refine lv_aload_n hx hb dL_law_262 rfl (lv_at hl 0 rfl) ?_
  refine lv_iload_n hx hb dL_law_263 rfl (lv_at hl 3 rfl) ?_
  refine x_iconst hx hb dL_law_264 ?_
  refine x_iadd hx hb dL_law_265 ?_
  refine va_sld hx hb hX hbl hbA hS (xI_in (by omega)) dL_law_266 ?_
  refine x_toi z1 hz1 ?_
  refine lv_aload_n hx hb dL_law_267 rfl (lv_at hl 0 rfl) ?_
  refine lv_iload_n hx hb dL_law_268 rfl (lv_at hl 3 rfl) ?_
  refine x_iconst hx hb dL_law_269 ?_
  refine x_iadd hx hb dL_law_270 ?_
  refine va_sld hx hb hX hbl hbA hS (xI_in (by omega)) dL_law_271 ?_
  refine x_toi z2 hz2 ?_
  refine lv_aload_n hx hb dL_law_272 rfl (lv_at hl 0 rfl) ?_
  refine lv_iload_n hx hb dL_law_273 rfl (lv_at hl 3 rfl) ?_
  refine x_iconst hx hb dL_law_274 ?_
  refine x_iadd hx hb dL_law_275 ?_
  refine va_sld hx hb hX hbl hbA hS (xI_in (by omega)) dL_law_276 ?_
  refine x_toi z3 hz3 ?_
  refine x_i2l hx hb dL_law_277 (by omega) ?_
  refine x_bipush hx hb dL_law_278 (by decide +kernel) ?_
  refine lv_lshl hx hb dL_law_280 rfl ?_
  refine lv_aload_n hx hb dL_law_281 rfl (lv_at hl 0 rfl) ?_
  refine lv_iload_n hx hb dL_law_282 rfl (lv_at hl 3 rfl) ?_
  refine x_iconst hx hb dL_law_283 ?_
  refine x_iadd hx hb dL_law_284 ?_
  refine va_sld hx hb hX hbl hbA hS (xI_in (by omega)) dL_law_285 ?_
  refine x_toi z4 hz4 ?_
  refine x_i2l hx hb dL_law_286 (by omega) ?_
  refine x_ldc2 hx hb hown (hts _ u_ko_RL_18) (k := 4294967295) (by decide +kernel) dL_law_287 ?_
  refine lv_land hx hb dL_law_290 ?_
  refine lv_lor hx hb dL_law_291 ?_
  refine xm_i (i := 0) (As := [.int (xI z1), .int (xI z2), .long ((xL z3 <<< ((xI 32).toInt64 &&& 63)) ||| (xL z4 &&& xL 4294967295))]) (rest := []) ⟨hx, hb, hml, hown, hts⟩ hl.1 (c_X4_signs l D cA 68 ad en _ (by omega) hC z1 hr1 z2 hr2 ((xL z3 <<< ((xI 32).toInt64 &&& 63)) ||| (xL z4 &&& xL 4294967295))) k_X4_signs u_ml_RL_20 hK hN hP (by omega) hC.1 rfl rfl rfl rfl (Nat.le_of_ble_eq_true rfl) ⟨Nat.le_of_ble_eq_true rfl, Nat.le_of_ble_eq_true rfl⟩ ⟨Nat.le_of_ble_eq_true rfl, Nat.le_of_ble_eq_true rfl⟩ dL_law_292 hD hS hA (fun r1 ur1 H locs hpr1 hP hS => ?_)
  obtain ⟨ha1, hC, ho1⟩ := hpr1
  have hM := hM.ko ho1 (by omega)
  refine lv_aload_n hx hb dL_law_295 rfl (lv_at hl 2 rfl) ?_
  refine lv_aload_n hx hb dL_law_296 rfl (lv_at hl 0 rfl) ?_
  refine lv_iload_n hx hb dL_law_297 rfl (lv_at hl 3 rfl) ?_
  refine x_iconst hx hb dL_law_298 ?_
  refine x_iadd hx hb dL_law_299 ?_
  refine va_sld hx hb hX hbl hbA hS (xI_in (by omega)) dL_law_300 ?_
  refine x_toi z1 hz1 ?_
  refine lv_aload_n hx hb dL_law_301 rfl (lv_at hl 0 rfl) ?_
  refine lv_iload_n hx hb dL_law_302 rfl (lv_at hl 3 rfl) ?_
  refine x_iconst hx hb dL_law_303 ?_
  refine x_iadd hx hb dL_law_304 ?_
  refine va_sld hx hb hX hbl hbA hS (xI_in (by omega)) dL_law_305 ?_
  refine x_toi z2 hz2 ?_
  refine lv_aload_n hx hb dL_law_306 rfl (lv_at hl 0 rfl) ?_
  refine lv_iload_n hx hb dL_law_307 rfl (lv_at hl 3 rfl) ?_
  refine x_iconst hx hb dL_law_308 ?_
  refine x_iadd hx hb dL_law_309 ?_
  refine va_sld hx hb hX hbl hbA hS (xI_in (by omega)) dL_law_310 ?_
  refine x_toi z3 hz3 ?_
  refine x_i2l hx hb dL_law_311 (by omega) ?_
  refine x_bipush hx hb dL_law_312 (by decide +kernel) ?_
  refine lv_lshl hx hb dL_law_314 rfl ?_
  refine lv_aload_n hx hb dL_law_315 rfl (lv_at hl 0 rfl) ?_
  refine lv_iload_n hx hb dL_law_316 rfl (lv_at hl 3 rfl) ?_
  refine x_iconst hx hb dL_law_317 ?_
  refine x_iadd hx hb dL_law_318 ?_
  refine va_sld hx hb hX hbl hbA hS (xI_in (by omega)) dL_law_319 ?_
  refine x_toi z4 hz4 ?_
  refine x_i2l hx hb dL_law_320 (by omega) ?_
  refine x_ldc2 hx hb hown (hts _ u_ko_RL_18) (k := 4294967295) (by decide +kernel) dL_law_321 ?_
  refine lv_land hx hb dL_law_324 ?_
  refine lv_lor hx hb dL_law_325 ?_
  refine xm_i (i := 53) (As := [.int (xI z1), .int (xI z2), .long ((xL z3 <<< ((xI 32).toInt64 &&& 63)) ||| (xL z4 &&& xL 4294967295))]) (rest := [.int r1]) ⟨hx, hb, hml, hown, hts⟩ hl.1 (c_X5_signs l D cA 68 ad ur1 _ (by omega) hM hW hR z1 hr1 z2 hr2 ((xL z3 <<< ((xI 32).toInt64 &&& 63)) ||| (xL z4 &&& xL 4294967295))) k_X5_signs u_ml_RL_24 hK hN hP (by omega) hM.1 rfl rfl rfl rfl (Nat.le_of_ble_eq_true rfl) ⟨Nat.le_of_ble_eq_true rfl, Nat.le_of_ble_eq_true rfl⟩ ⟨Nat.le_of_ble_eq_true rfl, Nat.le_of_ble_eq_true rfl⟩ dL_law_326 hD hS hA (fun r2 ur2 H locs hpr2 hP hS => ?_)
  obtain ⟨ha2, M1, hM, hR1, ho2⟩ := hpr2
  have hC := hC.far ho2 (by omega)
  exact lv_icmp_eq hx hb (tgt := 2030) dL_law_329 (by decide) (fun _ => kk _ _ _ _ _ hC hM hR1 hP hS) (fun q => absurd (ha1.trans ha2.symm) q)
