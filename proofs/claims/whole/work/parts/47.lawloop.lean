/-! the law: its loop -/
set_option maxRecDepth 20000 in
set_option maxHeartbeats 4000000 in
theorem law_loop {p : Program} {l : Launch} {e : Env} {s : State} {m : MethodId} {below : List Frame} {meth : Method} {c : Code} {Q : State → Prop} {D : va_G} {cA : Nat → ClassId} {b L : Nat} {xs : Nat → Int32} (hE : LE p s m c b L xs D cA) (hL : L ≤ 3072) {ad : Nat → Nat} (hD : xD (fun q => s.heap.size ≤ q) 68 ad)
    (kend : ∀ (H1 : Heap) (locs1 : List Loc) (ls : Array Slot), va_S (fun q => s.heap.size ≤ q) s.heap H1 locs1 → W p l e room_1 s m #[Value.ref b] below meth c H1 locs1 68 8593 Q (F0 m 2036 ls [])) :
    ∀ (nn : Nat) (i : Int) (S : xSt) (M : MO) (en : Nat → va_E) (H : Heap) (locs : List Loc), 0 ≤ i → i ≤ (L : Int) → ((L : Int) - i).toNat < nn → CW cA ad en S → MW cA ad en M → MR S M → va_P D vwCl (xw 68 ad en) H → va_S (fun q => s.heap.size ≤ q) s.heap H locs → ∀ ls : Array Slot, lv_has ls 4 [(0, .ref b), (1, .ref (ad 0)), (2, .ref (ad 53)), (3, .int (xI i))] → W p l e room_1 s m #[Value.ref b] below meth c H locs 68 8593 Q (F0 m 18 ls []) := by
  intro nn
  induction nn with
  | zero =>
    intro i S M en H locs h0 h1 hmm
    exact absurd hmm (Nat.not_lt_zero _)
  | succ nn ih =>
    intro i S M en H locs h0 h1 hmm hC hM hR hP hS ls hl
    obtain ⟨hx, hb, hml, hown, hts, hX, hbl, hK, hN, hZ⟩ := id hE
    have hbA : ¬ (fun q : Nat => s.heap.size ≤ q) b := Nat.not_le.mpr hbl
    refine lv_iload_n hx hb dL_law_18 rfl (lv_at hl 3 rfl) ?_
    refine lv_aload_n hx hb dL_law_19 rfl (lv_at hl 0 rfl) ?_
    refine va_slen hx hb hX hbl hbA hS dL_law_20 ?_
    refine x_toi (L : Int) (xI_nat L) ?_
    refine x_bipush hx hb dL_law_21 (by decide +kernel) ?_
    refine x_isub hx hb dL_law_23 ?_
    refine x_icmp_gt (tgt := 2036) hx hb dL_law_24 (by decide) (by omega) (fun _ => kend _ _ _ hS) (fun c_24 => ?_)
    have hi : 0 ≤ i ∧ i + 6 ≤ (L : Int) ∧ L ≤ 3072 := ⟨h0, by omega, hL⟩
    refine lv_aload_n hx hb dL_law_27 rfl (lv_at hl 0 rfl) ?_
    refine lv_iload_n hx hb dL_law_28 rfl (lv_at hl 3 rfl) ?_
    refine va_sld hx hb hX hbl hbA hS (xI_in (by omega)) dL_law_29 ?_
    refine x_bipush hx hb dL_law_30 (by decide +kernel) ?_
    refine lv_iand hx hb dL_law_32 ?_
    refine lv_topi (fun y _ => ?_)
    have kk : ∀ (S1 : xSt) (M1 : MO) (en1 : Nat → va_E) (H1 : Heap) (locs1 : List Loc), CW cA ad en1 S1 → MW cA ad en1 M1 → MR S1 M1 → va_P D vwCl (xw 68 ad en1) H1 → va_S (fun q => s.heap.size ≤ q) s.heap H1 locs1 → W p l e room_1 s m #[Value.ref b] below meth c H1 locs1 68 8593 Q (F0 m 2030 ls []) := by
      intro S1 M1 en1 H1 locs1 hC1 hM1 hR1 hP1 hS1
      refine x_iinc (lv' := [(3, .int (xI (i + 6))), (0, .ref b), (1, .ref (ad 0)), (2, .ref (ad 53))]) (k := 3) hx hb dL_law_2030 hl rfl (by decide) rfl (fun ls hl => ?_)
      refine lv_goto (tgt := 18) hx hb dL_law_2033 (by decide) ?_
      exact ih (i + 6) S1 M1 en1 H1 locs1 (by omega) (by omega) (by omega) hC1 hM1 hR1 hP1 hS1 ls (lv_sub hl [1, 2, 3, 0] rfl)
    by_cases hy : y.toInt < 0 ∨ 44 < y.toInt
    · exact lv_tableOut (tgt := 2030) hx hb dL_law_33 hy (by decide) (kk S M en H locs hC hM hR hP hS)
    · obtain ⟨n, h, hn⟩ : ∃ n : Nat, y.toInt = (n : Int) ∧ n < 45 := ⟨y.toInt.toNat, by omega, by omega⟩
      match n, h, hn with
      | 0, h, _ => exact lv_tableIn (off := 195) (tgt := 228) hx hb dL_law_33 (by omega) (by omega) (by rw [h]; rfl) (by decide) (lc_sign hE hD hC hM hR hP hS hi hl kk)
      | 1, h, _ => exact lv_tableIn (off := 228) (tgt := 261) hx hb dL_law_33 (by omega) (by omega) (by rw [h]; rfl) (by decide) (lc_signs hE hD hC hM hR hP hS hi hl kk)
      | 2, h, _ => exact lv_tableIn (off := 301) (tgt := 334) hx hb dL_law_33 (by omega) (by omega) (by rw [h]; rfl) (by decide) (lc_text hE hD hC hM hR hP hS hi hl kk)
      | 3, h, _ => exact lv_tableIn (off := 334) (tgt := 367) hx hb dL_law_33 (by omega) (by omega) (by rw [h]; rfl) (by decide) (lc_part hE hD hC hM hR hP hS hi hl kk)
      | 4, h, _ => exact lv_tableIn (off := 387) (tgt := 420) hx hb dL_law_33 (by omega) (by omega) (by rw [h]; rfl) (by decide) (lc_number hE hD hC hM hR hP hS hi hl kk)
      | 5, h, _ => exact lv_tableIn (off := 450) (tgt := 483) hx hb dL_law_33 (by omega) (by omega) (by rw [h]; rfl) (by decide) (lc_insert hE hD hC hM hR hP hS hi hl kk)
      | 6, h, _ => exact lv_tableIn (off := 493) (tgt := 526) hx hb dL_law_33 (by omega) (by omega) (by rw [h]; rfl) (by decide) (lc_insertPart hE hD hC hM hR hP hS hi hl kk)
      | 7, h, _ => exact lv_tableIn (off := 556) (tgt := 589) hx hb dL_law_33 (by omega) (by omega) (by rw [h]; rfl) (by decide) (lc_insertSign hE hD hC hM hR hP hS hi hl kk)
      | 8, h, _ => exact lv_tableIn (off := 599) (tgt := 632) hx hb dL_law_33 (by omega) (by omega) (by rw [h]; rfl) (by decide) (lc_delete hE hD hC hM hR hP hS hi hl kk)
      | 9, h, _ => exact lv_tableIn (off := 642) (tgt := 675) hx hb dL_law_33 (by omega) (by omega) (by rw [h]; rfl) (by decide) (lc_deleteAt hE hD hC hM hR hP hS hi hl kk)
      | 10, h, _ => exact lv_tableIn (off := 675) (tgt := 708) hx hb dL_law_33 (by omega) (by omega) (by rw [h]; rfl) (by decide) (lc_replace hE hD hC hM hR hP hS hi hl kk)
      | 11, h, _ => exact lv_tableIn (off := 728) (tgt := 761) hx hb dL_law_33 (by omega) (by omega) (by rw [h]; rfl) (by decide) (lc_reverse hE hD hC hM hR hP hS hi hl kk)
      | 12, h, _ => exact lv_tableIn (off := 751) (tgt := 784) hx hb dL_law_33 (by omega) (by omega) (by rw [h]; rfl) (by decide) (lc_put hE hD hC hM hR hP hS hi hl kk)
      | 13, h, _ => exact lv_tableIn (off := 794) (tgt := 827) hx hb dL_law_33 (by omega) (by omega) (by rw [h]; rfl) (by decide) (lc_length hE hD hC hM hR hP hS hi hl kk)
      | 14, h, _ => exact lv_tableIn (off := 827) (tgt := 860) hx hb dL_law_33 (by omega) (by omega) (by rw [h]; rfl) (by decide) (lc_at hE hD hC hM hR hP hS hi hl kk)
      | 15, h, _ => exact lv_tableIn (off := 860) (tgt := 893) hx hb dL_law_33 (by omega) (by omega) (by rw [h]; rfl) (by decide) (lc_size hE hD hC hM hR hP hS hi hl kk)
      | 16, h, _ => exact lv_tableIn (off := 883) (tgt := 916) hx hb dL_law_33 (by omega) (by omega) (by rw [h]; rfl) (by decide) (lc_first hE hD hC hM hR hP hS hi hl kk)
      | 17, h, _ => exact lv_tableIn (off := 926) (tgt := 959) hx hb dL_law_33 (by omega) (by omega) (by rw [h]; rfl) (by decide) (lc_last hE hD hC hM hR hP hS hi hl kk)
      | 18, h, _ => exact lv_tableIn (off := 969) (tgt := 1002) hx hb dL_law_33 (by omega) (by omega) (by rw [h]; rfl) (by decide) (lc_take hE hD hC hM hR hP hS hi hl kk)
      | 19, h, _ => exact lv_tableIn (off := 1022) (tgt := 1055) hx hb dL_law_33 (by omega) (by omega) (by rw [h]; rfl) (by decide) (lc_ahead hE hD hC hM hR hP hS hi hl kk)
      | 20, h, _ => exact lv_tableIn (off := 1055) (tgt := 1088) hx hb dL_law_33 (by omega) (by omega) (by rw [h]; rfl) (by decide) (lc_forget hE hD hC hM hR hP hS hi hl kk)
      | 21, h, _ => exact lv_tableIn (off := 1078) (tgt := 1111) hx hb dL_law_33 (by omega) (by omega) (by rw [h]; rfl) (by decide) (lc_textSize hE hD hC hM hR hP hS hi hl kk)
      | 22, h, _ => exact lv_tableIn (off := 1101) (tgt := 1134) hx hb dL_law_33 (by omega) (by omega) (by rw [h]; rfl) (by decide) (lc_signAt hE hD hC hM hR hP hS hi hl kk)
      | 23, h, _ => exact lv_tableIn (off := 1134) (tgt := 1167) hx hb dL_law_33 (by omega) (by omega) (by rw [h]; rfl) (by decide) (lc_firstSign hE hD hC hM hR hP hS hi hl kk)
      | 24, h, _ => exact lv_tableIn (off := 1177) (tgt := 1210) hx hb dL_law_33 (by omega) (by omega) (by rw [h]; rfl) (by decide) (lc_lastSign hE hD hC hM hR hP hS hi hl kk)
      | 25, h, _ => exact lv_tableIn (off := 1220) (tgt := 1253) hx hb dL_law_33 (by omega) (by omega) (by rw [h]; rfl) (by decide) (lc_firstText hE hD hC hM hR hP hS hi hl kk)
      | 26, h, _ => exact lv_tableIn (off := 1263) (tgt := 1296) hx hb dL_law_33 (by omega) (by omega) (by rw [h]; rfl) (by decide) (lc_lastText hE hD hC hM hR hP hS hi hl kk)
      | 27, h, _ => exact lv_tableIn (off := 1306) (tgt := 1339) hx hb dL_law_33 (by omega) (by omega) (by rw [h]; rfl) (by decide) (lc_region hE hD hC hM hR hP hS hi hl kk)
      | 28, h, _ => exact lv_tableIn (off := 1369) (tgt := 1402) hx hb dL_law_33 (by omega) (by omega) (by rw [h]; rfl) (by decide) (lc_order hE hD hC hM hR hP hS hi hl kk)
      | 29, h, _ => exact lv_tableIn (off := 1402) (tgt := 1435) hx hb dL_law_33 (by omega) (by omega) (by rw [h]; rfl) (by decide) (lc_begins hE hD hC hM hR hP hS hi hl kk)
      | 30, h, _ => exact lv_tableIn (off := 1445) (tgt := 1478) hx hb dL_law_33 (by omega) (by omega) (by rw [h]; rfl) (by decide) (lc_swap hE hD hC hM hR hP hS hi hl kk)
      | 31, h, _ => exact lv_tableIn (off := 1498) (tgt := 1531) hx hb dL_law_33 (by omega) (by omega) (by rw [h]; rfl) (by decide) (lc_sub hE hD hC hM hR hP hS hi hl kk)
      | 32, h, _ => exact lv_tableIn (off := 1551) (tgt := 1584) hx hb dL_law_33 (by omega) (by omega) (by rw [h]; rfl) (by decide) (lc_trim hE hD hC hM hR hP hS hi hl kk)
      | 33, h, _ => exact lv_tableIn (off := 1584) (tgt := 1617) hx hb dL_law_33 (by omega) (by omega) (by rw [h]; rfl) (by decide) (lc_repeat hE hD hC hM hR hP hS hi hl kk)
      | 34, h, _ => exact lv_tableIn (off := 1627) (tgt := 1660) hx hb dL_law_33 (by omega) (by omega) (by rw [h]; rfl) (by decide) (lc_join hE hD hC hM hR hP hS hi hl kk)
      | 35, h, _ => exact lv_tableIn (off := 1670) (tgt := 1703) hx hb dL_law_33 (by omega) (by omega) (by rw [h]; rfl) (by decide) (lc_split hE hD hC hM hR hP hS hi hl kk)
      | 36, h, _ => exact lv_tableIn (off := 1713) (tgt := 1746) hx hb dL_law_33 (by omega) (by omega) (by rw [h]; rfl) (by decide) (lc_parts hE hD hC hM hR hP hS hi hl kk)
      | 37, h, _ => exact lv_tableIn (off := 1726) (tgt := 1759) hx hb dL_law_33 (by omega) (by omega) (by rw [h]; rfl) (by decide) (lc_partTo hE hD hC hM hR hP hS hi hl kk)
      | 38, h, _ => exact lv_tableIn (off := 1759) (tgt := 1792) hx hb dL_law_33 (by omega) (by omega) (by rw [h]; rfl) (by decide) (lc_joined hE hD hC hM hR hP hS hi hl kk)
      | 39, h, _ => exact lv_tableIn (off := 1792) (tgt := 1825) hx hb dL_law_33 (by omega) (by omega) (by rw [h]; rfl) (by decide) (lc_cutter hE hD hC hM hR hP hS hi hl kk)
      | 40, h, _ => exact lv_tableIn (off := 1861) (tgt := 1894) hx hb dL_law_33 (by omega) (by omega) (by rw [h]; rfl) (by decide) (lc_more hE hD hC hM hR hP hS hi hl kk)
      | 41, h, _ => exact lv_tableIn (off := 1884) (tgt := 1917) hx hb dL_law_33 (by omega) (by omega) (by rw [h]; rfl) (by decide) (lc_left hE hD hC hM hR hP hS hi hl kk)
      | 42, h, _ => exact lv_tableIn (off := 1907) (tgt := 1940) hx hb dL_law_33 (by omega) (by omega) (by rw [h]; rfl) (by decide) (lc_next hE hD hC hM hR hP hS hi hl kk)
      | 43, h, _ => exact lv_tableIn (off := 1940) (tgt := 1973) hx hb dL_law_33 (by omega) (by omega) (by rw [h]; rfl) (by decide) (lc_nextBy hE hD hC hM hR hP hS hi hl kk)
      | 44, h, _ => exact lv_tableIn (off := 1983) (tgt := 2016) hx hb dL_law_33 (by omega) (by omega) (by rw [h]; rfl) (by decide) (lc_digest hE hD hC hM hR hP hS hi hl kk)
      | n + 45, _, hn => exact absurd hn (by omega)
