/-! the law: cases -/
set_option maxRecDepth 20000 in
set_option maxHeartbeats 1000000 in
theorem lc_deleteAt {p : Program} {l : Launch} {e : Env} {s : State} {m : MethodId} {below : List Frame} {meth : Method} {c : Code} {Q : State → Prop} {D : va_G} {cA : Nat → ClassId} {b L : Nat} {xs : Nat → Int32} (hE : LE p s m c b L xs D cA) {ad : Nat → Nat} (hD : xD (fun q => s.heap.size ≤ q) 68 ad) {S : xSt} {M : MO} {en : Nat → va_E} {H : Heap} {locs : List Loc} (hC : CW cA ad en S) (hM : MW cA ad en M) (hR : MR S M) (hP : va_P D vwCl (xw 68 ad en) H) (hS : va_S (fun q => s.heap.size ≤ q) s.heap H locs) {i : Int} (hi : 0 ≤ i ∧ i + 6 ≤ L ∧ L ≤ 3072) {ls : Array Slot} (hl : lv_has ls 4 [(0, .ref b), (1, .ref (ad 0)), (2, .ref (ad 53)), (3, .int (xI i))])
    (kk : ∀ (S1 : xSt) (M1 : MO) (en1 : Nat → va_E) (H1 : Heap) (locs1 : List Loc), CW cA ad en1 S1 → MW cA ad en1 M1 → MR S1 M1 → va_P D vwCl (xw 68 ad en1) H1 → va_S (fun q => s.heap.size ≤ q) s.heap H1 locs1 → W p l e room_1 s m #[Value.ref b] below meth c H1 locs1 68 8593 Q (F0 m 2030 ls [])) : W p l e room_1 s m #[Value.ref b] below meth c H locs 68 8593 Q (F0 m 675 ls []) := by
  obtain ⟨hx, hb, hml, hown, hts, hX, hbl, hK, hN, hZ⟩ := hE
  have hA : ∀ q : Nat, s.heap.size ≤ q → (fun q : Nat => s.heap.size ≤ q) q := fun _ h => h
  have hbA : ¬ (fun q : Nat => s.heap.size ≤ q) b := Nat.not_le.mpr hbl
  have hW : WF S := hC.wf
  obtain ⟨z1, hz1, hr1⟩ := x_scr (xs ((xI (i + 1)).toNatClampNeg))
  obtain ⟨z2, hz2, hr2⟩ := x_scr (xs ((xI (i + 2)).toNatClampNeg))
  obtain ⟨z3, hz3, hr3⟩ := x_scr (xs ((xI (i + 3)).toNatClampNeg))
  obtain ⟨z4, hz4, hr4⟩ := x_scr (xs ((xI (i + 4)).toNatClampNeg))
  obtain ⟨z5, hz5, hr5⟩ := x_scr (xs ((xI (i + 5)).toNatClampNeg))
  refine lv_aload_n hx hb dL_law_675 rfl (lv_at hl 1 rfl) ?_
  refine lv_aload_n hx hb dL_law_676 rfl (lv_at hl 0 rfl) ?_
  refine lv_iload_n hx hb dL_law_677 rfl (lv_at hl 3 rfl) ?_
  refine x_iconst hx hb dL_law_678 ?_
  refine x_iadd hx hb dL_law_679 ?_
  refine va_sld hx hb hX hbl hbA hS (xI_in (by omega)) dL_law_680 ?_
  refine x_toi z1 hz1 ?_
  refine lv_aload_n hx hb dL_law_681 rfl (lv_at hl 0 rfl) ?_
  refine lv_iload_n hx hb dL_law_682 rfl (lv_at hl 3 rfl) ?_
  refine x_iconst hx hb dL_law_683 ?_
  refine x_iadd hx hb dL_law_684 ?_
  refine va_sld hx hb hX hbl hbA hS (xI_in (by omega)) dL_law_685 ?_
  refine x_toi z2 hz2 ?_
  refine xm_i (i := 0) (As := [.int (xI z1), .int (xI z2)]) (rest := []) ⟨hx, hb, hml, hown, hts⟩ hl.1 (c_X4_deleteAt l D cA 68 ad en _ (by omega) hC z1 hr1 z2 hr2) k_X4_deleteAt u_ml_RL_57 hK hN hP (by omega) hC.1 rfl rfl rfl rfl (Nat.le_of_ble_eq_true rfl) ⟨Nat.le_of_ble_eq_true rfl, Nat.le_of_ble_eq_true rfl⟩ ⟨Nat.le_of_ble_eq_true rfl, Nat.le_of_ble_eq_true rfl⟩ dL_law_686 hD hS hA (fun r1 ur1 H locs hpr1 hP hS => ?_)
  obtain ⟨ha1, hC, ho1⟩ := hpr1
  have hM := hM.ko ho1 (by omega)
  refine lv_aload_n hx hb dL_law_689 rfl (lv_at hl 2 rfl) ?_
  refine lv_aload_n hx hb dL_law_690 rfl (lv_at hl 0 rfl) ?_
  refine lv_iload_n hx hb dL_law_691 rfl (lv_at hl 3 rfl) ?_
  refine x_iconst hx hb dL_law_692 ?_
  refine x_iadd hx hb dL_law_693 ?_
  refine va_sld hx hb hX hbl hbA hS (xI_in (by omega)) dL_law_694 ?_
  refine x_toi z1 hz1 ?_
  refine lv_aload_n hx hb dL_law_695 rfl (lv_at hl 0 rfl) ?_
  refine lv_iload_n hx hb dL_law_696 rfl (lv_at hl 3 rfl) ?_
  refine x_iconst hx hb dL_law_697 ?_
  refine x_iadd hx hb dL_law_698 ?_
  refine va_sld hx hb hX hbl hbA hS (xI_in (by omega)) dL_law_699 ?_
  refine x_toi z2 hz2 ?_
  refine xm_i (i := 53) (As := [.int (xI z1), .int (xI z2)]) (rest := [.int r1]) ⟨hx, hb, hml, hown, hts⟩ hl.1 (c_X5_deleteAt l D cA 68 ad ur1 _ (by omega) hM hW hR z1 hr1 z2 hr2) k_X5_deleteAt u_ml_RL_60 hK hN hP (by omega) hM.1 rfl rfl rfl rfl (Nat.le_of_ble_eq_true rfl) ⟨Nat.le_of_ble_eq_true rfl, Nat.le_of_ble_eq_true rfl⟩ ⟨Nat.le_of_ble_eq_true rfl, Nat.le_of_ble_eq_true rfl⟩ dL_law_700 hD hS hA (fun r2 ur2 H locs hpr2 hP hS => ?_)
  obtain ⟨ha2, M1, hM, hR1, ho2⟩ := hpr2
  have hC := hC.far ho2 (by omega)
  exact lv_icmp_eq hx hb (tgt := 2030) dL_law_703 (by decide) (fun _ => kk _ _ _ _ _ hC hM hR1 hP hS) (fun q => absurd (ha1.trans ha2.symm) q)

set_option maxRecDepth 20000 in
set_option maxHeartbeats 1000000 in
theorem lc_replace {p : Program} {l : Launch} {e : Env} {s : State} {m : MethodId} {below : List Frame} {meth : Method} {c : Code} {Q : State → Prop} {D : va_G} {cA : Nat → ClassId} {b L : Nat} {xs : Nat → Int32} (hE : LE p s m c b L xs D cA) {ad : Nat → Nat} (hD : xD (fun q => s.heap.size ≤ q) 68 ad) {S : xSt} {M : MO} {en : Nat → va_E} {H : Heap} {locs : List Loc} (hC : CW cA ad en S) (hM : MW cA ad en M) (hR : MR S M) (hP : va_P D vwCl (xw 68 ad en) H) (hS : va_S (fun q => s.heap.size ≤ q) s.heap H locs) {i : Int} (hi : 0 ≤ i ∧ i + 6 ≤ L ∧ L ≤ 3072) {ls : Array Slot} (hl : lv_has ls 4 [(0, .ref b), (1, .ref (ad 0)), (2, .ref (ad 53)), (3, .int (xI i))])
    (kk : ∀ (S1 : xSt) (M1 : MO) (en1 : Nat → va_E) (H1 : Heap) (locs1 : List Loc), CW cA ad en1 S1 → MW cA ad en1 M1 → MR S1 M1 → va_P D vwCl (xw 68 ad en1) H1 → va_S (fun q => s.heap.size ≤ q) s.heap H1 locs1 → W p l e room_1 s m #[Value.ref b] below meth c H1 locs1 68 8593 Q (F0 m 2030 ls [])) : W p l e room_1 s m #[Value.ref b] below meth c H locs 68 8593 Q (F0 m 708 ls []) := by
  obtain ⟨hx, hb, hml, hown, hts, hX, hbl, hK, hN, hZ⟩ := hE
  have hA : ∀ q : Nat, s.heap.size ≤ q → (fun q : Nat => s.heap.size ≤ q) q := fun _ h => h
  have hbA : ¬ (fun q : Nat => s.heap.size ≤ q) b := Nat.not_le.mpr hbl
  have hW : WF S := hC.wf
  obtain ⟨z1, hz1, hr1⟩ := x_scr (xs ((xI (i + 1)).toNatClampNeg))
  obtain ⟨z2, hz2, hr2⟩ := x_scr (xs ((xI (i + 2)).toNatClampNeg))
  obtain ⟨z3, hz3, hr3⟩ := x_scr (xs ((xI (i + 3)).toNatClampNeg))
  obtain ⟨z4, hz4, hr4⟩ := x_scr (xs ((xI (i + 4)).toNatClampNeg))
  obtain ⟨z5, hz5, hr5⟩ := x_scr (xs ((xI (i + 5)).toNatClampNeg))
  refine lv_aload_n hx hb dL_law_708 rfl (lv_at hl 1 rfl) ?_
  refine lv_aload_n hx hb dL_law_709 rfl (lv_at hl 0 rfl) ?_
  refine lv_iload_n hx hb dL_law_710 rfl (lv_at hl 3 rfl) ?_
  refine x_iconst hx hb dL_law_711 ?_
  refine x_iadd hx hb dL_law_712 ?_
  refine va_sld hx hb hX hbl hbA hS (xI_in (by omega)) dL_law_713 ?_
  refine x_toi z1 hz1 ?_
  refine lv_aload_n hx hb dL_law_714 rfl (lv_at hl 0 rfl) ?_
  refine lv_iload_n hx hb dL_law_715 rfl (lv_at hl 3 rfl) ?_
  refine x_iconst hx hb dL_law_716 ?_
  refine x_iadd hx hb dL_law_717 ?_
  refine va_sld hx hb hX hbl hbA hS (xI_in (by omega)) dL_law_718 ?_
  refine x_toi z2 hz2 ?_
  refine lv_aload_n hx hb dL_law_719 rfl (lv_at hl 0 rfl) ?_
  refine lv_iload_n hx hb dL_law_720 rfl (lv_at hl 3 rfl) ?_
  refine x_iconst hx hb dL_law_721 ?_
  refine x_iadd hx hb dL_law_722 ?_
  refine va_sld hx hb hX hbl hbA hS (xI_in (by omega)) dL_law_723 ?_
  refine x_toi z3 hz3 ?_
  refine lv_aload_n hx hb dL_law_724 rfl (lv_at hl 0 rfl) ?_
  refine lv_iload_n hx hb dL_law_725 rfl (lv_at hl 3 rfl) ?_
  refine x_iconst hx hb dL_law_726 ?_
  refine x_iadd hx hb dL_law_727 ?_
  refine va_sld hx hb hX hbl hbA hS (xI_in (by omega)) dL_law_728 ?_
  refine x_toi z4 hz4 ?_
  refine xm_i (i := 0) (As := [.int (xI z1), .int (xI z2), .int (xI z3), .int (xI z4)]) (rest := []) ⟨hx, hb, hml, hown, hts⟩ hl.1 (c_X4_replace l D cA 68 ad en _ (by omega) hC z1 hr1 z2 hr2 z3 hr3 z4 hr4) k_X4_replace u_ml_RL_61 hK hN hP (by omega) hC.1 rfl rfl rfl rfl (Nat.le_of_ble_eq_true rfl) ⟨Nat.le_of_ble_eq_true rfl, Nat.le_of_ble_eq_true rfl⟩ ⟨Nat.le_of_ble_eq_true rfl, Nat.le_of_ble_eq_true rfl⟩ dL_law_729 hD hS hA (fun r1 ur1 H locs hpr1 hP hS => ?_)
  obtain ⟨ha1, hC, ho1⟩ := hpr1
  have hM := hM.ko ho1 (by omega)
  refine lv_aload_n hx hb dL_law_732 rfl (lv_at hl 2 rfl) ?_
  refine lv_aload_n hx hb dL_law_733 rfl (lv_at hl 0 rfl) ?_
  refine lv_iload_n hx hb dL_law_734 rfl (lv_at hl 3 rfl) ?_
  refine x_iconst hx hb dL_law_735 ?_
  refine x_iadd hx hb dL_law_736 ?_
  refine va_sld hx hb hX hbl hbA hS (xI_in (by omega)) dL_law_737 ?_
  refine x_toi z1 hz1 ?_
  refine lv_aload_n hx hb dL_law_738 rfl (lv_at hl 0 rfl) ?_
  refine lv_iload_n hx hb dL_law_739 rfl (lv_at hl 3 rfl) ?_
  refine x_iconst hx hb dL_law_740 ?_
  refine x_iadd hx hb dL_law_741 ?_
  refine va_sld hx hb hX hbl hbA hS (xI_in (by omega)) dL_law_742 ?_
  refine x_toi z2 hz2 ?_
  refine lv_aload_n hx hb dL_law_743 rfl (lv_at hl 0 rfl) ?_
  refine lv_iload_n hx hb dL_law_744 rfl (lv_at hl 3 rfl) ?_
  refine x_iconst hx hb dL_law_745 ?_
  refine x_iadd hx hb dL_law_746 ?_
  refine va_sld hx hb hX hbl hbA hS (xI_in (by omega)) dL_law_747 ?_
  refine x_toi z3 hz3 ?_
  refine lv_aload_n hx hb dL_law_748 rfl (lv_at hl 0 rfl) ?_
  refine lv_iload_n hx hb dL_law_749 rfl (lv_at hl 3 rfl) ?_
  refine x_iconst hx hb dL_law_750 ?_
  refine x_iadd hx hb dL_law_751 ?_
  refine va_sld hx hb hX hbl hbA hS (xI_in (by omega)) dL_law_752 ?_
  refine x_toi z4 hz4 ?_
  refine xm_i (i := 53) (As := [.int (xI z1), .int (xI z2), .int (xI z3), .int (xI z4)]) (rest := [.int r1]) ⟨hx, hb, hml, hown, hts⟩ hl.1 (c_X5_replace l D cA 68 ad ur1 _ (by omega) hM hW hR z1 hr1 z2 hr2 z3 hr3 z4 hr4) k_X5_replace u_ml_RL_64 hK hN hP (by omega) hM.1 rfl rfl rfl rfl (Nat.le_of_ble_eq_true rfl) ⟨Nat.le_of_ble_eq_true rfl, Nat.le_of_ble_eq_true rfl⟩ ⟨Nat.le_of_ble_eq_true rfl, Nat.le_of_ble_eq_true rfl⟩ dL_law_753 hD hS hA (fun r2 ur2 H locs hpr2 hP hS => ?_)
  obtain ⟨ha2, M1, hM, hR1, ho2⟩ := hpr2
  have hC := hC.far ho2 (by omega)
  exact lv_icmp_eq hx hb (tgt := 2030) dL_law_756 (by decide) (fun _ => kk _ _ _ _ _ hC hM hR1 hP hS) (fun q => absurd (ha1.trans ha2.symm) q)

set_option maxRecDepth 20000 in
set_option maxHeartbeats 1000000 in
theorem lc_reverse {p : Program} {l : Launch} {e : Env} {s : State} {m : MethodId} {below : List Frame} {meth : Method} {c : Code} {Q : State → Prop} {D : va_G} {cA : Nat → ClassId} {b L : Nat} {xs : Nat → Int32} (hE : LE p s m c b L xs D cA) {ad : Nat → Nat} (hD : xD (fun q => s.heap.size ≤ q) 68 ad) {S : xSt} {M : MO} {en : Nat → va_E} {H : Heap} {locs : List Loc} (hC : CW cA ad en S) (hM : MW cA ad en M) (hR : MR S M) (hP : va_P D vwCl (xw 68 ad en) H) (hS : va_S (fun q => s.heap.size ≤ q) s.heap H locs) {i : Int} (hi : 0 ≤ i ∧ i + 6 ≤ L ∧ L ≤ 3072) {ls : Array Slot} (hl : lv_has ls 4 [(0, .ref b), (1, .ref (ad 0)), (2, .ref (ad 53)), (3, .int (xI i))])
    (kk : ∀ (S1 : xSt) (M1 : MO) (en1 : Nat → va_E) (H1 : Heap) (locs1 : List Loc), CW cA ad en1 S1 → MW cA ad en1 M1 → MR S1 M1 → va_P D vwCl (xw 68 ad en1) H1 → va_S (fun q => s.heap.size ≤ q) s.heap H1 locs1 → W p l e room_1 s m #[Value.ref b] below meth c H1 locs1 68 8593 Q (F0 m 2030 ls [])) : W p l e room_1 s m #[Value.ref b] below meth c H locs 68 8593 Q (F0 m 761 ls []) := by
  obtain ⟨hx, hb, hml, hown, hts, hX, hbl, hK, hN, hZ⟩ := hE
  have hA : ∀ q : Nat, s.heap.size ≤ q → (fun q : Nat => s.heap.size ≤ q) q := fun _ h => h
  have hbA : ¬ (fun q : Nat => s.heap.size ≤ q) b := Nat.not_le.mpr hbl
  have hW : WF S := hC.wf
  obtain ⟨z1, hz1, hr1⟩ := x_scr (xs ((xI (i + 1)).toNatClampNeg))
  obtain ⟨z2, hz2, hr2⟩ := x_scr (xs ((xI (i + 2)).toNatClampNeg))
  obtain ⟨z3, hz3, hr3⟩ := x_scr (xs ((xI (i + 3)).toNatClampNeg))
  obtain ⟨z4, hz4, hr4⟩ := x_scr (xs ((xI (i + 4)).toNatClampNeg))
  obtain ⟨z5, hz5, hr5⟩ := x_scr (xs ((xI (i + 5)).toNatClampNeg))
  refine lv_aload_n hx hb dL_law_761 rfl (lv_at hl 1 rfl) ?_
  refine lv_aload_n hx hb dL_law_762 rfl (lv_at hl 0 rfl) ?_
  refine lv_iload_n hx hb dL_law_763 rfl (lv_at hl 3 rfl) ?_
  refine x_iconst hx hb dL_law_764 ?_
  refine x_iadd hx hb dL_law_765 ?_
  refine va_sld hx hb hX hbl hbA hS (xI_in (by omega)) dL_law_766 ?_
  refine x_toi z1 hz1 ?_
  refine xm_i (i := 0) (As := [.int (xI z1)]) (rest := []) ⟨hx, hb, hml, hown, hts⟩ hl.1 (c_X4_reverse l D cA 68 ad en _ (by omega) hC z1 hr1) k_X4_reverse u_ml_RL_65 hK hN hP (by omega) hC.1 rfl rfl rfl rfl (Nat.le_of_ble_eq_true rfl) ⟨Nat.le_of_ble_eq_true rfl, Nat.le_of_ble_eq_true rfl⟩ ⟨Nat.le_of_ble_eq_true rfl, Nat.le_of_ble_eq_true rfl⟩ dL_law_767 hD hS hA (fun r1 ur1 H locs hpr1 hP hS => ?_)
  obtain ⟨ha1, hC, ho1⟩ := hpr1
  have hM := hM.ko ho1 (by omega)
  refine lv_aload_n hx hb dL_law_770 rfl (lv_at hl 2 rfl) ?_
  refine lv_aload_n hx hb dL_law_771 rfl (lv_at hl 0 rfl) ?_
  refine lv_iload_n hx hb dL_law_772 rfl (lv_at hl 3 rfl) ?_
  refine x_iconst hx hb dL_law_773 ?_
  refine x_iadd hx hb dL_law_774 ?_
  refine va_sld hx hb hX hbl hbA hS (xI_in (by omega)) dL_law_775 ?_
  refine x_toi z1 hz1 ?_
  refine xm_i (i := 53) (As := [.int (xI z1)]) (rest := [.int r1]) ⟨hx, hb, hml, hown, hts⟩ hl.1 (c_X5_reverse l D cA 68 ad ur1 _ (by omega) hM hW hR z1 hr1) k_X5_reverse u_ml_RL_69 hK hN hP (by omega) hM.1 rfl rfl rfl rfl (Nat.le_of_ble_eq_true rfl) ⟨Nat.le_of_ble_eq_true rfl, Nat.le_of_ble_eq_true rfl⟩ ⟨Nat.le_of_ble_eq_true rfl, Nat.le_of_ble_eq_true rfl⟩ dL_law_776 hD hS hA (fun r2 ur2 H locs hpr2 hP hS => ?_)
  obtain ⟨ha2, M1, hM, hR1, ho2⟩ := hpr2
  have hC := hC.far ho2 (by omega)
  exact lv_icmp_eq hx hb (tgt := 2030) dL_law_779 (by decide) (fun _ => kk _ _ _ _ _ hC hM hR1 hP hS) (fun q => absurd (ha1.trans ha2.symm) q)

set_option maxRecDepth 20000 in
set_option maxHeartbeats 1000000 in
theorem lc_put {p : Program} {l : Launch} {e : Env} {s : State} {m : MethodId} {below : List Frame} {meth : Method} {c : Code} {Q : State → Prop} {D : va_G} {cA : Nat → ClassId} {b L : Nat} {xs : Nat → Int32} (hE : LE p s m c b L xs D cA) {ad : Nat → Nat} (hD : xD (fun q => s.heap.size ≤ q) 68 ad) {S : xSt} {M : MO} {en : Nat → va_E} {H : Heap} {locs : List Loc} (hC : CW cA ad en S) (hM : MW cA ad en M) (hR : MR S M) (hP : va_P D vwCl (xw 68 ad en) H) (hS : va_S (fun q => s.heap.size ≤ q) s.heap H locs) {i : Int} (hi : 0 ≤ i ∧ i + 6 ≤ L ∧ L ≤ 3072) {ls : Array Slot} (hl : lv_has ls 4 [(0, .ref b), (1, .ref (ad 0)), (2, .ref (ad 53)), (3, .int (xI i))])
    (kk : ∀ (S1 : xSt) (M1 : MO) (en1 : Nat → va_E) (H1 : Heap) (locs1 : List Loc), CW cA ad en1 S1 → MW cA ad en1 M1 → MR S1 M1 → va_P D vwCl (xw 68 ad en1) H1 → va_S (fun q => s.heap.size ≤ q) s.heap H1 locs1 → W p l e room_1 s m #[Value.ref b] below meth c H1 locs1 68 8593 Q (F0 m 2030 ls [])) : W p l e room_1 s m #[Value.ref b] below meth c H locs 68 8593 Q (F0 m 784 ls []) := by
  obtain ⟨hx, hb, hml, hown, hts, hX, hbl, hK, hN, hZ⟩ := hE
  have hA : ∀ q : Nat, s.heap.size ≤ q → (fun q : Nat => s.heap.size ≤ q) q := fun _ h => h
  have hbA : ¬ (fun q : Nat => s.heap.size ≤ q) b := Nat.not_le.mpr hbl
  have hW : WF S := hC.wf
  obtain ⟨z1, hz1, hr1⟩ := x_scr (xs ((xI (i + 1)).toNatClampNeg))
  obtain ⟨z2, hz2, hr2⟩ := x_scr (xs ((xI (i + 2)).toNatClampNeg))
  obtain ⟨z3, hz3, hr3⟩ := x_scr (xs ((xI (i + 3)).toNatClampNeg))
  obtain ⟨z4, hz4, hr4⟩ := x_scr (xs ((xI (i + 4)).toNatClampNeg))
  obtain ⟨z5, hz5, hr5⟩ := x_scr (xs ((xI (i + 5)).toNatClampNeg))
  refine lv_aload_n hx hb dL_law_784 rfl (lv_at hl 1 rfl) ?_
  refine lv_aload_n hx hb dL_law_785 rfl (lv_at hl 0 rfl) ?_
  refine lv_iload_n hx hb dL_law_786 rfl (lv_at hl 3 rfl) ?_
  refine x_iconst hx hb dL_law_787 ?_
  refine x_iadd hx hb dL_law_788 ?_
  refine va_sld hx hb hX hbl hbA hS (xI_in (by omega)) dL_law_789 ?_
  refine x_toi z1 hz1 ?_
  refine lv_aload_n hx hb dL_law_790 rfl (lv_at hl 0 rfl) ?_
  refine lv_iload_n hx hb dL_law_791 rfl (lv_at hl 3 rfl) ?_
  refine x_iconst hx hb dL_law_792 ?_
  refine x_iadd hx hb dL_law_793 ?_
  refine va_sld hx hb hX hbl hbA hS (xI_in (by omega)) dL_law_794 ?_
  refine x_toi z2 hz2 ?_
  refine lv_aload_n hx hb dL_law_795 rfl (lv_at hl 0 rfl) ?_
  refine lv_iload_n hx hb dL_law_796 rfl (lv_at hl 3 rfl) ?_
  refine x_iconst hx hb dL_law_797 ?_
  refine x_iadd hx hb dL_law_798 ?_
  refine va_sld hx hb hX hbl hbA hS (xI_in (by omega)) dL_law_799 ?_
  refine x_toi z3 hz3 ?_
  refine xm_i (i := 0) (As := [.int (xI z1), .int (xI z2), .int (xI z3)]) (rest := []) ⟨hx, hb, hml, hown, hts⟩ hl.1 (c_X4_put l D cA 68 ad en _ (by omega) hC z1 hr1 z2 hr2 z3 hr3) k_X4_put u_ml_RL_70 hK hN hP (by omega) hC.1 rfl rfl rfl rfl (Nat.le_of_ble_eq_true rfl) ⟨Nat.le_of_ble_eq_true rfl, Nat.le_of_ble_eq_true rfl⟩ ⟨Nat.le_of_ble_eq_true rfl, Nat.le_of_ble_eq_true rfl⟩ dL_law_800 hD hS hA (fun r1 ur1 H locs hpr1 hP hS => ?_)
  obtain ⟨ha1, hC, ho1⟩ := hpr1
  have hM := hM.ko ho1 (by omega)
  refine lv_aload_n hx hb dL_law_803 rfl (lv_at hl 2 rfl) ?_
  refine lv_aload_n hx hb dL_law_804 rfl (lv_at hl 0 rfl) ?_
  refine lv_iload_n hx hb dL_law_805 rfl (lv_at hl 3 rfl) ?_
  refine x_iconst hx hb dL_law_806 ?_
  refine x_iadd hx hb dL_law_807 ?_
  refine va_sld hx hb hX hbl hbA hS (xI_in (by omega)) dL_law_808 ?_
  refine x_toi z1 hz1 ?_
  refine lv_aload_n hx hb dL_law_809 rfl (lv_at hl 0 rfl) ?_
  refine lv_iload_n hx hb dL_law_810 rfl (lv_at hl 3 rfl) ?_
  refine x_iconst hx hb dL_law_811 ?_
  refine x_iadd hx hb dL_law_812 ?_
  refine va_sld hx hb hX hbl hbA hS (xI_in (by omega)) dL_law_813 ?_
  refine x_toi z2 hz2 ?_
  refine lv_aload_n hx hb dL_law_814 rfl (lv_at hl 0 rfl) ?_
  refine lv_iload_n hx hb dL_law_815 rfl (lv_at hl 3 rfl) ?_
  refine x_iconst hx hb dL_law_816 ?_
  refine x_iadd hx hb dL_law_817 ?_
  refine va_sld hx hb hX hbl hbA hS (xI_in (by omega)) dL_law_818 ?_
  refine x_toi z3 hz3 ?_
  refine xm_i (i := 53) (As := [.int (xI z1), .int (xI z2), .int (xI z3)]) (rest := [.int r1]) ⟨hx, hb, hml, hown, hts⟩ hl.1 (c_X5_put l D cA 68 ad ur1 _ (by omega) hM hW hR z1 hr1 z2 hr2 z3 hr3) k_X5_put u_ml_RL_73 hK hN hP (by omega) hM.1 rfl rfl rfl rfl (Nat.le_of_ble_eq_true rfl) ⟨Nat.le_of_ble_eq_true rfl, Nat.le_of_ble_eq_true rfl⟩ ⟨Nat.le_of_ble_eq_true rfl, Nat.le_of_ble_eq_true rfl⟩ dL_law_819 hD hS hA (fun r2 ur2 H locs hpr2 hP hS => ?_)
  obtain ⟨ha2, M1, hM, hR1, ho2⟩ := hpr2
  have hC := hC.far ho2 (by omega)
  exact lv_icmp_eq hx hb (tgt := 2030) dL_law_822 (by decide) (fun _ => kk _ _ _ _ _ hC hM hR1 hP hS) (fun q => absurd (ha1.trans ha2.symm) q)

set_option maxRecDepth 20000 in
set_option maxHeartbeats 1000000 in
theorem lc_length {p : Program} {l : Launch} {e : Env} {s : State} {m : MethodId} {below : List Frame} {meth : Method} {c : Code} {Q : State → Prop} {D : va_G} {cA : Nat → ClassId} {b L : Nat} {xs : Nat → Int32} (hE : LE p s m c b L xs D cA) {ad : Nat → Nat} (hD : xD (fun q => s.heap.size ≤ q) 68 ad) {S : xSt} {M : MO} {en : Nat → va_E} {H : Heap} {locs : List Loc} (hC : CW cA ad en S) (hM : MW cA ad en M) (hR : MR S M) (hP : va_P D vwCl (xw 68 ad en) H) (hS : va_S (fun q => s.heap.size ≤ q) s.heap H locs) {i : Int} (hi : 0 ≤ i ∧ i + 6 ≤ L ∧ L ≤ 3072) {ls : Array Slot} (hl : lv_has ls 4 [(0, .ref b), (1, .ref (ad 0)), (2, .ref (ad 53)), (3, .int (xI i))])
    (kk : ∀ (S1 : xSt) (M1 : MO) (en1 : Nat → va_E) (H1 : Heap) (locs1 : List Loc), CW cA ad en1 S1 → MW cA ad en1 M1 → MR S1 M1 → va_P D vwCl (xw 68 ad en1) H1 → va_S (fun q => s.heap.size ≤ q) s.heap H1 locs1 → W p l e room_1 s m #[Value.ref b] below meth c H1 locs1 68 8593 Q (F0 m 2030 ls [])) : W p l e room_1 s m #[Value.ref b] below meth c H locs 68 8593 Q (F0 m 827 ls []) := by
  obtain ⟨hx, hb, hml, hown, hts, hX, hbl, hK, hN, hZ⟩ := hE
  have hA : ∀ q : Nat, s.heap.size ≤ q → (fun q : Nat => s.heap.size ≤ q) q := fun _ h => h
  have hbA : ¬ (fun q : Nat => s.heap.size ≤ q) b := Nat.not_le.mpr hbl
  have hW : WF S := hC.wf
  obtain ⟨z1, hz1, hr1⟩ := x_scr (xs ((xI (i + 1)).toNatClampNeg))
  obtain ⟨z2, hz2, hr2⟩ := x_scr (xs ((xI (i + 2)).toNatClampNeg))
  obtain ⟨z3, hz3, hr3⟩ := x_scr (xs ((xI (i + 3)).toNatClampNeg))
  obtain ⟨z4, hz4, hr4⟩ := x_scr (xs ((xI (i + 4)).toNatClampNeg))
  obtain ⟨z5, hz5, hr5⟩ := x_scr (xs ((xI (i + 5)).toNatClampNeg))
  refine lv_aload_n hx hb dL_law_827 rfl (lv_at hl 1 rfl) ?_
  refine lv_aload_n hx hb dL_law_828 rfl (lv_at hl 0 rfl) ?_
  refine lv_iload_n hx hb dL_law_829 rfl (lv_at hl 3 rfl) ?_
  refine x_iconst hx hb dL_law_830 ?_
  refine x_iadd hx hb dL_law_831 ?_
  refine va_sld hx hb hX hbl hbA hS (xI_in (by omega)) dL_law_832 ?_
  refine x_toi z1 hz1 ?_
  refine lv_aload_n hx hb dL_law_833 rfl (lv_at hl 0 rfl) ?_
  refine lv_iload_n hx hb dL_law_834 rfl (lv_at hl 3 rfl) ?_
  refine x_iconst hx hb dL_law_835 ?_
  refine x_iadd hx hb dL_law_836 ?_
  refine va_sld hx hb hX hbl hbA hS (xI_in (by omega)) dL_law_837 ?_
  refine x_toi z2 hz2 ?_
  refine xm_i (i := 0) (As := [.int (xI z1), .int (xI z2)]) (rest := []) ⟨hx, hb, hml, hown, hts⟩ hl.1 (c_X4_length l D cA 68 ad en _ (by omega) hC z1 hr1 z2 hr2) k_X4_length u_ml_RL_74 hK hN hP (by omega) hC.1 rfl rfl rfl rfl (Nat.le_of_ble_eq_true rfl) ⟨Nat.le_of_ble_eq_true rfl, Nat.le_of_ble_eq_true rfl⟩ ⟨Nat.le_of_ble_eq_true rfl, Nat.le_of_ble_eq_true rfl⟩ dL_law_838 hD hS hA (fun r1 ur1 H locs hpr1 hP hS => ?_)
  obtain ⟨ha1, hC, ho1⟩ := hpr1
  have hM := hM.ko ho1 (by omega)
  refine lv_aload_n hx hb dL_law_841 rfl (lv_at hl 2 rfl) ?_
  refine lv_aload_n hx hb dL_law_842 rfl (lv_at hl 0 rfl) ?_
  refine lv_iload_n hx hb dL_law_843 rfl (lv_at hl 3 rfl) ?_
  refine x_iconst hx hb dL_law_844 ?_
  refine x_iadd hx hb dL_law_845 ?_
  refine va_sld hx hb hX hbl hbA hS (xI_in (by omega)) dL_law_846 ?_
  refine x_toi z1 hz1 ?_
  refine lv_aload_n hx hb dL_law_847 rfl (lv_at hl 0 rfl) ?_
  refine lv_iload_n hx hb dL_law_848 rfl (lv_at hl 3 rfl) ?_
  refine x_iconst hx hb dL_law_849 ?_
  refine x_iadd hx hb dL_law_850 ?_
  refine va_sld hx hb hX hbl hbA hS (xI_in (by omega)) dL_law_851 ?_
  refine x_toi z2 hz2 ?_
  refine xm_i (i := 53) (As := [.int (xI z1), .int (xI z2)]) (rest := [.int r1]) ⟨hx, hb, hml, hown, hts⟩ hl.1 (c_X5_length l D cA 68 ad ur1 _ (by omega) hM hW hR z1 hr1 z2 hr2) k_X5_length u_ml_RL_77 hK hN hP (by omega) hM.1 rfl rfl rfl rfl (Nat.le_of_ble_eq_true rfl) ⟨Nat.le_of_ble_eq_true rfl, Nat.le_of_ble_eq_true rfl⟩ ⟨Nat.le_of_ble_eq_true rfl, Nat.le_of_ble_eq_true rfl⟩ dL_law_852 hD hS hA (fun r2 ur2 H locs hpr2 hP hS => ?_)
  obtain ⟨ha2, M1, hM, hR1, ho2⟩ := hpr2
  have hC := hC.far ho2 (by omega)
  exact lv_icmp_eq hx hb (tgt := 2030) dL_law_855 (by decide) (fun _ => kk _ _ _ _ _ hC hM hR1 hP hS) (fun q => absurd (ha1.trans ha2.symm) q)

set_option maxRecDepth 20000 in
set_option maxHeartbeats 1000000 in
theorem lc_at {p : Program} {l : Launch} {e : Env} {s : State} {m : MethodId} {below : List Frame} {meth : Method} {c : Code} {Q : State → Prop} {D : va_G} {cA : Nat → ClassId} {b L : Nat} {xs : Nat → Int32} (hE : LE p s m c b L xs D cA) {ad : Nat → Nat} (hD : xD (fun q => s.heap.size ≤ q) 68 ad) {S : xSt} {M : MO} {en : Nat → va_E} {H : Heap} {locs : List Loc} (hC : CW cA ad en S) (hM : MW cA ad en M) (hR : MR S M) (hP : va_P D vwCl (xw 68 ad en) H) (hS : va_S (fun q => s.heap.size ≤ q) s.heap H locs) {i : Int} (hi : 0 ≤ i ∧ i + 6 ≤ L ∧ L ≤ 3072) {ls : Array Slot} (hl : lv_has ls 4 [(0, .ref b), (1, .ref (ad 0)), (2, .ref (ad 53)), (3, .int (xI i))])
    (kk : ∀ (S1 : xSt) (M1 : MO) (en1 : Nat → va_E) (H1 : Heap) (locs1 : List Loc), CW cA ad en1 S1 → MW cA ad en1 M1 → MR S1 M1 → va_P D vwCl (xw 68 ad en1) H1 → va_S (fun q => s.heap.size ≤ q) s.heap H1 locs1 → W p l e room_1 s m #[Value.ref b] below meth c H1 locs1 68 8593 Q (F0 m 2030 ls [])) : W p l e room_1 s m #[Value.ref b] below meth c H locs 68 8593 Q (F0 m 860 ls []) := by
  obtain ⟨hx, hb, hml, hown, hts, hX, hbl, hK, hN, hZ⟩ := hE
  have hA : ∀ q : Nat, s.heap.size ≤ q → (fun q : Nat => s.heap.size ≤ q) q := fun _ h => h
  have hbA : ¬ (fun q : Nat => s.heap.size ≤ q) b := Nat.not_le.mpr hbl
  have hW : WF S := hC.wf
  obtain ⟨z1, hz1, hr1⟩ := x_scr (xs ((xI (i + 1)).toNatClampNeg))
  obtain ⟨z2, hz2, hr2⟩ := x_scr (xs ((xI (i + 2)).toNatClampNeg))
  obtain ⟨z3, hz3, hr3⟩ := x_scr (xs ((xI (i + 3)).toNatClampNeg))
  obtain ⟨z4, hz4, hr4⟩ := x_scr (xs ((xI (i + 4)).toNatClampNeg))
  obtain ⟨z5, hz5, hr5⟩ := x_scr (xs ((xI (i + 5)).toNatClampNeg))
  refine lv_aload_n hx hb dL_law_860 rfl (lv_at hl 1 rfl) ?_
  refine lv_aload_n hx hb dL_law_861 rfl (lv_at hl 0 rfl) ?_
  refine lv_iload_n hx hb dL_law_862 rfl (lv_at hl 3 rfl) ?_
  refine x_iconst hx hb dL_law_863 ?_
  refine x_iadd hx hb dL_law_864 ?_
  refine va_sld hx hb hX hbl hbA hS (xI_in (by omega)) dL_law_865 ?_
  refine x_toi z1 hz1 ?_
  refine lv_aload_n hx hb dL_law_866 rfl (lv_at hl 0 rfl) ?_
  refine lv_iload_n hx hb dL_law_867 rfl (lv_at hl 3 rfl) ?_
  refine x_iconst hx hb dL_law_868 ?_
  refine x_iadd hx hb dL_law_869 ?_
  refine va_sld hx hb hX hbl hbA hS (xI_in (by omega)) dL_law_870 ?_
  refine x_toi z2 hz2 ?_
  refine xv_i (i := 0) (As := [.int (xI z1), .int (xI z2)]) (rest := []) ⟨hx, hb, hml, hown, hts⟩ hl.1 (c_X4_at l D cA 68 ad en (by omega) hC z1 hr1 z2 hr2) k_X4_at u_ml_RL_78 hK hN hP (by omega) hC.1 rfl rfl rfl rfl (Nat.le_of_ble_eq_true rfl) ⟨Nat.le_of_ble_eq_true rfl, Nat.le_of_ble_eq_true rfl⟩ ⟨Nat.le_of_ble_eq_true rfl, Nat.le_of_ble_eq_true rfl⟩ dL_law_871 ?_
  obtain ⟨r1, ha1⟩ : ∃ z, z = xI (am_at S z1 z2) := ⟨_, rfl⟩
  rw [← ha1]
  refine lv_aload_n hx hb dL_law_874 rfl (lv_at hl 2 rfl) ?_
  refine lv_aload_n hx hb dL_law_875 rfl (lv_at hl 0 rfl) ?_
  refine lv_iload_n hx hb dL_law_876 rfl (lv_at hl 3 rfl) ?_
  refine x_iconst hx hb dL_law_877 ?_
  refine x_iadd hx hb dL_law_878 ?_
  refine va_sld hx hb hX hbl hbA hS (xI_in (by omega)) dL_law_879 ?_
  refine x_toi z1 hz1 ?_
  refine lv_aload_n hx hb dL_law_880 rfl (lv_at hl 0 rfl) ?_
  refine lv_iload_n hx hb dL_law_881 rfl (lv_at hl 3 rfl) ?_
  refine x_iconst hx hb dL_law_882 ?_
  refine x_iadd hx hb dL_law_883 ?_
  refine va_sld hx hb hX hbl hbA hS (xI_in (by omega)) dL_law_884 ?_
  refine x_toi z2 hz2 ?_
  refine xv_i (i := 53) (As := [.int (xI z1), .int (xI z2)]) (rest := [.int r1]) ⟨hx, hb, hml, hown, hts⟩ hl.1 (c_X5_at l D cA 68 ad en (by omega) hM hW hR z1 hr1 z2 hr2) k_X5_at u_ml_RL_81 hK hN hP (by omega) hM.1 rfl rfl rfl rfl (Nat.le_of_ble_eq_true rfl) ⟨Nat.le_of_ble_eq_true rfl, Nat.le_of_ble_eq_true rfl⟩ ⟨Nat.le_of_ble_eq_true rfl, Nat.le_of_ble_eq_true rfl⟩ dL_law_885 ?_
  obtain ⟨r2, ha2⟩ : ∃ z, z = xI (am_at S z1 z2) := ⟨_, rfl⟩
  rw [← ha2]
  exact lv_icmp_eq hx hb (tgt := 2030) dL_law_888 (by decide) (fun _ => kk _ _ _ _ _ hC hM hR hP hS) (fun q => absurd (ha1.trans ha2.symm) q)

set_option maxRecDepth 20000 in
set_option maxHeartbeats 1000000 in
theorem lc_size {p : Program} {l : Launch} {e : Env} {s : State} {m : MethodId} {below : List Frame} {meth : Method} {c : Code} {Q : State → Prop} {D : va_G} {cA : Nat → ClassId} {b L : Nat} {xs : Nat → Int32} (hE : LE p s m c b L xs D cA) {ad : Nat → Nat} (hD : xD (fun q => s.heap.size ≤ q) 68 ad) {S : xSt} {M : MO} {en : Nat → va_E} {H : Heap} {locs : List Loc} (hC : CW cA ad en S) (hM : MW cA ad en M) (hR : MR S M) (hP : va_P D vwCl (xw 68 ad en) H) (hS : va_S (fun q => s.heap.size ≤ q) s.heap H locs) {i : Int} (hi : 0 ≤ i ∧ i + 6 ≤ L ∧ L ≤ 3072) {ls : Array Slot} (hl : lv_has ls 4 [(0, .ref b), (1, .ref (ad 0)), (2, .ref (ad 53)), (3, .int (xI i))])
    (kk : ∀ (S1 : xSt) (M1 : MO) (en1 : Nat → va_E) (H1 : Heap) (locs1 : List Loc), CW cA ad en1 S1 → MW cA ad en1 M1 → MR S1 M1 → va_P D vwCl (xw 68 ad en1) H1 → va_S (fun q => s.heap.size ≤ q) s.heap H1 locs1 → W p l e room_1 s m #[Value.ref b] below meth c H1 locs1 68 8593 Q (F0 m 2030 ls [])) : W p l e room_1 s m #[Value.ref b] below meth c H locs 68 8593 Q (F0 m 893 ls []) := by
  obtain ⟨hx, hb, hml, hown, hts, hX, hbl, hK, hN, hZ⟩ := hE
  have hA : ∀ q : Nat, s.heap.size ≤ q → (fun q : Nat => s.heap.size ≤ q) q := fun _ h => h
  have hbA : ¬ (fun q : Nat => s.heap.size ≤ q) b := Nat.not_le.mpr hbl
  have hW : WF S := hC.wf
  obtain ⟨z1, hz1, hr1⟩ := x_scr (xs ((xI (i + 1)).toNatClampNeg))
  obtain ⟨z2, hz2, hr2⟩ := x_scr (xs ((xI (i + 2)).toNatClampNeg))
  obtain ⟨z3, hz3, hr3⟩ := x_scr (xs ((xI (i + 3)).toNatClampNeg))
  obtain ⟨z4, hz4, hr4⟩ := x_scr (xs ((xI (i + 4)).toNatClampNeg))
  obtain ⟨z5, hz5, hr5⟩ := x_scr (xs ((xI (i + 5)).toNatClampNeg))
  refine lv_aload_n hx hb dL_law_893 rfl (lv_at hl 1 rfl) ?_
  refine lv_aload_n hx hb dL_law_894 rfl (lv_at hl 0 rfl) ?_
  refine lv_iload_n hx hb dL_law_895 rfl (lv_at hl 3 rfl) ?_
  refine x_iconst hx hb dL_law_896 ?_
  refine x_iadd hx hb dL_law_897 ?_
  refine va_sld hx hb hX hbl hbA hS (xI_in (by omega)) dL_law_898 ?_
  refine x_toi z1 hz1 ?_
  refine xv_i (i := 0) (As := [.int (xI z1)]) (rest := []) ⟨hx, hb, hml, hown, hts⟩ hl.1 (c_X4_size l D cA 68 ad en (by omega) hC z1 hr1) k_X4_size u_ml_RL_82 hK hN hP (by omega) hC.1 rfl rfl rfl rfl (Nat.le_of_ble_eq_true rfl) ⟨Nat.le_of_ble_eq_true rfl, Nat.le_of_ble_eq_true rfl⟩ ⟨Nat.le_of_ble_eq_true rfl, Nat.le_of_ble_eq_true rfl⟩ dL_law_899 ?_
  obtain ⟨r1, ha1⟩ : ∃ z, z = xI (am_size S z1) := ⟨_, rfl⟩
  rw [← ha1]
  refine lv_aload_n hx hb dL_law_902 rfl (lv_at hl 2 rfl) ?_
  refine lv_aload_n hx hb dL_law_903 rfl (lv_at hl 0 rfl) ?_
  refine lv_iload_n hx hb dL_law_904 rfl (lv_at hl 3 rfl) ?_
  refine x_iconst hx hb dL_law_905 ?_
  refine x_iadd hx hb dL_law_906 ?_
  refine va_sld hx hb hX hbl hbA hS (xI_in (by omega)) dL_law_907 ?_
  refine x_toi z1 hz1 ?_
  refine xv_i (i := 53) (As := [.int (xI z1)]) (rest := [.int r1]) ⟨hx, hb, hml, hown, hts⟩ hl.1 (c_X5_size l D cA 68 ad en (by omega) hM hW hR z1 hr1) k_X5_size u_ml_RL_85 hK hN hP (by omega) hM.1 rfl rfl rfl rfl (Nat.le_of_ble_eq_true rfl) ⟨Nat.le_of_ble_eq_true rfl, Nat.le_of_ble_eq_true rfl⟩ ⟨Nat.le_of_ble_eq_true rfl, Nat.le_of_ble_eq_true rfl⟩ dL_law_908 ?_
  obtain ⟨r2, ha2⟩ : ∃ z, z = xI (am_size S z1) := ⟨_, rfl⟩
  rw [← ha2]
  exact lv_icmp_eq hx hb (tgt := 2030) dL_law_911 (by decide) (fun _ => kk _ _ _ _ _ hC hM hR hP hS) (fun q => absurd (ha1.trans ha2.symm) q)

set_option maxRecDepth 20000 in
set_option maxHeartbeats 1000000 in
theorem lc_first {p : Program} {l : Launch} {e : Env} {s : State} {m : MethodId} {below : List Frame} {meth : Method} {c : Code} {Q : State → Prop} {D : va_G} {cA : Nat → ClassId} {b L : Nat} {xs : Nat → Int32} (hE : LE p s m c b L xs D cA) {ad : Nat → Nat} (hD : xD (fun q => s.heap.size ≤ q) 68 ad) {S : xSt} {M : MO} {en : Nat → va_E} {H : Heap} {locs : List Loc} (hC : CW cA ad en S) (hM : MW cA ad en M) (hR : MR S M) (hP : va_P D vwCl (xw 68 ad en) H) (hS : va_S (fun q => s.heap.size ≤ q) s.heap H locs) {i : Int} (hi : 0 ≤ i ∧ i + 6 ≤ L ∧ L ≤ 3072) {ls : Array Slot} (hl : lv_has ls 4 [(0, .ref b), (1, .ref (ad 0)), (2, .ref (ad 53)), (3, .int (xI i))])
    (kk : ∀ (S1 : xSt) (M1 : MO) (en1 : Nat → va_E) (H1 : Heap) (locs1 : List Loc), CW cA ad en1 S1 → MW cA ad en1 M1 → MR S1 M1 → va_P D vwCl (xw 68 ad en1) H1 → va_S (fun q => s.heap.size ≤ q) s.heap H1 locs1 → W p l e room_1 s m #[Value.ref b] below meth c H1 locs1 68 8593 Q (F0 m 2030 ls [])) : W p l e room_1 s m #[Value.ref b] below meth c H locs 68 8593 Q (F0 m 916 ls []) := by
  obtain ⟨hx, hb, hml, hown, hts, hX, hbl, hK, hN, hZ⟩ := hE
  have hA : ∀ q : Nat, s.heap.size ≤ q → (fun q : Nat => s.heap.size ≤ q) q := fun _ h => h
  have hbA : ¬ (fun q : Nat => s.heap.size ≤ q) b := Nat.not_le.mpr hbl
  have hW : WF S := hC.wf
  obtain ⟨z1, hz1, hr1⟩ := x_scr (xs ((xI (i + 1)).toNatClampNeg))
  obtain ⟨z2, hz2, hr2⟩ := x_scr (xs ((xI (i + 2)).toNatClampNeg))
  obtain ⟨z3, hz3, hr3⟩ := x_scr (xs ((xI (i + 3)).toNatClampNeg))
  obtain ⟨z4, hz4, hr4⟩ := x_scr (xs ((xI (i + 4)).toNatClampNeg))
  obtain ⟨z5, hz5, hr5⟩ := x_scr (xs ((xI (i + 5)).toNatClampNeg))
  refine lv_aload_n hx hb dL_law_916 rfl (lv_at hl 1 rfl) ?_
  refine lv_aload_n hx hb dL_law_917 rfl (lv_at hl 0 rfl) ?_
  refine lv_iload_n hx hb dL_law_918 rfl (lv_at hl 3 rfl) ?_
  refine x_iconst hx hb dL_law_919 ?_
  refine x_iadd hx hb dL_law_920 ?_
  refine va_sld hx hb hX hbl hbA hS (xI_in (by omega)) dL_law_921 ?_
  refine x_toi z1 hz1 ?_
  refine lv_aload_n hx hb dL_law_922 rfl (lv_at hl 0 rfl) ?_
  refine lv_iload_n hx hb dL_law_923 rfl (lv_at hl 3 rfl) ?_
  refine x_iconst hx hb dL_law_924 ?_
  refine x_iadd hx hb dL_law_925 ?_
  refine va_sld hx hb hX hbl hbA hS (xI_in (by omega)) dL_law_926 ?_
  refine x_toi z2 hz2 ?_
  refine lv_aload_n hx hb dL_law_927 rfl (lv_at hl 0 rfl) ?_
  refine lv_iload_n hx hb dL_law_928 rfl (lv_at hl 3 rfl) ?_
  refine x_iconst hx hb dL_law_929 ?_
  refine x_iadd hx hb dL_law_930 ?_
  refine va_sld hx hb hX hbl hbA hS (xI_in (by omega)) dL_law_931 ?_
  refine x_toi z3 hz3 ?_
  refine xv_i (i := 0) (As := [.int (xI z1), .int (xI z2), .int (xI z3)]) (rest := []) ⟨hx, hb, hml, hown, hts⟩ hl.1 (c_X4_first l D cA 68 ad en (by omega) hC z1 hr1 z2 hr2 z3 hr3) k_X4_first u_ml_RL_86 hK hN hP (by omega) hC.1 rfl rfl rfl rfl (Nat.le_of_ble_eq_true rfl) ⟨Nat.le_of_ble_eq_true rfl, Nat.le_of_ble_eq_true rfl⟩ ⟨Nat.le_of_ble_eq_true rfl, Nat.le_of_ble_eq_true rfl⟩ dL_law_932 ?_
  obtain ⟨r1, ha1⟩ : ∃ z, z = xI (am_first S z1 z2 z3) := ⟨_, rfl⟩
  rw [← ha1]
  refine lv_aload_n hx hb dL_law_935 rfl (lv_at hl 2 rfl) ?_
  refine lv_aload_n hx hb dL_law_936 rfl (lv_at hl 0 rfl) ?_
  refine lv_iload_n hx hb dL_law_937 rfl (lv_at hl 3 rfl) ?_
  refine x_iconst hx hb dL_law_938 ?_
  refine x_iadd hx hb dL_law_939 ?_
  refine va_sld hx hb hX hbl hbA hS (xI_in (by omega)) dL_law_940 ?_
  refine x_toi z1 hz1 ?_
  refine lv_aload_n hx hb dL_law_941 rfl (lv_at hl 0 rfl) ?_
  refine lv_iload_n hx hb dL_law_942 rfl (lv_at hl 3 rfl) ?_
  refine x_iconst hx hb dL_law_943 ?_
  refine x_iadd hx hb dL_law_944 ?_
  refine va_sld hx hb hX hbl hbA hS (xI_in (by omega)) dL_law_945 ?_
  refine x_toi z2 hz2 ?_
  refine lv_aload_n hx hb dL_law_946 rfl (lv_at hl 0 rfl) ?_
  refine lv_iload_n hx hb dL_law_947 rfl (lv_at hl 3 rfl) ?_
  refine x_iconst hx hb dL_law_948 ?_
  refine x_iadd hx hb dL_law_949 ?_
  refine va_sld hx hb hX hbl hbA hS (xI_in (by omega)) dL_law_950 ?_
  refine x_toi z3 hz3 ?_
  refine xm_i (i := 53) (As := [.int (xI z1), .int (xI z2), .int (xI z3)]) (rest := [.int r1]) ⟨hx, hb, hml, hown, hts⟩ hl.1 (c_X5_first l D cA 68 ad en _ (by omega) hM hW hR z1 hr1 z2 hr2 z3 hr3) k_X5_first u_ml_RL_89 hK hN hP (by omega) hM.1 rfl rfl rfl rfl (Nat.le_of_ble_eq_true rfl) ⟨Nat.le_of_ble_eq_true rfl, Nat.le_of_ble_eq_true rfl⟩ ⟨Nat.le_of_ble_eq_true rfl, Nat.le_of_ble_eq_true rfl⟩ dL_law_951 hD hS hA (fun r2 ur2 H locs hpr2 hP hS => ?_)
  obtain ⟨ha2, M1, hM, hR1, ho2⟩ := hpr2
  have hC := hC.far ho2 (by omega)
  exact lv_icmp_eq hx hb (tgt := 2030) dL_law_954 (by decide) (fun _ => kk _ _ _ _ _ hC hM hR1 hP hS) (fun q => absurd (ha1.trans ha2.symm) q)

set_option maxRecDepth 20000 in
set_option maxHeartbeats 1000000 in
theorem lc_last {p : Program} {l : Launch} {e : Env} {s : State} {m : MethodId} {below : List Frame} {meth : Method} {c : Code} {Q : State → Prop} {D : va_G} {cA : Nat → ClassId} {b L : Nat} {xs : Nat → Int32} (hE : LE p s m c b L xs D cA) {ad : Nat → Nat} (hD : xD (fun q => s.heap.size ≤ q) 68 ad) {S : xSt} {M : MO} {en : Nat → va_E} {H : Heap} {locs : List Loc} (hC : CW cA ad en S) (hM : MW cA ad en M) (hR : MR S M) (hP : va_P D vwCl (xw 68 ad en) H) (hS : va_S (fun q => s.heap.size ≤ q) s.heap H locs) {i : Int} (hi : 0 ≤ i ∧ i + 6 ≤ L ∧ L ≤ 3072) {ls : Array Slot} (hl : lv_has ls 4 [(0, .ref b), (1, .ref (ad 0)), (2, .ref (ad 53)), (3, .int (xI i))])
    (kk : ∀ (S1 : xSt) (M1 : MO) (en1 : Nat → va_E) (H1 : Heap) (locs1 : List Loc), CW cA ad en1 S1 → MW cA ad en1 M1 → MR S1 M1 → va_P D vwCl (xw 68 ad en1) H1 → va_S (fun q => s.heap.size ≤ q) s.heap H1 locs1 → W p l e room_1 s m #[Value.ref b] below meth c H1 locs1 68 8593 Q (F0 m 2030 ls [])) : W p l e room_1 s m #[Value.ref b] below meth c H locs 68 8593 Q (F0 m 959 ls []) := by
  obtain ⟨hx, hb, hml, hown, hts, hX, hbl, hK, hN, hZ⟩ := hE
  have hA : ∀ q : Nat, s.heap.size ≤ q → (fun q : Nat => s.heap.size ≤ q) q := fun _ h => h
  have hbA : ¬ (fun q : Nat => s.heap.size ≤ q) b := Nat.not_le.mpr hbl
  have hW : WF S := hC.wf
  obtain ⟨z1, hz1, hr1⟩ := x_scr (xs ((xI (i + 1)).toNatClampNeg))
  obtain ⟨z2, hz2, hr2⟩ := x_scr (xs ((xI (i + 2)).toNatClampNeg))
  obtain ⟨z3, hz3, hr3⟩ := x_scr (xs ((xI (i + 3)).toNatClampNeg))
  obtain ⟨z4, hz4, hr4⟩ := x_scr (xs ((xI (i + 4)).toNatClampNeg))
  obtain ⟨z5, hz5, hr5⟩ := x_scr (xs ((xI (i + 5)).toNatClampNeg))
  refine lv_aload_n hx hb dL_law_959 rfl (lv_at hl 1 rfl) ?_
  refine lv_aload_n hx hb dL_law_960 rfl (lv_at hl 0 rfl) ?_
  refine lv_iload_n hx hb dL_law_961 rfl (lv_at hl 3 rfl) ?_
  refine x_iconst hx hb dL_law_962 ?_
  refine x_iadd hx hb dL_law_963 ?_
  refine va_sld hx hb hX hbl hbA hS (xI_in (by omega)) dL_law_964 ?_
  refine x_toi z1 hz1 ?_
  refine lv_aload_n hx hb dL_law_965 rfl (lv_at hl 0 rfl) ?_
  refine lv_iload_n hx hb dL_law_966 rfl (lv_at hl 3 rfl) ?_
  refine x_iconst hx hb dL_law_967 ?_
  refine x_iadd hx hb dL_law_968 ?_
  refine va_sld hx hb hX hbl hbA hS (xI_in (by omega)) dL_law_969 ?_
  refine x_toi z2 hz2 ?_
  refine lv_aload_n hx hb dL_law_970 rfl (lv_at hl 0 rfl) ?_
  refine lv_iload_n hx hb dL_law_971 rfl (lv_at hl 3 rfl) ?_
  refine x_iconst hx hb dL_law_972 ?_
  refine x_iadd hx hb dL_law_973 ?_
  refine va_sld hx hb hX hbl hbA hS (xI_in (by omega)) dL_law_974 ?_
  refine x_toi z3 hz3 ?_
  refine xv_i (i := 0) (As := [.int (xI z1), .int (xI z2), .int (xI z3)]) (rest := []) ⟨hx, hb, hml, hown, hts⟩ hl.1 (c_X4_last l D cA 68 ad en (by omega) hC z1 hr1 z2 hr2 z3 hr3) k_X4_last u_ml_RL_90 hK hN hP (by omega) hC.1 rfl rfl rfl rfl (Nat.le_of_ble_eq_true rfl) ⟨Nat.le_of_ble_eq_true rfl, Nat.le_of_ble_eq_true rfl⟩ ⟨Nat.le_of_ble_eq_true rfl, Nat.le_of_ble_eq_true rfl⟩ dL_law_975 ?_
  obtain ⟨r1, ha1⟩ : ∃ z, z = xI (am_last S z1 z2 z3) := ⟨_, rfl⟩
  rw [← ha1]
  refine lv_aload_n hx hb dL_law_978 rfl (lv_at hl 2 rfl) ?_
  refine lv_aload_n hx hb dL_law_979 rfl (lv_at hl 0 rfl) ?_
  refine lv_iload_n hx hb dL_law_980 rfl (lv_at hl 3 rfl) ?_
  refine x_iconst hx hb dL_law_981 ?_
  refine x_iadd hx hb dL_law_982 ?_
  refine va_sld hx hb hX hbl hbA hS (xI_in (by omega)) dL_law_983 ?_
  refine x_toi z1 hz1 ?_
  refine lv_aload_n hx hb dL_law_984 rfl (lv_at hl 0 rfl) ?_
  refine lv_iload_n hx hb dL_law_985 rfl (lv_at hl 3 rfl) ?_
  refine x_iconst hx hb dL_law_986 ?_
  refine x_iadd hx hb dL_law_987 ?_
  refine va_sld hx hb hX hbl hbA hS (xI_in (by omega)) dL_law_988 ?_
  refine x_toi z2 hz2 ?_
  refine lv_aload_n hx hb dL_law_989 rfl (lv_at hl 0 rfl) ?_
  refine lv_iload_n hx hb dL_law_990 rfl (lv_at hl 3 rfl) ?_
  refine x_iconst hx hb dL_law_991 ?_
  refine x_iadd hx hb dL_law_992 ?_
  refine va_sld hx hb hX hbl hbA hS (xI_in (by omega)) dL_law_993 ?_
  refine x_toi z3 hz3 ?_
  refine xm_i (i := 53) (As := [.int (xI z1), .int (xI z2), .int (xI z3)]) (rest := [.int r1]) ⟨hx, hb, hml, hown, hts⟩ hl.1 (c_X5_last l D cA 68 ad en _ (by omega) hM hW hR z1 hr1 z2 hr2 z3 hr3) k_X5_last u_ml_RL_93 hK hN hP (by omega) hM.1 rfl rfl rfl rfl (Nat.le_of_ble_eq_true rfl) ⟨Nat.le_of_ble_eq_true rfl, Nat.le_of_ble_eq_true rfl⟩ ⟨Nat.le_of_ble_eq_true rfl, Nat.le_of_ble_eq_true rfl⟩ dL_law_994 hD hS hA (fun r2 ur2 H locs hpr2 hP hS => ?_)
  obtain ⟨ha2, M1, hM, hR1, ho2⟩ := hpr2
  have hC := hC.far ho2 (by omega)
  exact lv_icmp_eq hx hb (tgt := 2030) dL_law_997 (by decide) (fun _ => kk _ _ _ _ _ hC hM hR1 hP hS) (fun q => absurd (ha1.trans ha2.symm) q)
