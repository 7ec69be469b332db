/-! the law: cases -/
set_option maxRecDepth 20000 in
set_option maxHeartbeats 1000000 in
theorem lc_take {p : Program} {l : Launch} {e : Env} {s : State} {m : MethodId} {below : List Frame} {meth : Method} {c : Code} {Q : State → Prop} {D : va_G} {cA : Nat → ClassId} {b L : Nat} {xs : Nat → Int32} (hE : LE p s m c b L xs D cA) {ad : Nat → Nat} (hD : xD (fun q => s.heap.size ≤ q) 68 ad) {S : xSt} {M : MO} {en : Nat → va_E} {H : Heap} {locs : List Loc} (hC : CW cA ad en S) (hM : MW cA ad en M) (hR : MR S M) (hP : va_P D vwCl (xw 68 ad en) H) (hS : va_S (fun q => s.heap.size ≤ q) s.heap H locs) {i : Int} (hi : 0 ≤ i ∧ i + 6 ≤ L ∧ L ≤ 3072) {ls : Array Slot} (hl : lv_has ls 4 [(0, .ref b), (1, .ref (ad 0)), (2, .ref (ad 53)), (3, .int (xI i))])
    (kk : ∀ (S1 : xSt) (M1 : MO) (en1 : Nat → va_E) (H1 : Heap) (locs1 : List Loc), CW cA ad en1 S1 → MW cA ad en1 M1 → MR S1 M1 → va_P D vwCl (xw 68 ad en1) H1 → va_S (fun q => s.heap.size ≤ q) s.heap H1 locs1 → W p l e room_1 s m #[Value.ref b] below meth c H1 locs1 68 8593 Q (F0 m 2030 ls [])) : W p l e room_1 s m #[Value.ref b] below meth c H locs 68 8593 Q (F0 m 1002 ls []) := by
  obtain ⟨hx, hb, hml, hown, hts, hX, hbl, hK, hN, hZ⟩ := hE
  have hA : ∀ q : Nat, s.heap.size ≤ q → (fun q : Nat => s.heap.size ≤ q) q := fun _ h => h
  have hbA : ¬ (fun q : Nat => s.heap.size ≤ q) b := Nat.not_le.mpr hbl
  have hW : WF S := hC.wf
  obtain ⟨z1, hz1, hr1⟩ := x_scr (xs ((xI (i + 1)).toNatClampNeg))
  obtain ⟨z2, hz2, hr2⟩ := x_scr (xs ((xI (i + 2)).toNatClampNeg))
  obtain ⟨z3, hz3, hr3⟩ := x_scr (xs ((xI (i + 3)).toNatClampNeg))
  obtain ⟨z4, hz4, hr4⟩ := x_scr (xs ((xI (i + 4)).toNatClampNeg))
  obtain ⟨z5, hz5, hr5⟩ := x_scr (xs ((xI (i + 5)).toNatClampNeg))
  refine lv_aload_n hx hb dL_law_1002 rfl (lv_at hl 1 rfl) ?_
  refine lv_aload_n hx hb dL_law_1003 rfl (lv_at hl 0 rfl) ?_
  refine lv_iload_n hx hb dL_law_1004 rfl (lv_at hl 3 rfl) ?_
  refine x_iconst hx hb dL_law_1005 ?_
  refine x_iadd hx hb dL_law_1006 ?_
  refine va_sld hx hb hX hbl hbA hS (xI_in (by omega)) dL_law_1007 ?_
  refine x_toi z1 hz1 ?_
  refine lv_aload_n hx hb dL_law_1008 rfl (lv_at hl 0 rfl) ?_
  refine lv_iload_n hx hb dL_law_1009 rfl (lv_at hl 3 rfl) ?_
  refine x_iconst hx hb dL_law_1010 ?_
  refine x_iadd hx hb dL_law_1011 ?_
  refine va_sld hx hb hX hbl hbA hS (xI_in (by omega)) dL_law_1012 ?_
  refine x_toi z2 hz2 ?_
  refine lv_aload_n hx hb dL_law_1013 rfl (lv_at hl 0 rfl) ?_
  refine lv_iload_n hx hb dL_law_1014 rfl (lv_at hl 3 rfl) ?_
  refine x_iconst hx hb dL_law_1015 ?_
  refine x_iadd hx hb dL_law_1016 ?_
  refine va_sld hx hb hX hbl hbA hS (xI_in (by omega)) dL_law_1017 ?_
  refine x_toi z3 hz3 ?_
  refine lv_aload_n hx hb dL_law_1018 rfl (lv_at hl 0 rfl) ?_
  refine lv_iload_n hx hb dL_law_1019 rfl (lv_at hl 3 rfl) ?_
  refine x_iconst hx hb dL_law_1020 ?_
  refine x_iadd hx hb dL_law_1021 ?_
  refine va_sld hx hb hX hbl hbA hS (xI_in (by omega)) dL_law_1022 ?_
  refine x_toi z4 hz4 ?_
  refine xm_i (i := 0) (As := [.int (xI z1), .int (xI z2), .int (xI z3), .int (xI z4)]) (rest := []) ⟨hx, hb, hml, hown, hts⟩ hl.1 (c_X4_take l D cA 68 ad en _ (by omega) hC z1 hr1 z2 hr2 z3 hr3 z4 hr4) k_X4_take u_ml_RL_94 hK hN hP (by omega) hC.1 rfl rfl rfl rfl (Nat.le_of_ble_eq_true rfl) ⟨Nat.le_of_ble_eq_true rfl, Nat.le_of_ble_eq_true rfl⟩ ⟨Nat.le_of_ble_eq_true rfl, Nat.le_of_ble_eq_true rfl⟩ dL_law_1023 hD hS hA (fun r1 ur1 H locs hpr1 hP hS => ?_)
  obtain ⟨ha1, hC, ho1⟩ := hpr1
  have hM := hM.ko ho1 (by omega)
  refine lv_aload_n hx hb dL_law_1026 rfl (lv_at hl 2 rfl) ?_
  refine lv_aload_n hx hb dL_law_1027 rfl (lv_at hl 0 rfl) ?_
  refine lv_iload_n hx hb dL_law_1028 rfl (lv_at hl 3 rfl) ?_
  refine x_iconst hx hb dL_law_1029 ?_
  refine x_iadd hx hb dL_law_1030 ?_
  refine va_sld hx hb hX hbl hbA hS (xI_in (by omega)) dL_law_1031 ?_
  refine x_toi z1 hz1 ?_
  refine lv_aload_n hx hb dL_law_1032 rfl (lv_at hl 0 rfl) ?_
  refine lv_iload_n hx hb dL_law_1033 rfl (lv_at hl 3 rfl) ?_
  refine x_iconst hx hb dL_law_1034 ?_
  refine x_iadd hx hb dL_law_1035 ?_
  refine va_sld hx hb hX hbl hbA hS (xI_in (by omega)) dL_law_1036 ?_
  refine x_toi z2 hz2 ?_
  refine lv_aload_n hx hb dL_law_1037 rfl (lv_at hl 0 rfl) ?_
  refine lv_iload_n hx hb dL_law_1038 rfl (lv_at hl 3 rfl) ?_
  refine x_iconst hx hb dL_law_1039 ?_
  refine x_iadd hx hb dL_law_1040 ?_
  refine va_sld hx hb hX hbl hbA hS (xI_in (by omega)) dL_law_1041 ?_
  refine x_toi z3 hz3 ?_
  refine lv_aload_n hx hb dL_law_1042 rfl (lv_at hl 0 rfl) ?_
  refine lv_iload_n hx hb dL_law_1043 rfl (lv_at hl 3 rfl) ?_
  refine x_iconst hx hb dL_law_1044 ?_
  refine x_iadd hx hb dL_law_1045 ?_
  refine va_sld hx hb hX hbl hbA hS (xI_in (by omega)) dL_law_1046 ?_
  refine x_toi z4 hz4 ?_
  refine xm_i (i := 53) (As := [.int (xI z1), .int (xI z2), .int (xI z3), .int (xI z4)]) (rest := [.int r1]) ⟨hx, hb, hml, hown, hts⟩ hl.1 (c_X5_take l D cA 68 ad ur1 _ (by omega) hM hW hR z1 hr1 z2 hr2 z3 hr3 z4 hr4) k_X5_take u_ml_RL_97 hK hN hP (by omega) hM.1 rfl rfl rfl rfl (Nat.le_of_ble_eq_true rfl) ⟨Nat.le_of_ble_eq_true rfl, Nat.le_of_ble_eq_true rfl⟩ ⟨Nat.le_of_ble_eq_true rfl, Nat.le_of_ble_eq_true rfl⟩ dL_law_1047 hD hS hA (fun r2 ur2 H locs hpr2 hP hS => ?_)
  obtain ⟨ha2, M1, hM, hR1, ho2⟩ := hpr2
  have hC := hC.far ho2 (by omega)
  exact lv_icmp_eq hx hb (tgt := 2030) dL_law_1050 (by decide) (fun _ => kk _ _ _ _ _ hC hM hR1 hP hS) (fun q => absurd (ha1.trans ha2.symm) q)

set_option maxRecDepth 20000 in
set_option maxHeartbeats 1000000 in
theorem lc_ahead {p : Program} {l : Launch} {e : Env} {s : State} {m : MethodId} {below : List Frame} {meth : Method} {c : Code} {Q : State → Prop} {D : va_G} {cA : Nat → ClassId} {b L : Nat} {xs : Nat → Int32} (hE : LE p s m c b L xs D cA) {ad : Nat → Nat} (hD : xD (fun q => s.heap.size ≤ q) 68 ad) {S : xSt} {M : MO} {en : Nat → va_E} {H : Heap} {locs : List Loc} (hC : CW cA ad en S) (hM : MW cA ad en M) (hR : MR S M) (hP : va_P D vwCl (xw 68 ad en) H) (hS : va_S (fun q => s.heap.size ≤ q) s.heap H locs) {i : Int} (hi : 0 ≤ i ∧ i + 6 ≤ L ∧ L ≤ 3072) {ls : Array Slot} (hl : lv_has ls 4 [(0, .ref b), (1, .ref (ad 0)), (2, .ref (ad 53)), (3, .int (xI i))])
    (kk : ∀ (S1 : xSt) (M1 : MO) (en1 : Nat → va_E) (H1 : Heap) (locs1 : List Loc), CW cA ad en1 S1 → MW cA ad en1 M1 → MR S1 M1 → va_P D vwCl (xw 68 ad en1) H1 → va_S (fun q => s.heap.size ≤ q) s.heap H1 locs1 → W p l e room_1 s m #[Value.ref b] below meth c H1 locs1 68 8593 Q (F0 m 2030 ls [])) : W p l e room_1 s m #[Value.ref b] below meth c H locs 68 8593 Q (F0 m 1055 ls []) := by
  obtain ⟨hx, hb, hml, hown, hts, hX, hbl, hK, hN, hZ⟩ := hE
  have hA : ∀ q : Nat, s.heap.size ≤ q → (fun q : Nat => s.heap.size ≤ q) q := fun _ h => h
  have hbA : ¬ (fun q : Nat => s.heap.size ≤ q) b := Nat.not_le.mpr hbl
  have hW : WF S := hC.wf
  obtain ⟨z1, hz1, hr1⟩ := x_scr (xs ((xI (i + 1)).toNatClampNeg))
  obtain ⟨z2, hz2, hr2⟩ := x_scr (xs ((xI (i + 2)).toNatClampNeg))
  obtain ⟨z3, hz3, hr3⟩ := x_scr (xs ((xI (i + 3)).toNatClampNeg))
  obtain ⟨z4, hz4, hr4⟩ := x_scr (xs ((xI (i + 4)).toNatClampNeg))
  obtain ⟨z5, hz5, hr5⟩ := x_scr (xs ((xI (i + 5)).toNatClampNeg))
  refine lv_aload_n hx hb dL_law_1055 rfl (lv_at hl 1 rfl) ?_
  refine lv_aload_n hx hb dL_law_1056 rfl (lv_at hl 0 rfl) ?_
  refine lv_iload_n hx hb dL_law_1057 rfl (lv_at hl 3 rfl) ?_
  refine x_iconst hx hb dL_law_1058 ?_
  refine x_iadd hx hb dL_law_1059 ?_
  refine va_sld hx hb hX hbl hbA hS (xI_in (by omega)) dL_law_1060 ?_
  refine x_toi z1 hz1 ?_
  refine lv_aload_n hx hb dL_law_1061 rfl (lv_at hl 0 rfl) ?_
  refine lv_iload_n hx hb dL_law_1062 rfl (lv_at hl 3 rfl) ?_
  refine x_iconst hx hb dL_law_1063 ?_
  refine x_iadd hx hb dL_law_1064 ?_
  refine va_sld hx hb hX hbl hbA hS (xI_in (by omega)) dL_law_1065 ?_
  refine x_toi z2 hz2 ?_
  refine xv_i (i := 0) (As := [.int (xI z1), .int (xI z2)]) (rest := []) ⟨hx, hb, hml, hown, hts⟩ hl.1 (c_X4_ahead l D cA 68 ad en (by omega) hC z1 hr1 z2 hr2) k_X4_ahead u_ml_RL_98 hK hN hP (by omega) hC.1 rfl rfl rfl rfl (Nat.le_of_ble_eq_true rfl) ⟨Nat.le_of_ble_eq_true rfl, Nat.le_of_ble_eq_true rfl⟩ ⟨Nat.le_of_ble_eq_true rfl, Nat.le_of_ble_eq_true rfl⟩ dL_law_1066 ?_
  obtain ⟨r1, ha1⟩ : ∃ z, z = xI (am_ahead S z1 z2) := ⟨_, rfl⟩
  rw [← ha1]
  refine lv_aload_n hx hb dL_law_1069 rfl (lv_at hl 2 rfl) ?_
  refine lv_aload_n hx hb dL_law_1070 rfl (lv_at hl 0 rfl) ?_
  refine lv_iload_n hx hb dL_law_1071 rfl (lv_at hl 3 rfl) ?_
  refine x_iconst hx hb dL_law_1072 ?_
  refine x_iadd hx hb dL_law_1073 ?_
  refine va_sld hx hb hX hbl hbA hS (xI_in (by omega)) dL_law_1074 ?_
  refine x_toi z1 hz1 ?_
  refine lv_aload_n hx hb dL_law_1075 rfl (lv_at hl 0 rfl) ?_
  refine lv_iload_n hx hb dL_law_1076 rfl (lv_at hl 3 rfl) ?_
  refine x_iconst hx hb dL_law_1077 ?_
  refine x_iadd hx hb dL_law_1078 ?_
  refine va_sld hx hb hX hbl hbA hS (xI_in (by omega)) dL_law_1079 ?_
  refine x_toi z2 hz2 ?_
  refine xv_i (i := 53) (As := [.int (xI z1), .int (xI z2)]) (rest := [.int r1]) ⟨hx, hb, hml, hown, hts⟩ hl.1 (c_X5_ahead l D cA 68 ad en (by omega) hM hW hR z1 hr1 z2 hr2) k_X5_ahead u_ml_RL_101 hK hN hP (by omega) hM.1 rfl rfl rfl rfl (Nat.le_of_ble_eq_true rfl) ⟨Nat.le_of_ble_eq_true rfl, Nat.le_of_ble_eq_true rfl⟩ ⟨Nat.le_of_ble_eq_true rfl, Nat.le_of_ble_eq_true rfl⟩ dL_law_1080 ?_
  obtain ⟨r2, ha2⟩ : ∃ z, z = xI (am_ahead S z1 z2) := ⟨_, rfl⟩
  rw [← ha2]
  exact lv_icmp_eq hx hb (tgt := 2030) dL_law_1083 (by decide) (fun _ => kk _ _ _ _ _ hC hM hR hP hS) (fun q => absurd (ha1.trans ha2.symm) q)

set_option maxRecDepth 20000 in
set_option maxHeartbeats 1000000 in
theorem lc_forget {p : Program} {l : Launch} {e : Env} {s : State} {m : MethodId} {below : List Frame} {meth : Method} {c : Code} {Q : State → Prop} {D : va_G} {cA : Nat → ClassId} {b L : Nat} {xs : Nat → Int32} (hE : LE p s m c b L xs D cA) {ad : Nat → Nat} (hD : xD (fun q => s.heap.size ≤ q) 68 ad) {S : xSt} {M : MO} {en : Nat → va_E} {H : Heap} {locs : List Loc} (hC : CW cA ad en S) (hM : MW cA ad en M) (hR : MR S M) (hP : va_P D vwCl (xw 68 ad en) H) (hS : va_S (fun q => s.heap.size ≤ q) s.heap H locs) {i : Int} (hi : 0 ≤ i ∧ i + 6 ≤ L ∧ L ≤ 3072) {ls : Array Slot} (hl : lv_has ls 4 [(0, .ref b), (1, .ref (ad 0)), (2, .ref (ad 53)), (3, .int (xI i))])
    (kk : ∀ (S1 : xSt) (M1 : MO) (en1 : Nat → va_E) (H1 : Heap) (locs1 : List Loc), CW cA ad en1 S1 → MW cA ad en1 M1 → MR S1 M1 → va_P D vwCl (xw 68 ad en1) H1 → va_S (fun q => s.heap.size ≤ q) s.heap H1 locs1 → W p l e room_1 s m #[Value.ref b] below meth c H1 locs1 68 8593 Q (F0 m 2030 ls [])) : W p l e room_1 s m #[Value.ref b] below meth c H locs 68 8593 Q (F0 m 1088 ls []) := by
  obtain ⟨hx, hb, hml, hown, hts, hX, hbl, hK, hN, hZ⟩ := hE
  have hA : ∀ q : Nat, s.heap.size ≤ q → (fun q : Nat => s.heap.size ≤ q) q := fun _ h => h
  have hbA : ¬ (fun q : Nat => s.heap.size ≤ q) b := Nat.not_le.mpr hbl
  have hW : WF S := hC.wf
  obtain ⟨z1, hz1, hr1⟩ := x_scr (xs ((xI (i + 1)).toNatClampNeg))
  obtain ⟨z2, hz2, hr2⟩ := x_scr (xs ((xI (i + 2)).toNatClampNeg))
  obtain ⟨z3, hz3, hr3⟩ := x_scr (xs ((xI (i + 3)).toNatClampNeg))
  obtain ⟨z4, hz4, hr4⟩ := x_scr (xs ((xI (i + 4)).toNatClampNeg))
  obtain ⟨z5, hz5, hr5⟩ := x_scr (xs ((xI (i + 5)).toNatClampNeg))
  refine lv_aload_n hx hb dL_law_1088 rfl (lv_at hl 1 rfl) ?_
  refine lv_aload_n hx hb dL_law_1089 rfl (lv_at hl 0 rfl) ?_
  refine lv_iload_n hx hb dL_law_1090 rfl (lv_at hl 3 rfl) ?_
  refine x_iconst hx hb dL_law_1091 ?_
  refine x_iadd hx hb dL_law_1092 ?_
  refine va_sld hx hb hX hbl hbA hS (xI_in (by omega)) dL_law_1093 ?_
  refine x_toi z1 hz1 ?_
  refine xm_i (i := 0) (As := [.int (xI z1)]) (rest := []) ⟨hx, hb, hml, hown, hts⟩ hl.1 (c_X4_forget l D cA 68 ad en _ (by omega) hC z1 hr1) k_X4_forget u_ml_RL_102 hK hN hP (by omega) hC.1 rfl rfl rfl rfl (Nat.le_of_ble_eq_true rfl) ⟨Nat.le_of_ble_eq_true rfl, Nat.le_of_ble_eq_true rfl⟩ ⟨Nat.le_of_ble_eq_true rfl, Nat.le_of_ble_eq_true rfl⟩ dL_law_1094 hD hS hA (fun r1 ur1 H locs hpr1 hP hS => ?_)
  obtain ⟨ha1, hC, ho1⟩ := hpr1
  have hM := hM.ko ho1 (by omega)
  refine lv_aload_n hx hb dL_law_1097 rfl (lv_at hl 2 rfl) ?_
  refine lv_aload_n hx hb dL_law_1098 rfl (lv_at hl 0 rfl) ?_
  refine lv_iload_n hx hb dL_law_1099 rfl (lv_at hl 3 rfl) ?_
  refine x_iconst hx hb dL_law_1100 ?_
  refine x_iadd hx hb dL_law_1101 ?_
  refine va_sld hx hb hX hbl hbA hS (xI_in (by omega)) dL_law_1102 ?_
  refine x_toi z1 hz1 ?_
  refine xm_i (i := 53) (As := [.int (xI z1)]) (rest := [.int r1]) ⟨hx, hb, hml, hown, hts⟩ hl.1 (c_X5_forget l D cA 68 ad ur1 _ (by omega) hM hW hR z1 hr1) k_X5_forget u_ml_RL_105 hK hN hP (by omega) hM.1 rfl rfl rfl rfl (Nat.le_of_ble_eq_true rfl) ⟨Nat.le_of_ble_eq_true rfl, Nat.le_of_ble_eq_true rfl⟩ ⟨Nat.le_of_ble_eq_true rfl, Nat.le_of_ble_eq_true rfl⟩ dL_law_1103 hD hS hA (fun r2 ur2 H locs hpr2 hP hS => ?_)
  obtain ⟨ha2, M1, hM, hR1, ho2⟩ := hpr2
  have hC := hC.far ho2 (by omega)
  exact lv_icmp_eq hx hb (tgt := 2030) dL_law_1106 (by decide) (fun _ => kk _ _ _ _ _ hC hM hR1 hP hS) (fun q => absurd (ha1.trans ha2.symm) q)

set_option maxRecDepth 20000 in
set_option maxHeartbeats 1000000 in
theorem lc_textSize {p : Program} {l : Launch} {e : Env} {s : State} {m : MethodId} {below : List Frame} {meth : Method} {c : Code} {Q : State → Prop} {D : va_G} {cA : Nat → ClassId} {b L : Nat} {xs : Nat → Int32} (hE : LE p s m c b L xs D cA) {ad : Nat → Nat} (hD : xD (fun q => s.heap.size ≤ q) 68 ad) {S : xSt} {M : MO} {en : Nat → va_E} {H : Heap} {locs : List Loc} (hC : CW cA ad en S) (hM : MW cA ad en M) (hR : MR S M) (hP : va_P D vwCl (xw 68 ad en) H) (hS : va_S (fun q => s.heap.size ≤ q) s.heap H locs) {i : Int} (hi : 0 ≤ i ∧ i + 6 ≤ L ∧ L ≤ 3072) {ls : Array Slot} (hl : lv_has ls 4 [(0, .ref b), (1, .ref (ad 0)), (2, .ref (ad 53)), (3, .int (xI i))])
    (kk : ∀ (S1 : xSt) (M1 : MO) (en1 : Nat → va_E) (H1 : Heap) (locs1 : List Loc), CW cA ad en1 S1 → MW cA ad en1 M1 → MR S1 M1 → va_P D vwCl (xw 68 ad en1) H1 → va_S (fun q => s.heap.size ≤ q) s.heap H1 locs1 → W p l e room_1 s m #[Value.ref b] below meth c H1 locs1 68 8593 Q (F0 m 2030 ls [])) : W p l e room_1 s m #[Value.ref b] below meth c H locs 68 8593 Q (F0 m 1111 ls []) := by
  obtain ⟨hx, hb, hml, hown, hts, hX, hbl, hK, hN, hZ⟩ := hE
  have hA : ∀ q : Nat, s.heap.size ≤ q → (fun q : Nat => s.heap.size ≤ q) q := fun _ h => h
  have hbA : ¬ (fun q : Nat => s.heap.size ≤ q) b := Nat.not_le.mpr hbl
  have hW : WF S := hC.wf
  obtain ⟨z1, hz1, hr1⟩ := x_scr (xs ((xI (i + 1)).toNatClampNeg))
  obtain ⟨z2, hz2, hr2⟩ := x_scr (xs ((xI (i + 2)).toNatClampNeg))
  obtain ⟨z3, hz3, hr3⟩ := x_scr (xs ((xI (i + 3)).toNatClampNeg))
  obtain ⟨z4, hz4, hr4⟩ := x_scr (xs ((xI (i + 4)).toNatClampNeg))
  obtain ⟨z5, hz5, hr5⟩ := x_scr (xs ((xI (i + 5)).toNatClampNeg))
  refine lv_aload_n hx hb dL_law_1111 rfl (lv_at hl 1 rfl) ?_
  refine lv_aload_n hx hb dL_law_1112 rfl (lv_at hl 0 rfl) ?_
  refine lv_iload_n hx hb dL_law_1113 rfl (lv_at hl 3 rfl) ?_
  refine x_iconst hx hb dL_law_1114 ?_
  refine x_iadd hx hb dL_law_1115 ?_
  refine va_sld hx hb hX hbl hbA hS (xI_in (by omega)) dL_law_1116 ?_
  refine x_toi z1 hz1 ?_
  refine xv_i (i := 0) (As := [.int (xI z1)]) (rest := []) ⟨hx, hb, hml, hown, hts⟩ hl.1 (c_X4_textSize l D cA 68 ad en (by omega) hC z1 hr1) k_X4_textSize u_ml_RL_106 hK hN hP (by omega) hC.1 rfl rfl rfl rfl (Nat.le_of_ble_eq_true rfl) ⟨Nat.le_of_ble_eq_true rfl, Nat.le_of_ble_eq_true rfl⟩ ⟨Nat.le_of_ble_eq_true rfl, Nat.le_of_ble_eq_true rfl⟩ dL_law_1117 ?_
  obtain ⟨r1, ha1⟩ : ∃ z, z = xI (am_textSize S z1) := ⟨_, rfl⟩
  rw [← ha1]
  refine lv_aload_n hx hb dL_law_1120 rfl (lv_at hl 2 rfl) ?_
  refine lv_aload_n hx hb dL_law_1121 rfl (lv_at hl 0 rfl) ?_
  refine lv_iload_n hx hb dL_law_1122 rfl (lv_at hl 3 rfl) ?_
  refine x_iconst hx hb dL_law_1123 ?_
  refine x_iadd hx hb dL_law_1124 ?_
  refine va_sld hx hb hX hbl hbA hS (xI_in (by omega)) dL_law_1125 ?_
  refine x_toi z1 hz1 ?_
  refine xv_i (i := 53) (As := [.int (xI z1)]) (rest := [.int r1]) ⟨hx, hb, hml, hown, hts⟩ hl.1 (c_X5_textSize l D cA 68 ad en (by omega) hM hW hR z1 hr1) k_X5_textSize u_ml_RL_109 hK hN hP (by omega) hM.1 rfl rfl rfl rfl (Nat.le_of_ble_eq_true rfl) ⟨Nat.le_of_ble_eq_true rfl, Nat.le_of_ble_eq_true rfl⟩ ⟨Nat.le_of_ble_eq_true rfl, Nat.le_of_ble_eq_true rfl⟩ dL_law_1126 ?_
  obtain ⟨r2, ha2⟩ : ∃ z, z = xI (am_textSize S z1) := ⟨_, rfl⟩
  rw [← ha2]
  exact lv_icmp_eq hx hb (tgt := 2030) dL_law_1129 (by decide) (fun _ => kk _ _ _ _ _ hC hM hR hP hS) (fun q => absurd (ha1.trans ha2.symm) q)

set_option maxRecDepth 20000 in
set_option maxHeartbeats 1000000 in
theorem lc_signAt {p : Program} {l : Launch} {e : Env} {s : State} {m : MethodId} {below : List Frame} {meth : Method} {c : Code} {Q : State → Prop} {D : va_G} {cA : Nat → ClassId} {b L : Nat} {xs : Nat → Int32} (hE : LE p s m c b L xs D cA) {ad : Nat → Nat} (hD : xD (fun q => s.heap.size ≤ q) 68 ad) {S : xSt} {M : MO} {en : Nat → va_E} {H : Heap} {locs : List Loc} (hC : CW cA ad en S) (hM : MW cA ad en M) (hR : MR S M) (hP : va_P D vwCl (xw 68 ad en) H) (hS : va_S (fun q => s.heap.size ≤ q) s.heap H locs) {i : Int} (hi : 0 ≤ i ∧ i + 6 ≤ L ∧ L ≤ 3072) {ls : Array Slot} (hl : lv_has ls 4 [(0, .ref b), (1, .ref (ad 0)), (2, .ref (ad 53)), (3, .int (xI i))])
    (kk : ∀ (S1 : xSt) (M1 : MO) (en1 : Nat → va_E) (H1 : Heap) (locs1 : List Loc), CW cA ad en1 S1 → MW cA ad en1 M1 → MR S1 M1 → va_P D vwCl (xw 68 ad en1) H1 → va_S (fun q => s.heap.size ≤ q) s.heap H1 locs1 → W p l e room_1 s m #[Value.ref b] below meth c H1 locs1 68 8593 Q (F0 m 2030 ls [])) : W p l e room_1 s m #[Value.ref b] below meth c H locs 68 8593 Q (F0 m 1134 ls []) := by
  obtain ⟨hx, hb, hml, hown, hts, hX, hbl, hK, hN, hZ⟩ := hE
  have hA : ∀ q : Nat, s.heap.size ≤ q → (fun q : Nat => s.heap.size ≤ q) q := fun _ h => h
  have hbA : ¬ (fun q : Nat => s.heap.size ≤ q) b := Nat.not_le.mpr hbl
  have hW : WF S := hC.wf
  obtain ⟨z1, hz1, hr1⟩ := x_scr (xs ((xI (i + 1)).toNatClampNeg))
  obtain ⟨z2, hz2, hr2⟩ := x_scr (xs ((xI (i + 2)).toNatClampNeg))
  obtain ⟨z3, hz3, hr3⟩ := x_scr (xs ((xI (i + 3)).toNatClampNeg))
  obtain ⟨z4, hz4, hr4⟩ := x_scr (xs ((xI (i + 4)).toNatClampNeg))
  obtain ⟨z5, hz5, hr5⟩ := x_scr (xs ((xI (i + 5)).toNatClampNeg))
  refine lv_aload_n hx hb dL_law_1134 rfl (lv_at hl 1 rfl) ?_
  refine lv_aload_n hx hb dL_law_1135 rfl (lv_at hl 0 rfl) ?_
  refine lv_iload_n hx hb dL_law_1136 rfl (lv_at hl 3 rfl) ?_
  refine x_iconst hx hb dL_law_1137 ?_
  refine x_iadd hx hb dL_law_1138 ?_
  refine va_sld hx hb hX hbl hbA hS (xI_in (by omega)) dL_law_1139 ?_
  refine x_toi z1 hz1 ?_
  refine lv_aload_n hx hb dL_law_1140 rfl (lv_at hl 0 rfl) ?_
  refine lv_iload_n hx hb dL_law_1141 rfl (lv_at hl 3 rfl) ?_
  refine x_iconst hx hb dL_law_1142 ?_
  refine x_iadd hx hb dL_law_1143 ?_
  refine va_sld hx hb hX hbl hbA hS (xI_in (by omega)) dL_law_1144 ?_
  refine x_toi z2 hz2 ?_
  refine xv_i (i := 0) (As := [.int (xI z1), .int (xI z2)]) (rest := []) ⟨hx, hb, hml, hown, hts⟩ hl.1 (c_X4_signAt l D cA 68 ad en (by omega) hC z1 hr1 z2 hr2) k_X4_signAt u_ml_RL_110 hK hN hP (by omega) hC.1 rfl rfl rfl rfl (Nat.le_of_ble_eq_true rfl) ⟨Nat.le_of_ble_eq_true rfl, Nat.le_of_ble_eq_true rfl⟩ ⟨Nat.le_of_ble_eq_true rfl, Nat.le_of_ble_eq_true rfl⟩ dL_law_1145 ?_
  obtain ⟨r1, ha1⟩ : ∃ z, z = xI (am_signAt S z1 z2) := ⟨_, rfl⟩
  rw [← ha1]
  refine lv_aload_n hx hb dL_law_1148 rfl (lv_at hl 2 rfl) ?_
  refine lv_aload_n hx hb dL_law_1149 rfl (lv_at hl 0 rfl) ?_
  refine lv_iload_n hx hb dL_law_1150 rfl (lv_at hl 3 rfl) ?_
  refine x_iconst hx hb dL_law_1151 ?_
  refine x_iadd hx hb dL_law_1152 ?_
  refine va_sld hx hb hX hbl hbA hS (xI_in (by omega)) dL_law_1153 ?_
  refine x_toi z1 hz1 ?_
  refine lv_aload_n hx hb dL_law_1154 rfl (lv_at hl 0 rfl) ?_
  refine lv_iload_n hx hb dL_law_1155 rfl (lv_at hl 3 rfl) ?_
  refine x_iconst hx hb dL_law_1156 ?_
  refine x_iadd hx hb dL_law_1157 ?_
  refine va_sld hx hb hX hbl hbA hS (xI_in (by omega)) dL_law_1158 ?_
  refine x_toi z2 hz2 ?_
  refine xv_i (i := 53) (As := [.int (xI z1), .int (xI z2)]) (rest := [.int r1]) ⟨hx, hb, hml, hown, hts⟩ hl.1 (c_X5_signAt l D cA 68 ad en (by omega) hM hW hR z1 hr1 z2 hr2) k_X5_signAt u_ml_RL_113 hK hN hP (by omega) hM.1 rfl rfl rfl rfl (Nat.le_of_ble_eq_true rfl) ⟨Nat.le_of_ble_eq_true rfl, Nat.le_of_ble_eq_true rfl⟩ ⟨Nat.le_of_ble_eq_true rfl, Nat.le_of_ble_eq_true rfl⟩ dL_law_1159 ?_
  obtain ⟨r2, ha2⟩ : ∃ z, z = xI (am_signAt S z1 z2) := ⟨_, rfl⟩
  rw [← ha2]
  exact lv_icmp_eq hx hb (tgt := 2030) dL_law_1162 (by decide) (fun _ => kk _ _ _ _ _ hC hM hR hP hS) (fun q => absurd (ha1.trans ha2.symm) q)

set_option maxRecDepth 20000 in
set_option maxHeartbeats 1000000 in
theorem lc_firstSign {p : Program} {l : Launch} {e : Env} {s : State} {m : MethodId} {below : List Frame} {meth : Method} {c : Code} {Q : State → Prop} {D : va_G} {cA : Nat → ClassId} {b L : Nat} {xs : Nat → Int32} (hE : LE p s m c b L xs D cA) {ad : Nat → Nat} (hD : xD (fun q => s.heap.size ≤ q) 68 ad) {S : xSt} {M : MO} {en : Nat → va_E} {H : Heap} {locs : List Loc} (hC : CW cA ad en S) (hM : MW cA ad en M) (hR : MR S M) (hP : va_P D vwCl (xw 68 ad en) H) (hS : va_S (fun q => s.heap.size ≤ q) s.heap H locs) {i : Int} (hi : 0 ≤ i ∧ i + 6 ≤ L ∧ L ≤ 3072) {ls : Array Slot} (hl : lv_has ls 4 [(0, .ref b), (1, .ref (ad 0)), (2, .ref (ad 53)), (3, .int (xI i))])
    (kk : ∀ (S1 : xSt) (M1 : MO) (en1 : Nat → va_E) (H1 : Heap) (locs1 : List Loc), CW cA ad en1 S1 → MW cA ad en1 M1 → MR S1 M1 → va_P D vwCl (xw 68 ad en1) H1 → va_S (fun q => s.heap.size ≤ q) s.heap H1 locs1 → W p l e room_1 s m #[Value.ref b] below meth c H1 locs1 68 8593 Q (F0 m 2030 ls [])) : W p l e room_1 s m #[Value.ref b] below meth c H locs 68 8593 Q (F0 m 1167 ls []) := by
  obtain ⟨hx, hb, hml, hown, hts, hX, hbl, hK, hN, hZ⟩ := hE
  have hA : ∀ q : Nat, s.heap.size ≤ q → (fun q : Nat => s.heap.size ≤ q) q := fun _ h => h
  have hbA : ¬ (fun q : Nat => s.heap.size ≤ q) b := Nat.not_le.mpr hbl
  have hW : WF S := hC.wf
  obtain ⟨z1, hz1, hr1⟩ := x_scr (xs ((xI (i + 1)).toNatClampNeg))
  obtain ⟨z2, hz2, hr2⟩ := x_scr (xs ((xI (i + 2)).toNatClampNeg))
  obtain ⟨z3, hz3, hr3⟩ := x_scr (xs ((xI (i + 3)).toNatClampNeg))
  obtain ⟨z4, hz4, hr4⟩ := x_scr (xs ((xI (i + 4)).toNatClampNeg))
  obtain ⟨z5, hz5, hr5⟩ := x_scr (xs ((xI (i + 5)).toNatClampNeg))
  refine lv_aload_n hx hb dL_law_1167 rfl (lv_at hl 1 rfl) ?_
  refine lv_aload_n hx hb dL_law_1168 rfl (lv_at hl 0 rfl) ?_
  refine lv_iload_n hx hb dL_law_1169 rfl (lv_at hl 3 rfl) ?_
  refine x_iconst hx hb dL_law_1170 ?_
  refine x_iadd hx hb dL_law_1171 ?_
  refine va_sld hx hb hX hbl hbA hS (xI_in (by omega)) dL_law_1172 ?_
  refine x_toi z1 hz1 ?_
  refine lv_aload_n hx hb dL_law_1173 rfl (lv_at hl 0 rfl) ?_
  refine lv_iload_n hx hb dL_law_1174 rfl (lv_at hl 3 rfl) ?_
  refine x_iconst hx hb dL_law_1175 ?_
  refine x_iadd hx hb dL_law_1176 ?_
  refine va_sld hx hb hX hbl hbA hS (xI_in (by omega)) dL_law_1177 ?_
  refine x_toi z2 hz2 ?_
  refine lv_aload_n hx hb dL_law_1178 rfl (lv_at hl 0 rfl) ?_
  refine lv_iload_n hx hb dL_law_1179 rfl (lv_at hl 3 rfl) ?_
  refine x_iconst hx hb dL_law_1180 ?_
  refine x_iadd hx hb dL_law_1181 ?_
  refine va_sld hx hb hX hbl hbA hS (xI_in (by omega)) dL_law_1182 ?_
  refine x_toi z3 hz3 ?_
  refine xv_i (i := 0) (As := [.int (xI z1), .int (xI z2), .int (xI z3)]) (rest := []) ⟨hx, hb, hml, hown, hts⟩ hl.1 (c_X4_firstSign l D cA 68 ad en (by omega) hC z1 hr1 z2 hr2 z3 hr3) k_X4_firstSign u_ml_RL_114 hK hN hP (by omega) hC.1 rfl rfl rfl rfl (Nat.le_of_ble_eq_true rfl) ⟨Nat.le_of_ble_eq_true rfl, Nat.le_of_ble_eq_true rfl⟩ ⟨Nat.le_of_ble_eq_true rfl, Nat.le_of_ble_eq_true rfl⟩ dL_law_1183 ?_
  obtain ⟨r1, ha1⟩ : ∃ z, z = xI (am_firstSign S z1 z2 z3) := ⟨_, rfl⟩
  rw [← ha1]
  refine lv_aload_n hx hb dL_law_1186 rfl (lv_at hl 2 rfl) ?_
  refine lv_aload_n hx hb dL_law_1187 rfl (lv_at hl 0 rfl) ?_
  refine lv_iload_n hx hb dL_law_1188 rfl (lv_at hl 3 rfl) ?_
  refine x_iconst hx hb dL_law_1189 ?_
  refine x_iadd hx hb dL_law_1190 ?_
  refine va_sld hx hb hX hbl hbA hS (xI_in (by omega)) dL_law_1191 ?_
  refine x_toi z1 hz1 ?_
  refine lv_aload_n hx hb dL_law_1192 rfl (lv_at hl 0 rfl) ?_
  refine lv_iload_n hx hb dL_law_1193 rfl (lv_at hl 3 rfl) ?_
  refine x_iconst hx hb dL_law_1194 ?_
  refine x_iadd hx hb dL_law_1195 ?_
  refine va_sld hx hb hX hbl hbA hS (xI_in (by omega)) dL_law_1196 ?_
  refine x_toi z2 hz2 ?_
  refine lv_aload_n hx hb dL_law_1197 rfl (lv_at hl 0 rfl) ?_
  refine lv_iload_n hx hb dL_law_1198 rfl (lv_at hl 3 rfl) ?_
  refine x_iconst hx hb dL_law_1199 ?_
  refine x_iadd hx hb dL_law_1200 ?_
  refine va_sld hx hb hX hbl hbA hS (xI_in (by omega)) dL_law_1201 ?_
  refine x_toi z3 hz3 ?_
  refine xm_i (i := 53) (As := [.int (xI z1), .int (xI z2), .int (xI z3)]) (rest := [.int r1]) ⟨hx, hb, hml, hown, hts⟩ hl.1 (c_X5_firstSign l D cA 68 ad en _ (by omega) hM hW hR z1 hr1 z2 hr2 z3 hr3) k_X5_firstSign u_ml_RL_117 hK hN hP (by omega) hM.1 rfl rfl rfl rfl (Nat.le_of_ble_eq_true rfl) ⟨Nat.le_of_ble_eq_true rfl, Nat.le_of_ble_eq_true rfl⟩ ⟨Nat.le_of_ble_eq_true rfl, Nat.le_of_ble_eq_true rfl⟩ dL_law_1202 hD hS hA (fun r2 ur2 H locs hpr2 hP hS => ?_)
  obtain ⟨ha2, M1, hM, hR1, ho2⟩ := hpr2
  have hC := hC.far ho2 (by omega)
  exact lv_icmp_eq hx hb (tgt := 2030) dL_law_1205 (by decide) (fun _ => kk _ _ _ _ _ hC hM hR1 hP hS) (fun q => absurd (ha1.trans ha2.symm) q)

set_option maxRecDepth 20000 in
set_option maxHeartbeats 1000000 in
theorem lc_lastSign {p : Program} {l : Launch} {e : Env} {s : State} {m : MethodId} {below : List Frame} {meth : Method} {c : Code} {Q : State → Prop} {D : va_G} {cA : Nat → ClassId} {b L : Nat} {xs : Nat → Int32} (hE : LE p s m c b L xs D cA) {ad : Nat → Nat} (hD : xD (fun q => s.heap.size ≤ q) 68 ad) {S : xSt} {M : MO} {en : Nat → va_E} {H : Heap} {locs : List Loc} (hC : CW cA ad en S) (hM : MW cA ad en M) (hR : MR S M) (hP : va_P D vwCl (xw 68 ad en) H) (hS : va_S (fun q => s.heap.size ≤ q) s.heap H locs) {i : Int} (hi : 0 ≤ i ∧ i + 6 ≤ L ∧ L ≤ 3072) {ls : Array Slot} (hl : lv_has ls 4 [(0, .ref b), (1, .ref (ad 0)), (2, .ref (ad 53)), (3, .int (xI i))])
    (kk : ∀ (S1 : xSt) (M1 : MO) (en1 : Nat → va_E) (H1 : Heap) (locs1 : List Loc), CW cA ad en1 S1 → MW cA ad en1 M1 → MR S1 M1 → va_P D vwCl (xw 68 ad en1) H1 → va_S (fun q => s.heap.size ≤ q) s.heap H1 locs1 → W p l e room_1 s m #[Value.ref b] below meth c H1 locs1 68 8593 Q (F0 m 2030 ls [])) : W p l e room_1 s m #[Value.ref b] below meth c H locs 68 8593 Q (F0 m 1210 ls []) := by
  obtain ⟨hx, hb, hml, hown, hts, hX, hbl, hK, hN, hZ⟩ := hE
  have hA : ∀ q : Nat, s.heap.size ≤ q → (fun q : Nat => s.heap.size ≤ q) q := fun _ h => h
  have hbA : ¬ (fun q : Nat => s.heap.size ≤ q) b := Nat.not_le.mpr hbl
  have hW : WF S := hC.wf
  obtain ⟨z1, hz1, hr1⟩ := x_scr (xs ((xI (i + 1)).toNatClampNeg))
  obtain ⟨z2, hz2, hr2⟩ := x_scr (xs ((xI (i + 2)).toNatClampNeg))
  obtain ⟨z3, hz3, hr3⟩ := x_scr (xs ((xI (i + 3)).toNatClampNeg))
  obtain ⟨z4, hz4, hr4⟩ := x_scr (xs ((xI (i + 4)).toNatClampNeg))
  obtain ⟨z5, hz5, hr5⟩ := x_scr (xs ((xI (i + 5)).toNatClampNeg))
  refine lv_aload_n hx hb dL_law_1210 rfl (lv_at hl 1 rfl) ?_
  refine lv_aload_n hx hb dL_law_1211 rfl (lv_at hl 0 rfl) ?_
  refine lv_iload_n hx hb dL_law_1212 rfl (lv_at hl 3 rfl) ?_
  refine x_iconst hx hb dL_law_1213 ?_
  refine x_iadd hx hb dL_law_1214 ?_
  refine va_sld hx hb hX hbl hbA hS (xI_in (by omega)) dL_law_1215 ?_
  refine x_toi z1 hz1 ?_
  refine lv_aload_n hx hb dL_law_1216 rfl (lv_at hl 0 rfl) ?_
  refine lv_iload_n hx hb dL_law_1217 rfl (lv_at hl 3 rfl) ?_
  refine x_iconst hx hb dL_law_1218 ?_
  refine x_iadd hx hb dL_law_1219 ?_
  refine va_sld hx hb hX hbl hbA hS (xI_in (by omega)) dL_law_1220 ?_
  refine x_toi z2 hz2 ?_
  refine lv_aload_n hx hb dL_law_1221 rfl (lv_at hl 0 rfl) ?_
  refine lv_iload_n hx hb dL_law_1222 rfl (lv_at hl 3 rfl) ?_
  refine x_iconst hx hb dL_law_1223 ?_
  refine x_iadd hx hb dL_law_1224 ?_
  refine va_sld hx hb hX hbl hbA hS (xI_in (by omega)) dL_law_1225 ?_
  refine x_toi z3 hz3 ?_
  refine xv_i (i := 0) (As := [.int (xI z1), .int (xI z2), .int (xI z3)]) (rest := []) ⟨hx, hb, hml, hown, hts⟩ hl.1 (c_X4_lastSign l D cA 68 ad en (by omega) hC z1 hr1 z2 hr2 z3 hr3) k_X4_lastSign u_ml_RL_118 hK hN hP (by omega) hC.1 rfl rfl rfl rfl (Nat.le_of_ble_eq_true rfl) ⟨Nat.le_of_ble_eq_true rfl, Nat.le_of_ble_eq_true rfl⟩ ⟨Nat.le_of_ble_eq_true rfl, Nat.le_of_ble_eq_true rfl⟩ dL_law_1226 ?_
  obtain ⟨r1, ha1⟩ : ∃ z, z = xI (am_lastSign S z1 z2 z3) := ⟨_, rfl⟩
  rw [← ha1]
  refine lv_aload_n hx hb dL_law_1229 rfl (lv_at hl 2 rfl) ?_
  refine lv_aload_n hx hb dL_law_1230 rfl (lv_at hl 0 rfl) ?_
  refine lv_iload_n hx hb dL_law_1231 rfl (lv_at hl 3 rfl) ?_
  refine x_iconst hx hb dL_law_1232 ?_
  refine x_iadd hx hb dL_law_1233 ?_
  refine va_sld hx hb hX hbl hbA hS (xI_in (by omega)) dL_law_1234 ?_
  refine x_toi z1 hz1 ?_
  refine lv_aload_n hx hb dL_law_1235 rfl (lv_at hl 0 rfl) ?_
  refine lv_iload_n hx hb dL_law_1236 rfl (lv_at hl 3 rfl) ?_
  refine x_iconst hx hb dL_law_1237 ?_
  refine x_iadd hx hb dL_law_1238 ?_
  refine va_sld hx hb hX hbl hbA hS (xI_in (by omega)) dL_law_1239 ?_
  refine x_toi z2 hz2 ?_
  refine lv_aload_n hx hb dL_law_1240 rfl (lv_at hl 0 rfl) ?_
  refine lv_iload_n hx hb dL_law_1241 rfl (lv_at hl 3 rfl) ?_
  refine x_iconst hx hb dL_law_1242 ?_
  refine x_iadd hx hb dL_law_1243 ?_
  refine va_sld hx hb hX hbl hbA hS (xI_in (by omega)) dL_law_1244 ?_
  refine x_toi z3 hz3 ?_
  refine xm_i (i := 53) (As := [.int (xI z1), .int (xI z2), .int (xI z3)]) (rest := [.int r1]) ⟨hx, hb, hml, hown, hts⟩ hl.1 (c_X5_lastSign l D cA 68 ad en _ (by omega) hM hW hR z1 hr1 z2 hr2 z3 hr3) k_X5_lastSign u_ml_RL_121 hK hN hP (by omega) hM.1 rfl rfl rfl rfl (Nat.le_of_ble_eq_true rfl) ⟨Nat.le_of_ble_eq_true rfl, Nat.le_of_ble_eq_true rfl⟩ ⟨Nat.le_of_ble_eq_true rfl, Nat.le_of_ble_eq_true rfl⟩ dL_law_1245 hD hS hA (fun r2 ur2 H locs hpr2 hP hS => ?_)
  obtain ⟨ha2, M1, hM, hR1, ho2⟩ := hpr2
  have hC := hC.far ho2 (by omega)
  exact lv_icmp_eq hx hb (tgt := 2030) dL_law_1248 (by decide) (fun _ => kk _ _ _ _ _ hC hM hR1 hP hS) (fun q => absurd (ha1.trans ha2.symm) q)

set_option maxRecDepth 20000 in
set_option maxHeartbeats 1000000 in
theorem lc_firstText {p : Program} {l : Launch} {e : Env} {s : State} {m : MethodId} {below : List Frame} {meth : Method} {c : Code} {Q : State → Prop} {D : va_G} {cA : Nat → ClassId} {b L : Nat} {xs : Nat → Int32} (hE : LE p s m c b L xs D cA) {ad : Nat → Nat} (hD : xD (fun q => s.heap.size ≤ q) 68 ad) {S : xSt} {M : MO} {en : Nat → va_E} {H : Heap} {locs : List Loc} (hC : CW cA ad en S) (hM : MW cA ad en M) (hR : MR S M) (hP : va_P D vwCl (xw 68 ad en) H) (hS : va_S (fun q => s.heap.size ≤ q) s.heap H locs) {i : Int} (hi : 0 ≤ i ∧ i + 6 ≤ L ∧ L ≤ 3072) {ls : Array Slot} (hl : lv_has ls 4 [(0, .ref b), (1, .ref (ad 0)), (2, .ref (ad 53)), (3, .int (xI i))])
    (kk : ∀ (S1 : xSt) (M1 : MO) (en1 : Nat → va_E) (H1 : Heap) (locs1 : List Loc), CW cA ad en1 S1 → MW cA ad en1 M1 → MR S1 M1 → va_P D vwCl (xw 68 ad en1) H1 → va_S (fun q => s.heap.size ≤ q) s.heap H1 locs1 → W p l e room_1 s m #[Value.ref b] below meth c H1 locs1 68 8593 Q (F0 m 2030 ls [])) : W p l e room_1 s m #[Value.ref b] below meth c H locs 68 8593 Q (F0 m 1253 ls []) := by
  obtain ⟨hx, hb, hml, hown, hts, hX, hbl, hK, hN, hZ⟩ := hE
  have hA : ∀ q : Nat, s.heap.size ≤ q → (fun q : Nat => s.heap.size ≤ q) q := fun _ h => h
  have hbA : ¬ (fun q : Nat => s.heap.size ≤ q) b := Nat.not_le.mpr hbl
  have hW : WF S := hC.wf
  obtain ⟨z1, hz1, hr1⟩ := x_scr (xs ((xI (i + 1)).toNatClampNeg))
  obtain ⟨z2, hz2, hr2⟩ := x_scr (xs ((xI (i + 2)).toNatClampNeg))
  obtain ⟨z3, hz3, hr3⟩ := x_scr (xs ((xI (i + 3)).toNatClampNeg))
  obtain ⟨z4, hz4, hr4⟩ := x_scr (xs ((xI (i + 4)).toNatClampNeg))
  obtain ⟨z5, hz5, hr5⟩ := x_scr (xs ((xI (i + 5)).toNatClampNeg))
  refine lv_aload_n hx hb dL_law_1253 rfl (lv_at hl 1 rfl) ?_
  refine lv_aload_n hx hb dL_law_1254 rfl (lv_at hl 0 rfl) ?_
  refine lv_iload_n hx hb dL_law_1255 rfl (lv_at hl 3 rfl) ?_
  refine x_iconst hx hb dL_law_1256 ?_
  refine x_iadd hx hb dL_law_1257 ?_
  refine va_sld hx hb hX hbl hbA hS (xI_in (by omega)) dL_law_1258 ?_
  refine x_toi z1 hz1 ?_
  refine lv_aload_n hx hb dL_law_1259 rfl (lv_at hl 0 rfl) ?_
  refine lv_iload_n hx hb dL_law_1260 rfl (lv_at hl 3 rfl) ?_
  refine x_iconst hx hb dL_law_1261 ?_
  refine x_iadd hx hb dL_law_1262 ?_
  refine va_sld hx hb hX hbl hbA hS (xI_in (by omega)) dL_law_1263 ?_
  refine x_toi z2 hz2 ?_
  refine lv_aload_n hx hb dL_law_1264 rfl (lv_at hl 0 rfl) ?_
  refine lv_iload_n hx hb dL_law_1265 rfl (lv_at hl 3 rfl) ?_
  refine x_iconst hx hb dL_law_1266 ?_
  refine x_iadd hx hb dL_law_1267 ?_
  refine va_sld hx hb hX hbl hbA hS (xI_in (by omega)) dL_law_1268 ?_
  refine x_toi z3 hz3 ?_
  refine xv_i (i := 0) (As := [.int (xI z1), .int (xI z2), .int (xI z3)]) (rest := []) ⟨hx, hb, hml, hown, hts⟩ hl.1 (c_X4_firstText l D cA 68 ad en (by omega) hC z1 hr1 z2 hr2 z3 hr3) k_X4_firstText u_ml_RL_122 hK hN hP (by omega) hC.1 rfl rfl rfl rfl (Nat.le_of_ble_eq_true rfl) ⟨Nat.le_of_ble_eq_true rfl, Nat.le_of_ble_eq_true rfl⟩ ⟨Nat.le_of_ble_eq_true rfl, Nat.le_of_ble_eq_true rfl⟩ dL_law_1269 ?_
  obtain ⟨r1, ha1⟩ : ∃ z, z = xI (am_firstText S z1 z2 z3) := ⟨_, rfl⟩
  rw [← ha1]
  refine lv_aload_n hx hb dL_law_1272 rfl (lv_at hl 2 rfl) ?_
  refine lv_aload_n hx hb dL_law_1273 rfl (lv_at hl 0 rfl) ?_
  refine lv_iload_n hx hb dL_law_1274 rfl (lv_at hl 3 rfl) ?_
  refine x_iconst hx hb dL_law_1275 ?_
  refine x_iadd hx hb dL_law_1276 ?_
  refine va_sld hx hb hX hbl hbA hS (xI_in (by omega)) dL_law_1277 ?_
  refine x_toi z1 hz1 ?_
  refine lv_aload_n hx hb dL_law_1278 rfl (lv_at hl 0 rfl) ?_
  refine lv_iload_n hx hb dL_law_1279 rfl (lv_at hl 3 rfl) ?_
  refine x_iconst hx hb dL_law_1280 ?_
  refine x_iadd hx hb dL_law_1281 ?_
  refine va_sld hx hb hX hbl hbA hS (xI_in (by omega)) dL_law_1282 ?_
  refine x_toi z2 hz2 ?_
  refine lv_aload_n hx hb dL_law_1283 rfl (lv_at hl 0 rfl) ?_
  refine lv_iload_n hx hb dL_law_1284 rfl (lv_at hl 3 rfl) ?_
  refine x_iconst hx hb dL_law_1285 ?_
  refine x_iadd hx hb dL_law_1286 ?_
  refine va_sld hx hb hX hbl hbA hS (xI_in (by omega)) dL_law_1287 ?_
  refine x_toi z3 hz3 ?_
  refine xm_i (i := 53) (As := [.int (xI z1), .int (xI z2), .int (xI z3)]) (rest := [.int r1]) ⟨hx, hb, hml, hown, hts⟩ hl.1 (c_X5_firstText l D cA 68 ad en _ (by omega) hM hW hR z1 hr1 z2 hr2 z3 hr3) k_X5_firstText u_ml_RL_125 hK hN hP (by omega) hM.1 rfl rfl rfl rfl (Nat.le_of_ble_eq_true rfl) ⟨Nat.le_of_ble_eq_true rfl, Nat.le_of_ble_eq_true rfl⟩ ⟨Nat.le_of_ble_eq_true rfl, Nat.le_of_ble_eq_true rfl⟩ dL_law_1288 hD hS hA (fun r2 ur2 H locs hpr2 hP hS => ?_)
  obtain ⟨ha2, M1, hM, hR1, ho2⟩ := hpr2
  have hC := hC.far ho2 (by omega)
  exact lv_icmp_eq hx hb (tgt := 2030) dL_law_1291 (by decide) (fun _ => kk _ _ _ _ _ hC hM hR1 hP hS) (fun q => absurd (ha1.trans ha2.symm) q)

set_option maxRecDepth 20000 in
set_option maxHeartbeats 1000000 in
theorem lc_lastText {p : Program} {l : Launch} {e : Env} {s : State} {m : MethodId} {below : List Frame} {meth : Method} {c : Code} {Q : State → Prop} {D : va_G} {cA : Nat → ClassId} {b L : Nat} {xs : Nat → Int32} (hE : LE p s m c b L xs D cA) {ad : Nat → Nat} (hD : xD (fun q => s.heap.size ≤ q) 68 ad) {S : xSt} {M : MO} {en : Nat → va_E} {H : Heap} {locs : List Loc} (hC : CW cA ad en S) (hM : MW cA ad en M) (hR : MR S M) (hP : va_P D vwCl (xw 68 ad en) H) (hS : va_S (fun q => s.heap.size ≤ q) s.heap H locs) {i : Int} (hi : 0 ≤ i ∧ i + 6 ≤ L ∧ L ≤ 3072) {ls : Array Slot} (hl : lv_has ls 4 [(0, .ref b), (1, .ref (ad 0)), (2, .ref (ad 53)), (3, .int (xI i))])
    (kk : ∀ (S1 : xSt) (M1 : MO) (en1 : Nat → va_E) (H1 : Heap) (locs1 : List Loc), CW cA ad en1 S1 → MW cA ad en1 M1 → MR S1 M1 → va_P D vwCl (xw 68 ad en1) H1 → va_S (fun q => s.heap.size ≤ q) s.heap H1 locs1 → W p l e room_1 s m #[Value.ref b] below meth c H1 locs1 68 8593 Q (F0 m 2030 ls [])) : W p l e room_1 s m #[Value.ref b] below meth c H locs 68 8593 Q (F0 m 1296 ls []) := by
  obtain ⟨hx, hb, hml, hown, hts, hX, hbl, hK, hN, hZ⟩ := hE
  have hA : ∀ q : Nat, s.heap.size ≤ q → (fun q : Nat => s.heap.size ≤ q) q := fun _ h => h
  have hbA : ¬ (fun q : Nat => s.heap.size ≤ q) b := Nat.not_le.mpr hbl
  have hW : WF S := hC.wf
  obtain ⟨z1, hz1, hr1⟩ := x_scr (xs ((xI (i + 1)).toNatClampNeg))
  obtain ⟨z2, hz2, hr2⟩ := x_scr (xs ((xI (i + 2)).toNatClampNeg))
  obtain ⟨z3, hz3, hr3⟩ := x_scr (xs ((xI (i + 3)).toNatClampNeg))
  obtain ⟨z4, hz4, hr4⟩ := x_scr (xs ((xI (i + 4)).toNatClampNeg))
  obtain ⟨z5, hz5, hr5⟩ := x_scr (xs ((xI (i + 5)).toNatClampNeg))
  refine lv_aload_n hx hb dL_law_1296 rfl (lv_at hl 1 rfl) ?_
  refine lv_aload_n hx hb dL_law_1297 rfl (lv_at hl 0 rfl) ?_
  refine lv_iload_n hx hb dL_law_1298 rfl (lv_at hl 3 rfl) ?_
  refine x_iconst hx hb dL_law_1299 ?_
  refine x_iadd hx hb dL_law_1300 ?_
  refine va_sld hx hb hX hbl hbA hS (xI_in (by omega)) dL_law_1301 ?_
  refine x_toi z1 hz1 ?_
  refine lv_aload_n hx hb dL_law_1302 rfl (lv_at hl 0 rfl) ?_
  refine lv_iload_n hx hb dL_law_1303 rfl (lv_at hl 3 rfl) ?_
  refine x_iconst hx hb dL_law_1304 ?_
  refine x_iadd hx hb dL_law_1305 ?_
  refine va_sld hx hb hX hbl hbA hS (xI_in (by omega)) dL_law_1306 ?_
  refine x_toi z2 hz2 ?_
  refine lv_aload_n hx hb dL_law_1307 rfl (lv_at hl 0 rfl) ?_
  refine lv_iload_n hx hb dL_law_1308 rfl (lv_at hl 3 rfl) ?_
  refine x_iconst hx hb dL_law_1309 ?_
  refine x_iadd hx hb dL_law_1310 ?_
  refine va_sld hx hb hX hbl hbA hS (xI_in (by omega)) dL_law_1311 ?_
  refine x_toi z3 hz3 ?_
  refine xv_i (i := 0) (As := [.int (xI z1), .int (xI z2), .int (xI z3)]) (rest := []) ⟨hx, hb, hml, hown, hts⟩ hl.1 (c_X4_lastText l D cA 68 ad en (by omega) hC z1 hr1 z2 hr2 z3 hr3) k_X4_lastText u_ml_RL_126 hK hN hP (by omega) hC.1 rfl rfl rfl rfl (Nat.le_of_ble_eq_true rfl) ⟨Nat.le_of_ble_eq_true rfl, Nat.le_of_ble_eq_true rfl⟩ ⟨Nat.le_of_ble_eq_true rfl, Nat.le_of_ble_eq_true rfl⟩ dL_law_1312 ?_
  obtain ⟨r1, ha1⟩ : ∃ z, z = xI (am_lastText S z1 z2 z3) := ⟨_, rfl⟩
  rw [← ha1]
  refine lv_aload_n hx hb dL_law_1315 rfl (lv_at hl 2 rfl) ?_
  refine lv_aload_n hx hb dL_law_1316 rfl (lv_at hl 0 rfl) ?_
  refine lv_iload_n hx hb dL_law_1317 rfl (lv_at hl 3 rfl) ?_
  refine x_iconst hx hb dL_law_1318 ?_
  refine x_iadd hx hb dL_law_1319 ?_
  refine va_sld hx hb hX hbl hbA hS (xI_in (by omega)) dL_law_1320 ?_
  refine x_toi z1 hz1 ?_
  refine lv_aload_n hx hb dL_law_1321 rfl (lv_at hl 0 rfl) ?_
  refine lv_iload_n hx hb dL_law_1322 rfl (lv_at hl 3 rfl) ?_
  refine x_iconst hx hb dL_law_1323 ?_
  refine x_iadd hx hb dL_law_1324 ?_
  refine va_sld hx hb hX hbl hbA hS (xI_in (by omega)) dL_law_1325 ?_
  refine x_toi z2 hz2 ?_
  refine lv_aload_n hx hb dL_law_1326 rfl (lv_at hl 0 rfl) ?_
  refine lv_iload_n hx hb dL_law_1327 rfl (lv_at hl 3 rfl) ?_
  refine x_iconst hx hb dL_law_1328 ?_
  refine x_iadd hx hb dL_law_1329 ?_
  refine va_sld hx hb hX hbl hbA hS (xI_in (by omega)) dL_law_1330 ?_
  refine x_toi z3 hz3 ?_
  refine xm_i (i := 53) (As := [.int (xI z1), .int (xI z2), .int (xI z3)]) (rest := [.int r1]) ⟨hx, hb, hml, hown, hts⟩ hl.1 (c_X5_lastText l D cA 68 ad en _ (by omega) hM hW hR z1 hr1 z2 hr2 z3 hr3) k_X5_lastText u_ml_RL_129 hK hN hP (by omega) hM.1 rfl rfl rfl rfl (Nat.le_of_ble_eq_true rfl) ⟨Nat.le_of_ble_eq_true rfl, Nat.le_of_ble_eq_true rfl⟩ ⟨Nat.le_of_ble_eq_true rfl, Nat.le_of_ble_eq_true rfl⟩ dL_law_1331 hD hS hA (fun r2 ur2 H locs hpr2 hP hS => ?_)
  obtain ⟨ha2, M1, hM, hR1, ho2⟩ := hpr2
  have hC := hC.far ho2 (by omega)
  exact lv_icmp_eq hx hb (tgt := 2030) dL_law_1334 (by decide) (fun _ => kk _ _ _ _ _ hC hM hR1 hP hS) (fun q => absurd (ha1.trans ha2.symm) q)
