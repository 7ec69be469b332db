/-! the law: cases -/
set_option maxRecDepth 20000 in
set_option maxHeartbeats 1000000 in
theorem lc_parts {p : Program} {l : Launch} {e : Env} {s : State} {m : MethodId} {below : List Frame} {meth : Method} {c : Code} {Q : State → Prop} {D : va_G} {cA : Nat → ClassId} {b L : Nat} {xs : Nat → Int32} (hE : LE p s m c b L xs D cA) {ad : Nat → Nat} (hD : xD (fun q => s.heap.size ≤ q) 68 ad) {S : xSt} {M : MO} {en : Nat → va_E} {H : Heap} {locs : List Loc} (hC : CW cA ad en S) (hM : MW cA ad en M) (hR : MR S M) (hP : va_P D vwCl (xw 68 ad en) H) (hS : va_S (fun q => s.heap.size ≤ q) s.heap H locs) {i : Int} (hi : 0 ≤ i ∧ i + 6 ≤ L ∧ L ≤ 3072) {ls : Array Slot} (hl : lv_has ls 4 [(0, .ref b), (1, .ref (ad 0)), (2, .ref (ad 53)), (3, .int (xI i))])
    (kk : ∀ (S1 : xSt) (M1 : MO) (en1 : Nat → va_E) (H1 : Heap) (locs1 : List Loc), CW cA ad en1 S1 → MW cA ad en1 M1 → MR S1 M1 → va_P D vwCl (xw 68 ad en1) H1 → va_S (fun q => s.heap.size ≤ q) s.heap H1 locs1 → W p l e room_1 s m #[Value.ref b] below meth c H1 locs1 68 8593 Q (F0 m 2030 ls [])) : W p l e room_1 s m #[Value.ref b] below meth c H locs 68 8593 Q (F0 m 1746 ls []) := by
  obtain ⟨hx, hb, hml, hown, hts, hX, hbl, hK, hN, hZ⟩ := hE
  have hA : ∀ q : Nat, s.heap.size ≤ q → (fun q : Nat => s.heap.size ≤ q) q := fun _ h => h
  have hbA : ¬ (fun q : Nat => s.heap.size ≤ q) b := Nat.not_le.mpr hbl
  have hW : WF S := hC.wf
  obtain ⟨z1, hz1, hr1⟩ := x_scr (xs ((xI (i + 1)).toNatClampNeg))
  obtain ⟨z2, hz2, hr2⟩ := x_scr (xs ((xI (i + 2)).toNatClampNeg))
  obtain ⟨z3, hz3, hr3⟩ := x_scr (xs ((xI (i + 3)).toNatClampNeg))
  obtain ⟨z4, hz4, hr4⟩ := x_scr (xs ((xI (i + 4)).toNatClampNeg))
  obtain ⟨z5, hz5, hr5⟩ := x_scr (xs ((xI (i + 5)).toNatClampNeg))
  refine lv_aload_n hx hb dL_law_1746 rfl (lv_at hl 1 rfl) ?_
  refine xv_i (i := 0) (As := []) (rest := []) ⟨hx, hb, hml, hown, hts⟩ hl.1 (c_X4_parts l D cA 68 ad en (by omega) hC) k_X4_parts u_ml_RL_166 hK hN hP (by omega) hC.1 rfl rfl rfl rfl (Nat.le_of_ble_eq_true rfl) ⟨Nat.le_of_ble_eq_true rfl, Nat.le_of_ble_eq_true rfl⟩ ⟨Nat.le_of_ble_eq_true rfl, Nat.le_of_ble_eq_true rfl⟩ dL_law_1747 ?_
  obtain ⟨r1, ha1⟩ : ∃ z, z = xI (am_parts S) := ⟨_, rfl⟩
  rw [← ha1]
  refine lv_aload_n hx hb dL_law_1750 rfl (lv_at hl 2 rfl) ?_
  refine xv_i (i := 53) (As := []) (rest := [.int r1]) ⟨hx, hb, hml, hown, hts⟩ hl.1 (c_X5_parts l D cA 68 ad en (by omega) hM hW hR) k_X5_parts u_ml_RL_170 hK hN hP (by omega) hM.1 rfl rfl rfl rfl (Nat.le_of_ble_eq_true rfl) ⟨Nat.le_of_ble_eq_true rfl, Nat.le_of_ble_eq_true rfl⟩ ⟨Nat.le_of_ble_eq_true rfl, Nat.le_of_ble_eq_true rfl⟩ dL_law_1751 ?_
  obtain ⟨r2, ha2⟩ : ∃ z, z = xI (am_parts S) := ⟨_, rfl⟩
  rw [← ha2]
  exact lv_icmp_eq hx hb (tgt := 2030) dL_law_1754 (by decide) (fun _ => kk _ _ _ _ _ hC hM hR hP hS) (fun q => absurd (ha1.trans ha2.symm) q)

set_option maxRecDepth 20000 in
set_option maxHeartbeats 1000000 in
theorem lc_partTo {p : Program} {l : Launch} {e : Env} {s : State} {m : MethodId} {below : List Frame} {meth : Method} {c : Code} {Q : State → Prop} {D : va_G} {cA : Nat → ClassId} {b L : Nat} {xs : Nat → Int32} (hE : LE p s m c b L xs D cA) {ad : Nat → Nat} (hD : xD (fun q => s.heap.size ≤ q) 68 ad) {S : xSt} {M : MO} {en : Nat → va_E} {H : Heap} {locs : List Loc} (hC : CW cA ad en S) (hM : MW cA ad en M) (hR : MR S M) (hP : va_P D vwCl (xw 68 ad en) H) (hS : va_S (fun q => s.heap.size ≤ q) s.heap H locs) {i : Int} (hi : 0 ≤ i ∧ i + 6 ≤ L ∧ L ≤ 3072) {ls : Array Slot} (hl : lv_has ls 4 [(0, .ref b), (1, .ref (ad 0)), (2, .ref (ad 53)), (3, .int (xI i))])
    (kk : ∀ (S1 : xSt) (M1 : MO) (en1 : Nat → va_E) (H1 : Heap) (locs1 : List Loc), CW cA ad en1 S1 → MW cA ad en1 M1 → MR S1 M1 → va_P D vwCl (xw 68 ad en1) H1 → va_S (fun q => s.heap.size ≤ q) s.heap H1 locs1 → W p l e room_1 s m #[Value.ref b] below meth c H1 locs1 68 8593 Q (F0 m 2030 ls [])) : W p l e room_1 s m #[Value.ref b] below meth c H locs 68 8593 Q (F0 m 1759 ls []) := by
  obtain ⟨hx, hb, hml, hown, hts, hX, hbl, hK, hN, hZ⟩ := hE
  have hA : ∀ q : Nat, s.heap.size ≤ q → (fun q : Nat => s.heap.size ≤ q) q := fun _ h => h
  have hbA : ¬ (fun q : Nat => s.heap.size ≤ q) b := Nat.not_le.mpr hbl
  have hW : WF S := hC.wf
  obtain ⟨z1, hz1, hr1⟩ := x_scr (xs ((xI (i + 1)).toNatClampNeg))
  obtain ⟨z2, hz2, hr2⟩ := x_scr (xs ((xI (i + 2)).toNatClampNeg))
  obtain ⟨z3, hz3, hr3⟩ := x_scr (xs ((xI (i + 3)).toNatClampNeg))
  obtain ⟨z4, hz4, hr4⟩ := x_scr (xs ((xI (i + 4)).toNatClampNeg))
  obtain ⟨z5, hz5, hr5⟩ := x_scr (xs ((xI (i + 5)).toNatClampNeg))
  refine lv_aload_n hx hb dL_law_1759 rfl (lv_at hl 1 rfl) ?_
  refine lv_aload_n hx hb dL_law_1760 rfl (lv_at hl 0 rfl) ?_
  refine lv_iload_n hx hb dL_law_1761 rfl (lv_at hl 3 rfl) ?_
  refine x_iconst hx hb dL_law_1762 ?_
  refine x_iadd hx hb dL_law_1763 ?_
  refine va_sld hx hb hX hbl hbA hS (xI_in (by omega)) dL_law_1764 ?_
  refine x_toi z1 hz1 ?_
  refine lv_aload_n hx hb dL_law_1765 rfl (lv_at hl 0 rfl) ?_
  refine lv_iload_n hx hb dL_law_1766 rfl (lv_at hl 3 rfl) ?_
  refine x_iconst hx hb dL_law_1767 ?_
  refine x_iadd hx hb dL_law_1768 ?_
  refine va_sld hx hb hX hbl hbA hS (xI_in (by omega)) dL_law_1769 ?_
  refine x_toi z2 hz2 ?_
  refine xm_i (i := 0) (As := [.int (xI z1), .int (xI z2)]) (rest := []) ⟨hx, hb, hml, hown, hts⟩ hl.1 (c_X4_partTo l D cA 68 ad en _ (by omega) hC z1 hr1 z2 hr2) k_X4_partTo u_ml_RL_171 hK hN hP (by omega) hC.1 rfl rfl rfl rfl (Nat.le_of_ble_eq_true rfl) ⟨Nat.le_of_ble_eq_true rfl, Nat.le_of_ble_eq_true rfl⟩ ⟨Nat.le_of_ble_eq_true rfl, Nat.le_of_ble_eq_true rfl⟩ dL_law_1770 hD hS hA (fun r1 ur1 H locs hpr1 hP hS => ?_)
  obtain ⟨ha1, hC, ho1⟩ := hpr1
  have hM := hM.ko ho1 (by omega)
  refine lv_aload_n hx hb dL_law_1773 rfl (lv_at hl 2 rfl) ?_
  refine lv_aload_n hx hb dL_law_1774 rfl (lv_at hl 0 rfl) ?_
  refine lv_iload_n hx hb dL_law_1775 rfl (lv_at hl 3 rfl) ?_
  refine x_iconst hx hb dL_law_1776 ?_
  refine x_iadd hx hb dL_law_1777 ?_
  refine va_sld hx hb hX hbl hbA hS (xI_in (by omega)) dL_law_1778 ?_
  refine x_toi z1 hz1 ?_
  refine lv_aload_n hx hb dL_law_1779 rfl (lv_at hl 0 rfl) ?_
  refine lv_iload_n hx hb dL_law_1780 rfl (lv_at hl 3 rfl) ?_
  refine x_iconst hx hb dL_law_1781 ?_
  refine x_iadd hx hb dL_law_1782 ?_
  refine va_sld hx hb hX hbl hbA hS (xI_in (by omega)) dL_law_1783 ?_
  refine x_toi z2 hz2 ?_
  refine xm_i (i := 53) (As := [.int (xI z1), .int (xI z2)]) (rest := [.int r1]) ⟨hx, hb, hml, hown, hts⟩ hl.1 (c_X5_partTo l D cA 68 ad ur1 _ (by omega) hM hW hR z1 hr1 z2 hr2) k_X5_partTo u_ml_RL_174 hK hN hP (by omega) hM.1 rfl rfl rfl rfl (Nat.le_of_ble_eq_true rfl) ⟨Nat.le_of_ble_eq_true rfl, Nat.le_of_ble_eq_true rfl⟩ ⟨Nat.le_of_ble_eq_true rfl, Nat.le_of_ble_eq_true rfl⟩ dL_law_1784 hD hS hA (fun r2 ur2 H locs hpr2 hP hS => ?_)
  obtain ⟨ha2, M1, hM, hR1, ho2⟩ := hpr2
  have hC := hC.far ho2 (by omega)
  exact lv_icmp_eq hx hb (tgt := 2030) dL_law_1787 (by decide) (fun _ => kk _ _ _ _ _ hC hM hR1 hP hS) (fun q => absurd (ha1.trans ha2.symm) q)

set_option maxRecDepth 20000 in
set_option maxHeartbeats 1000000 in
theorem lc_joined {p : Program} {l : Launch} {e : Env} {s : State} {m : MethodId} {below : List Frame} {meth : Method} {c : Code} {Q : State → Prop} {D : va_G} {cA : Nat → ClassId} {b L : Nat} {xs : Nat → Int32} (hE : LE p s m c b L xs D cA) {ad : Nat → Nat} (hD : xD (fun q => s.heap.size ≤ q) 68 ad) {S : xSt} {M : MO} {en : Nat → va_E} {H : Heap} {locs : List Loc} (hC : CW cA ad en S) (hM : MW cA ad en M) (hR : MR S M) (hP : va_P D vwCl (xw 68 ad en) H) (hS : va_S (fun q => s.heap.size ≤ q) s.heap H locs) {i : Int} (hi : 0 ≤ i ∧ i + 6 ≤ L ∧ L ≤ 3072) {ls : Array Slot} (hl : lv_has ls 4 [(0, .ref b), (1, .ref (ad 0)), (2, .ref (ad 53)), (3, .int (xI i))])
    (kk : ∀ (S1 : xSt) (M1 : MO) (en1 : Nat → va_E) (H1 : Heap) (locs1 : List Loc), CW cA ad en1 S1 → MW cA ad en1 M1 → MR S1 M1 → va_P D vwCl (xw 68 ad en1) H1 → va_S (fun q => s.heap.size ≤ q) s.heap H1 locs1 → W p l e room_1 s m #[Value.ref b] below meth c H1 locs1 68 8593 Q (F0 m 2030 ls [])) : W p l e room_1 s m #[Value.ref b] below meth c H locs 68 8593 Q (F0 m 1792 ls []) := by
  obtain ⟨hx, hb, hml, hown, hts, hX, hbl, hK, hN, hZ⟩ := hE
  have hA : ∀ q : Nat, s.heap.size ≤ q → (fun q : Nat => s.heap.size ≤ q) q := fun _ h => h
  have hbA : ¬ (fun q : Nat => s.heap.size ≤ q) b := Nat.not_le.mpr hbl
  have hW : WF S := hC.wf
  obtain ⟨z1, hz1, hr1⟩ := x_scr (xs ((xI (i + 1)).toNatClampNeg))
  obtain ⟨z2, hz2, hr2⟩ := x_scr (xs ((xI (i + 2)).toNatClampNeg))
  obtain ⟨z3, hz3, hr3⟩ := x_scr (xs ((xI (i + 3)).toNatClampNeg))
  obtain ⟨z4, hz4, hr4⟩ := x_scr (xs ((xI (i + 4)).toNatClampNeg))
  obtain ⟨z5, hz5, hr5⟩ := x_scr (xs ((xI (i + 5)).toNatClampNeg))
  refine lv_aload_n hx hb dL_law_1792 rfl (lv_at hl 1 rfl) ?_
  refine lv_aload_n hx hb dL_law_1793 rfl (lv_at hl 0 rfl) ?_
  refine lv_iload_n hx hb dL_law_1794 rfl (lv_at hl 3 rfl) ?_
  refine x_iconst hx hb dL_law_1795 ?_
  refine x_iadd hx hb dL_law_1796 ?_
  refine va_sld hx hb hX hbl hbA hS (xI_in (by omega)) dL_law_1797 ?_
  refine x_toi z1 hz1 ?_
  refine lv_aload_n hx hb dL_law_1798 rfl (lv_at hl 0 rfl) ?_
  refine lv_iload_n hx hb dL_law_1799 rfl (lv_at hl 3 rfl) ?_
  refine x_iconst hx hb dL_law_1800 ?_
  refine x_iadd hx hb dL_law_1801 ?_
  refine va_sld hx hb hX hbl hbA hS (xI_in (by omega)) dL_law_1802 ?_
  refine x_toi z2 hz2 ?_
  refine xm_i (i := 0) (As := [.int (xI z1), .int (xI z2)]) (rest := []) ⟨hx, hb, hml, hown, hts⟩ hl.1 (c_X4_joined l D cA 68 ad en _ (by omega) hC z1 hr1 z2 hr2) k_X4_joined u_ml_RL_175 hK hN hP (by omega) hC.1 rfl rfl rfl rfl (Nat.le_of_ble_eq_true rfl) ⟨Nat.le_of_ble_eq_true rfl, Nat.le_of_ble_eq_true rfl⟩ ⟨Nat.le_of_ble_eq_true rfl, Nat.le_of_ble_eq_true rfl⟩ dL_law_1803 hD hS hA (fun r1 ur1 H locs hpr1 hP hS => ?_)
  obtain ⟨ha1, hC, ho1⟩ := hpr1
  have hM := hM.ko ho1 (by omega)
  refine lv_aload_n hx hb dL_law_1806 rfl (lv_at hl 2 rfl) ?_
  refine lv_aload_n hx hb dL_law_1807 rfl (lv_at hl 0 rfl) ?_
  refine lv_iload_n hx hb dL_law_1808 rfl (lv_at hl 3 rfl) ?_
  refine x_iconst hx hb dL_law_1809 ?_
  refine x_iadd hx hb dL_law_1810 ?_
  refine va_sld hx hb hX hbl hbA hS (xI_in (by omega)) dL_law_1811 ?_
  refine x_toi z1 hz1 ?_
  refine lv_aload_n hx hb dL_law_1812 rfl (lv_at hl 0 rfl) ?_
  refine lv_iload_n hx hb dL_law_1813 rfl (lv_at hl 3 rfl) ?_
  refine x_iconst hx hb dL_law_1814 ?_
  refine x_iadd hx hb dL_law_1815 ?_
  refine va_sld hx hb hX hbl hbA hS (xI_in (by omega)) dL_law_1816 ?_
  refine x_toi z2 hz2 ?_
  refine xm_i (i := 53) (As := [.int (xI z1), .int (xI z2)]) (rest := [.int r1]) ⟨hx, hb, hml, hown, hts⟩ hl.1 (c_X5_joined l D cA 68 ad ur1 _ (by omega) hM hW hR z1 hr1 z2 hr2) k_X5_joined u_ml_RL_178 hK hN hP (by omega) hM.1 rfl rfl rfl rfl (Nat.le_of_ble_eq_true rfl) ⟨Nat.le_of_ble_eq_true rfl, Nat.le_of_ble_eq_true rfl⟩ ⟨Nat.le_of_ble_eq_true rfl, Nat.le_of_ble_eq_true rfl⟩ dL_law_1817 hD hS hA (fun r2 ur2 H locs hpr2 hP hS => ?_)
  obtain ⟨ha2, M1, hM, hR1, ho2⟩ := hpr2
  have hC := hC.far ho2 (by omega)
  exact lv_icmp_eq hx hb (tgt := 2030) dL_law_1820 (by decide) (fun _ => kk _ _ _ _ _ hC hM hR1 hP hS) (fun q => absurd (ha1.trans ha2.symm) q)

set_option maxRecDepth 20000 in
set_option maxHeartbeats 1000000 in
theorem lc_cutter {p : Program} {l : Launch} {e : Env} {s : State} {m : MethodId} {below : List Frame} {meth : Method} {c : Code} {Q : State → Prop} {D : va_G} {cA : Nat → ClassId} {b L : Nat} {xs : Nat → Int32} (hE : LE p s m c b L xs D cA) {ad : Nat → Nat} (hD : xD (fun q => s.heap.size ≤ q) 68 ad) {S : xSt} {M : MO} {en : Nat → va_E} {H : Heap} {locs : List Loc} (hC : CW cA ad en S) (hM : MW cA ad en M) (hR : MR S M) (hP : va_P D vwCl (xw 68 ad en) H) (hS : va_S (fun q => s.heap.size ≤ q) s.heap H locs) {i : Int} (hi : 0 ≤ i ∧ i + 6 ≤ L ∧ L ≤ 3072) {ls : Array Slot} (hl : lv_has ls 4 [(0, .ref b), (1, .ref (ad 0)), (2, .ref (ad 53)), (3, .int (xI i))])
    (kk : ∀ (S1 : xSt) (M1 : MO) (en1 : Nat → va_E) (H1 : Heap) (locs1 : List Loc), CW cA ad en1 S1 → MW cA ad en1 M1 → MR S1 M1 → va_P D vwCl (xw 68 ad en1) H1 → va_S (fun q => s.heap.size ≤ q) s.heap H1 locs1 → W p l e room_1 s m #[Value.ref b] below meth c H1 locs1 68 8593 Q (F0 m 2030 ls [])) : W p l e room_1 s m #[Value.ref b] below meth c H locs 68 8593 Q (F0 m 1825 ls []) := by
  obtain ⟨hx, hb, hml, hown, hts, hX, hbl, hK, hN, hZ⟩ := hE
  have hA : ∀ q : Nat, s.heap.size ≤ q → (fun q : Nat => s.heap.size ≤ q) q := fun _ h => h
  have hbA : ¬ (fun q : Nat => s.heap.size ≤ q) b := Nat.not_le.mpr hbl
  have hW : WF S := hC.wf
  obtain ⟨z1, hz1, hr1⟩ := x_scr (xs ((xI (i + 1)).toNatClampNeg))
  obtain ⟨z2, hz2, hr2⟩ := x_scr (xs ((xI (i + 2)).toNatClampNeg))
  obtain ⟨z3, hz3, hr3⟩ := x_scr (xs ((xI (i + 3)).toNatClampNeg))
  obtain ⟨z4, hz4, hr4⟩ := x_scr (xs ((xI (i + 4)).toNatClampNeg))
  obtain ⟨z5, hz5, hr5⟩ := x_scr (xs ((xI (i + 5)).toNatClampNeg))
  refine lv_aload_n hx hb dL_law_1825 rfl (lv_at hl 1 rfl) ?_
  refine lv_aload_n hx hb dL_law_1826 rfl (lv_at hl 0 rfl) ?_
  refine lv_iload_n hx hb dL_law_1827 rfl (lv_at hl 3 rfl) ?_
  refine x_iconst hx hb dL_law_1828 ?_
  refine x_iadd hx hb dL_law_1829 ?_
  refine va_sld hx hb hX hbl hbA hS (xI_in (by omega)) dL_law_1830 ?_
  refine x_toi z1 hz1 ?_
  refine lv_aload_n hx hb dL_law_1831 rfl (lv_at hl 0 rfl) ?_
  refine lv_iload_n hx hb dL_law_1832 rfl (lv_at hl 3 rfl) ?_
  refine x_iconst hx hb dL_law_1833 ?_
  refine x_iadd hx hb dL_law_1834 ?_
  refine va_sld hx hb hX hbl hbA hS (xI_in (by omega)) dL_law_1835 ?_
  refine x_toi z2 hz2 ?_
  refine lv_aload_n hx hb dL_law_1836 rfl (lv_at hl 0 rfl) ?_
  refine lv_iload_n hx hb dL_law_1837 rfl (lv_at hl 3 rfl) ?_
  refine x_iconst hx hb dL_law_1838 ?_
  refine x_iadd hx hb dL_law_1839 ?_
  refine va_sld hx hb hX hbl hbA hS (xI_in (by omega)) dL_law_1840 ?_
  refine x_toi z3 hz3 ?_
  refine lv_aload_n hx hb dL_law_1841 rfl (lv_at hl 0 rfl) ?_
  refine lv_iload_n hx hb dL_law_1842 rfl (lv_at hl 3 rfl) ?_
  refine x_iconst hx hb dL_law_1843 ?_
  refine x_iadd hx hb dL_law_1844 ?_
  refine va_sld hx hb hX hbl hbA hS (xI_in (by omega)) dL_law_1845 ?_
  refine x_toi z4 hz4 ?_
  refine x_if_eq (tgt := 1853) hx hb dL_law_1846 (by decide) (by omega) (fun c_1846 => ?_) (fun c_1846 => ?_)
  · refine x_iconst hx hb dL_law_1853 ?_
    refine x_tov (congrArg Value.int (show xI 0 = xb (z4 ≠ 0) from xb_0 (fun q => q c_1846))) ?_
    refine xm_i (i := 0) (As := [.int (xI z1), .int (xI z2), .int (xI z3), .int (xb (z4 ≠ 0))]) (rest := []) ⟨hx, hb, hml, hown, hts⟩ hl.1 (c_X4_cutter l D cA 68 ad en _ (by omega) hC z1 hr1 z2 hr2 z3 hr3 (z4 ≠ 0)) k_X4_cutter u_ml_RL_179 hK hN hP (by omega) hC.1 rfl rfl rfl rfl (Nat.le_of_ble_eq_true rfl) ⟨Nat.le_of_ble_eq_true rfl, Nat.le_of_ble_eq_true rfl⟩ ⟨Nat.le_of_ble_eq_true rfl, Nat.le_of_ble_eq_true rfl⟩ dL_law_1854 hD hS hA (fun r1 ur1 H locs hpr1 hP hS => ?_)
    obtain ⟨ha1, hC, ho1⟩ := hpr1
    have hM := hM.ko ho1 (by omega)
    refine lv_aload_n hx hb dL_law_1857 rfl (lv_at hl 2 rfl) ?_
    refine lv_aload_n hx hb dL_law_1858 rfl (lv_at hl 0 rfl) ?_
    refine lv_iload_n hx hb dL_law_1859 rfl (lv_at hl 3 rfl) ?_
    refine x_iconst hx hb dL_law_1860 ?_
    refine x_iadd hx hb dL_law_1861 ?_
    refine va_sld hx hb hX hbl hbA hS (xI_in (by omega)) dL_law_1862 ?_
    refine x_toi z1 hz1 ?_
    refine lv_aload_n hx hb dL_law_1863 rfl (lv_at hl 0 rfl) ?_
    refine lv_iload_n hx hb dL_law_1864 rfl (lv_at hl 3 rfl) ?_
    refine x_iconst hx hb dL_law_1865 ?_
    refine x_iadd hx hb dL_law_1866 ?_
    refine va_sld hx hb hX hbl hbA hS (xI_in (by omega)) dL_law_1867 ?_
    refine x_toi z2 hz2 ?_
    refine lv_aload_n hx hb dL_law_1868 rfl (lv_at hl 0 rfl) ?_
    refine lv_iload_n hx hb dL_law_1869 rfl (lv_at hl 3 rfl) ?_
    refine x_iconst hx hb dL_law_1870 ?_
    refine x_iadd hx hb dL_law_1871 ?_
    refine va_sld hx hb hX hbl hbA hS (xI_in (by omega)) dL_law_1872 ?_
    refine x_toi z3 hz3 ?_
    refine lv_aload_n hx hb dL_law_1873 rfl (lv_at hl 0 rfl) ?_
    refine lv_iload_n hx hb dL_law_1874 rfl (lv_at hl 3 rfl) ?_
    refine x_iconst hx hb dL_law_1875 ?_
    refine x_iadd hx hb dL_law_1876 ?_
    refine va_sld hx hb hX hbl hbA hS (xI_in (by omega)) dL_law_1877 ?_
    refine x_toi z4 hz4 ?_
    refine x_if_eq (tgt := 1885) hx hb dL_law_1878 (by decide) (by omega) (fun c_1878 => ?_) (fun c_1878 => ?_)
    · refine x_iconst hx hb dL_law_1885 ?_
      refine x_tov (congrArg Value.int (show xI 0 = xb (z4 ≠ 0) from xb_0 (fun q => q c_1878))) ?_
      refine xm_i (i := 53) (As := [.int (xI z1), .int (xI z2), .int (xI z3), .int (xb (z4 ≠ 0))]) (rest := [.int r1]) ⟨hx, hb, hml, hown, hts⟩ hl.1 (c_X5_cutter l D cA 68 ad ur1 _ (by omega) hM hW hR z1 hr1 z2 hr2 z3 hr3 (z4 ≠ 0)) k_X5_cutter u_ml_RL_183 hK hN hP (by omega) hM.1 rfl rfl rfl rfl (Nat.le_of_ble_eq_true rfl) ⟨Nat.le_of_ble_eq_true rfl, Nat.le_of_ble_eq_true rfl⟩ ⟨Nat.le_of_ble_eq_true rfl, Nat.le_of_ble_eq_true rfl⟩ dL_law_1886 hD hS hA (fun r2 ur2 H locs hpr2 hP hS => ?_)
      obtain ⟨ha2, M1, hM, hR1, ho2⟩ := hpr2
      have hC := hC.far ho2 (by omega)
      exact lv_icmp_eq hx hb (tgt := 2030) dL_law_1889 (by decide) (fun _ => kk _ _ _ _ _ hC hM hR1 hP hS) (fun q => absurd (ha1.trans ha2.symm) q)
    · refine x_iconst hx hb dL_law_1881 ?_
      refine lv_goto (tgt := 1886) hx hb dL_law_1882 (by decide) ?_
      refine x_tov (congrArg Value.int (show xI 1 = xb (z4 ≠ 0) from xb_1 (c_1878))) ?_
      refine xm_i (i := 53) (As := [.int (xI z1), .int (xI z2), .int (xI z3), .int (xb (z4 ≠ 0))]) (rest := [.int r1]) ⟨hx, hb, hml, hown, hts⟩ hl.1 (c_X5_cutter l D cA 68 ad ur1 _ (by omega) hM hW hR z1 hr1 z2 hr2 z3 hr3 (z4 ≠ 0)) k_X5_cutter u_ml_RL_183 hK hN hP (by omega) hM.1 rfl rfl rfl rfl (Nat.le_of_ble_eq_true rfl) ⟨Nat.le_of_ble_eq_true rfl, Nat.le_of_ble_eq_true rfl⟩ ⟨Nat.le_of_ble_eq_true rfl, Nat.le_of_ble_eq_true rfl⟩ dL_law_1886 hD hS hA (fun r2 ur2 H locs hpr2 hP hS => ?_)
      obtain ⟨ha2, M1, hM, hR1, ho2⟩ := hpr2
      have hC := hC.far ho2 (by omega)
      exact lv_icmp_eq hx hb (tgt := 2030) dL_law_1889 (by decide) (fun _ => kk _ _ _ _ _ hC hM hR1 hP hS) (fun q => absurd (ha1.trans ha2.symm) q)
  · refine x_iconst hx hb dL_law_1849 ?_
    refine lv_goto (tgt := 1854) hx hb dL_law_1850 (by decide) ?_
    refine x_tov (congrArg Value.int (show xI 1 = xb (z4 ≠ 0) from xb_1 (c_1846))) ?_
    refine xm_i (i := 0) (As := [.int (xI z1), .int (xI z2), .int (xI z3), .int (xb (z4 ≠ 0))]) (rest := []) ⟨hx, hb, hml, hown, hts⟩ hl.1 (c_X4_cutter l D cA 68 ad en _ (by omega) hC z1 hr1 z2 hr2 z3 hr3 (z4 ≠ 0)) k_X4_cutter u_ml_RL_179 hK hN hP (by omega) hC.1 rfl rfl rfl rfl (Nat.le_of_ble_eq_true rfl) ⟨Nat.le_of_ble_eq_true rfl, Nat.le_of_ble_eq_true rfl⟩ ⟨Nat.le_of_ble_eq_true rfl, Nat.le_of_ble_eq_true rfl⟩ dL_law_1854 hD hS hA (fun r1 ur1 H locs hpr1 hP hS => ?_)
    obtain ⟨ha1, hC, ho1⟩ := hpr1
    have hM := hM.ko ho1 (by omega)
    refine lv_aload_n hx hb dL_law_1857 rfl (lv_at hl 2 rfl) ?_
    refine lv_aload_n hx hb dL_law_1858 rfl (lv_at hl 0 rfl) ?_
    refine lv_iload_n hx hb dL_law_1859 rfl (lv_at hl 3 rfl) ?_
    refine x_iconst hx hb dL_law_1860 ?_
    refine x_iadd hx hb dL_law_1861 ?_
    refine va_sld hx hb hX hbl hbA hS (xI_in (by omega)) dL_law_1862 ?_
    refine x_toi z1 hz1 ?_
    refine lv_aload_n hx hb dL_law_1863 rfl (lv_at hl 0 rfl) ?_
    refine lv_iload_n hx hb dL_law_1864 rfl (lv_at hl 3 rfl) ?_
    refine x_iconst hx hb dL_law_1865 ?_
    refine x_iadd hx hb dL_law_1866 ?_
    refine va_sld hx hb hX hbl hbA hS (xI_in (by omega)) dL_law_1867 ?_
    refine x_toi z2 hz2 ?_
    refine lv_aload_n hx hb dL_law_1868 rfl (lv_at hl 0 rfl) ?_
    refine lv_iload_n hx hb dL_law_1869 rfl (lv_at hl 3 rfl) ?_
    refine x_iconst hx hb dL_law_1870 ?_
    refine x_iadd hx hb dL_law_1871 ?_
    refine va_sld hx hb hX hbl hbA hS (xI_in (by omega)) dL_law_1872 ?_
    refine x_toi z3 hz3 ?_
    refine lv_aload_n hx hb dL_law_1873 rfl (lv_at hl 0 rfl) ?_
    refine lv_iload_n hx hb dL_law_1874 rfl (lv_at hl 3 rfl) ?_
    refine x_iconst hx hb dL_law_1875 ?_
    refine x_iadd hx hb dL_law_1876 ?_
    refine va_sld hx hb hX hbl hbA hS (xI_in (by omega)) dL_law_1877 ?_
    refine x_toi z4 hz4 ?_
    refine x_if_eq (tgt := 1885) hx hb dL_law_1878 (by decide) (by omega) (fun c_1878 => ?_) (fun c_1878 => ?_)
    · refine x_iconst hx hb dL_law_1885 ?_
      refine x_tov (congrArg Value.int (show xI 0 = xb (z4 ≠ 0) from xb_0 (fun q => q c_1878))) ?_
      refine xm_i (i := 53) (As := [.int (xI z1), .int (xI z2), .int (xI z3), .int (xb (z4 ≠ 0))]) (rest := [.int r1]) ⟨hx, hb, hml, hown, hts⟩ hl.1 (c_X5_cutter l D cA 68 ad ur1 _ (by omega) hM hW hR z1 hr1 z2 hr2 z3 hr3 (z4 ≠ 0)) k_X5_cutter u_ml_RL_183 hK hN hP (by omega) hM.1 rfl rfl rfl rfl (Nat.le_of_ble_eq_true rfl) ⟨Nat.le_of_ble_eq_true rfl, Nat.le_of_ble_eq_true rfl⟩ ⟨Nat.le_of_ble_eq_true rfl, Nat.le_of_ble_eq_true rfl⟩ dL_law_1886 hD hS hA (fun r2 ur2 H locs hpr2 hP hS => ?_)
      obtain ⟨ha2, M1, hM, hR1, ho2⟩ := hpr2
      have hC := hC.far ho2 (by omega)
      exact lv_icmp_eq hx hb (tgt := 2030) dL_law_1889 (by decide) (fun _ => kk _ _ _ _ _ hC hM hR1 hP hS) (fun q => absurd (ha1.trans ha2.symm) q)
    · refine x_iconst hx hb dL_law_1881 ?_
      refine lv_goto (tgt := 1886) hx hb dL_law_1882 (by decide) ?_
      refine x_tov (congrArg Value.int (show xI 1 = xb (z4 ≠ 0) from xb_1 (c_1878))) ?_
      refine xm_i (i := 53) (As := [.int (xI z1), .int (xI z2), .int (xI z3), .int (xb (z4 ≠ 0))]) (rest := [.int r1]) ⟨hx, hb, hml, hown, hts⟩ hl.1 (c_X5_cutter l D cA 68 ad ur1 _ (by omega) hM hW hR z1 hr1 z2 hr2 z3 hr3 (z4 ≠ 0)) k_X5_cutter u_ml_RL_183 hK hN hP (by omega) hM.1 rfl rfl rfl rfl (Nat.le_of_ble_eq_true rfl) ⟨Nat.le_of_ble_eq_true rfl, Nat.le_of_ble_eq_true rfl⟩ ⟨Nat.le_of_ble_eq_true rfl, Nat.le_of_ble_eq_true rfl⟩ dL_law_1886 hD hS hA (fun r2 ur2 H locs hpr2 hP hS => ?_)
      obtain ⟨ha2, M1, hM, hR1, ho2⟩ := hpr2
      have hC := hC.far ho2 (by omega)
      exact lv_icmp_eq hx hb (tgt := 2030) dL_law_1889 (by decide) (fun _ => kk _ _ _ _ _ hC hM hR1 hP hS) (fun q => absurd (ha1.trans ha2.symm) q)

set_option maxRecDepth 20000 in
set_option maxHeartbeats 1000000 in
theorem lc_more {p : Program} {l : Launch} {e : Env} {s : State} {m : MethodId} {below : List Frame} {meth : Method} {c : Code} {Q : State → Prop} {D : va_G} {cA : Nat → ClassId} {b L : Nat} {xs : Nat → Int32} (hE : LE p s m c b L xs D cA) {ad : Nat → Nat} (hD : xD (fun q => s.heap.size ≤ q) 68 ad) {S : xSt} {M : MO} {en : Nat → va_E} {H : Heap} {locs : List Loc} (hC : CW cA ad en S) (hM : MW cA ad en M) (hR : MR S M) (hP : va_P D vwCl (xw 68 ad en) H) (hS : va_S (fun q => s.heap.size ≤ q) s.heap H locs) {i : Int} (hi : 0 ≤ i ∧ i + 6 ≤ L ∧ L ≤ 3072) {ls : Array Slot} (hl : lv_has ls 4 [(0, .ref b), (1, .ref (ad 0)), (2, .ref (ad 53)), (3, .int (xI i))])
    (kk : ∀ (S1 : xSt) (M1 : MO) (en1 : Nat → va_E) (H1 : Heap) (locs1 : List Loc), CW cA ad en1 S1 → MW cA ad en1 M1 → MR S1 M1 → va_P D vwCl (xw 68 ad en1) H1 → va_S (fun q => s.heap.size ≤ q) s.heap H1 locs1 → W p l e room_1 s m #[Value.ref b] below meth c H1 locs1 68 8593 Q (F0 m 2030 ls [])) : W p l e room_1 s m #[Value.ref b] below meth c H locs 68 8593 Q (F0 m 1894 ls []) := by
  obtain ⟨hx, hb, hml, hown, hts, hX, hbl, hK, hN, hZ⟩ := hE
  have hA : ∀ q : Nat, s.heap.size ≤ q → (fun q : Nat => s.heap.size ≤ q) q := fun _ h => h
  have hbA : ¬ (fun q : Nat => s.heap.size ≤ q) b := Nat.not_le.mpr hbl
  have hW : WF S := hC.wf
  obtain ⟨z1, hz1, hr1⟩ := x_scr (xs ((xI (i + 1)).toNatClampNeg))
  obtain ⟨z2, hz2, hr2⟩ := x_scr (xs ((xI (i + 2)).toNatClampNeg))
  obtain ⟨z3, hz3, hr3⟩ := x_scr (xs ((xI (i + 3)).toNatClampNeg))
  obtain ⟨z4, hz4, hr4⟩ := x_scr (xs ((xI (i + 4)).toNatClampNeg))
  obtain ⟨z5, hz5, hr5⟩ := x_scr (xs ((xI (i + 5)).toNatClampNeg))
  refine lv_aload_n hx hb dL_law_1894 rfl (lv_at hl 1 rfl) ?_
  refine lv_aload_n hx hb dL_law_1895 rfl (lv_at hl 0 rfl) ?_
  refine lv_iload_n hx hb dL_law_1896 rfl (lv_at hl 3 rfl) ?_
  refine x_iconst hx hb dL_law_1897 ?_
  refine x_iadd hx hb dL_law_1898 ?_
  refine va_sld hx hb hX hbl hbA hS (xI_in (by omega)) dL_law_1899 ?_
  refine x_toi z1 hz1 ?_
  refine xv_i (i := 0) (As := [.int (xI z1)]) (rest := []) ⟨hx, hb, hml, hown, hts⟩ hl.1 (c_X4_more l D cA 68 ad en (by omega) hC z1 hr1) k_X4_more u_ml_RL_184 hK hN hP (by omega) hC.1 rfl rfl rfl rfl (Nat.le_of_ble_eq_true rfl) ⟨Nat.le_of_ble_eq_true rfl, Nat.le_of_ble_eq_true rfl⟩ ⟨Nat.le_of_ble_eq_true rfl, Nat.le_of_ble_eq_true rfl⟩ dL_law_1900 ?_
  obtain ⟨r1, ha1⟩ : ∃ z, z = xI (am_more S z1) := ⟨_, rfl⟩
  rw [← ha1]
  refine lv_aload_n hx hb dL_law_1903 rfl (lv_at hl 2 rfl) ?_
  refine lv_aload_n hx hb dL_law_1904 rfl (lv_at hl 0 rfl) ?_
  refine lv_iload_n hx hb dL_law_1905 rfl (lv_at hl 3 rfl) ?_
  refine x_iconst hx hb dL_law_1906 ?_
  refine x_iadd hx hb dL_law_1907 ?_
  refine va_sld hx hb hX hbl hbA hS (xI_in (by omega)) dL_law_1908 ?_
  refine x_toi z1 hz1 ?_
  refine xv_i (i := 53) (As := [.int (xI z1)]) (rest := [.int r1]) ⟨hx, hb, hml, hown, hts⟩ hl.1 (c_X5_more l D cA 68 ad en (by omega) hM hW hR z1 hr1) k_X5_more u_ml_RL_187 hK hN hP (by omega) hM.1 rfl rfl rfl rfl (Nat.le_of_ble_eq_true rfl) ⟨Nat.le_of_ble_eq_true rfl, Nat.le_of_ble_eq_true rfl⟩ ⟨Nat.le_of_ble_eq_true rfl, Nat.le_of_ble_eq_true rfl⟩ dL_law_1909 ?_
  obtain ⟨r2, ha2⟩ : ∃ z, z = xI (am_more S z1) := ⟨_, rfl⟩
  rw [← ha2]
  exact lv_icmp_eq hx hb (tgt := 2030) dL_law_1912 (by decide) (fun _ => kk _ _ _ _ _ hC hM hR hP hS) (fun q => absurd (ha1.trans ha2.symm) q)

set_option maxRecDepth 20000 in
set_option maxHeartbeats 1000000 in
theorem lc_left {p : Program} {l : Launch} {e : Env} {s : State} {m : MethodId} {below : List Frame} {meth : Method} {c : Code} {Q : State → Prop} {D : va_G} {cA : Nat → ClassId} {b L : Nat} {xs : Nat → Int32} (hE : LE p s m c b L xs D cA) {ad : Nat → Nat} (hD : xD (fun q => s.heap.size ≤ q) 68 ad) {S : xSt} {M : MO} {en : Nat → va_E} {H : Heap} {locs : List Loc} (hC : CW cA ad en S) (hM : MW cA ad en M) (hR : MR S M) (hP : va_P D vwCl (xw 68 ad en) H) (hS : va_S (fun q => s.heap.size ≤ q) s.heap H locs) {i : Int} (hi : 0 ≤ i ∧ i + 6 ≤ L ∧ L ≤ 3072) {ls : Array Slot} (hl : lv_has ls 4 [(0, .ref b), (1, .ref (ad 0)), (2, .ref (ad 53)), (3, .int (xI i))])
    (kk : ∀ (S1 : xSt) (M1 : MO) (en1 : Nat → va_E) (H1 : Heap) (locs1 : List Loc), CW cA ad en1 S1 → MW cA ad en1 M1 → MR S1 M1 → va_P D vwCl (xw 68 ad en1) H1 → va_S (fun q => s.heap.size ≤ q) s.heap H1 locs1 → W p l e room_1 s m #[Value.ref b] below meth c H1 locs1 68 8593 Q (F0 m 2030 ls [])) : W p l e room_1 s m #[Value.ref b] below meth c H locs 68 8593 Q (F0 m 1917 ls []) := by
  obtain ⟨hx, hb, hml, hown, hts, hX, hbl, hK, hN, hZ⟩ := hE
  have hA : ∀ q : Nat, s.heap.size ≤ q → (fun q : Nat => s.heap.size ≤ q) q := fun _ h => h
  have hbA : ¬ (fun q : Nat => s.heap.size ≤ q) b := Nat.not_le.mpr hbl
  have hW : WF S := hC.wf
  obtain ⟨z1, hz1, hr1⟩ := x_scr (xs ((xI (i + 1)).toNatClampNeg))
  obtain ⟨z2, hz2, hr2⟩ := x_scr (xs ((xI (i + 2)).toNatClampNeg))
  obtain ⟨z3, hz3, hr3⟩ := x_scr (xs ((xI (i + 3)).toNatClampNeg))
  obtain ⟨z4, hz4, hr4⟩ := x_scr (xs ((xI (i + 4)).toNatClampNeg))
  obtain ⟨z5, hz5, hr5⟩ := x_scr (xs ((xI (i + 5)).toNatClampNeg))
  refine lv_aload_n hx hb dL_law_1917 rfl (lv_at hl 1 rfl) ?_
  refine lv_aload_n hx hb dL_law_1918 rfl (lv_at hl 0 rfl) ?_
  refine lv_iload_n hx hb dL_law_1919 rfl (lv_at hl 3 rfl) ?_
  refine x_iconst hx hb dL_law_1920 ?_
  refine x_iadd hx hb dL_law_1921 ?_
  refine va_sld hx hb hX hbl hbA hS (xI_in (by omega)) dL_law_1922 ?_
  refine x_toi z1 hz1 ?_
  refine xv_i (i := 0) (As := [.int (xI z1)]) (rest := []) ⟨hx, hb, hml, hown, hts⟩ hl.1 (c_X4_left l D cA 68 ad en (by omega) hC z1 hr1) k_X4_left u_ml_RL_188 hK hN hP (by omega) hC.1 rfl rfl rfl rfl (Nat.le_of_ble_eq_true rfl) ⟨Nat.le_of_ble_eq_true rfl, Nat.le_of_ble_eq_true rfl⟩ ⟨Nat.le_of_ble_eq_true rfl, Nat.le_of_ble_eq_true rfl⟩ dL_law_1923 ?_
  obtain ⟨r1, ha1⟩ : ∃ z, z = xI (am_left S z1) := ⟨_, rfl⟩
  rw [← ha1]
  refine lv_aload_n hx hb dL_law_1926 rfl (lv_at hl 2 rfl) ?_
  refine lv_aload_n hx hb dL_law_1927 rfl (lv_at hl 0 rfl) ?_
  refine lv_iload_n hx hb dL_law_1928 rfl (lv_at hl 3 rfl) ?_
  refine x_iconst hx hb dL_law_1929 ?_
  refine x_iadd hx hb dL_law_1930 ?_
  refine va_sld hx hb hX hbl hbA hS (xI_in (by omega)) dL_law_1931 ?_
  refine x_toi z1 hz1 ?_
  refine xv_i (i := 53) (As := [.int (xI z1)]) (rest := [.int r1]) ⟨hx, hb, hml, hown, hts⟩ hl.1 (c_X5_left l D cA 68 ad en (by omega) hM hW hR z1 hr1) k_X5_left u_ml_RL_191 hK hN hP (by omega) hM.1 rfl rfl rfl rfl (Nat.le_of_ble_eq_true rfl) ⟨Nat.le_of_ble_eq_true rfl, Nat.le_of_ble_eq_true rfl⟩ ⟨Nat.le_of_ble_eq_true rfl, Nat.le_of_ble_eq_true rfl⟩ dL_law_1932 ?_
  obtain ⟨r2, ha2⟩ : ∃ z, z = xI (am_left S z1) := ⟨_, rfl⟩
  rw [← ha2]
  exact lv_icmp_eq hx hb (tgt := 2030) dL_law_1935 (by decide) (fun _ => kk _ _ _ _ _ hC hM hR hP hS) (fun q => absurd (ha1.trans ha2.symm) q)

set_option maxRecDepth 20000 in
set_option maxHeartbeats 1000000 in
theorem lc_next {p : Program} {l : Launch} {e : Env} {s : State} {m : MethodId} {below : List Frame} {meth : Method} {c : Code} {Q : State → Prop} {D : va_G} {cA : Nat → ClassId} {b L : Nat} {xs : Nat → Int32} (hE : LE p s m c b L xs D cA) {ad : Nat → Nat} (hD : xD (fun q => s.heap.size ≤ q) 68 ad) {S : xSt} {M : MO} {en : Nat → va_E} {H : Heap} {locs : List Loc} (hC : CW cA ad en S) (hM : MW cA ad en M) (hR : MR S M) (hP : va_P D vwCl (xw 68 ad en) H) (hS : va_S (fun q => s.heap.size ≤ q) s.heap H locs) {i : Int} (hi : 0 ≤ i ∧ i + 6 ≤ L ∧ L ≤ 3072) {ls : Array Slot} (hl : lv_has ls 4 [(0, .ref b), (1, .ref (ad 0)), (2, .ref (ad 53)), (3, .int (xI i))])
    (kk : ∀ (S1 : xSt) (M1 : MO) (en1 : Nat → va_E) (H1 : Heap) (locs1 : List Loc), CW cA ad en1 S1 → MW cA ad en1 M1 → MR S1 M1 → va_P D vwCl (xw 68 ad en1) H1 → va_S (fun q => s.heap.size ≤ q) s.heap H1 locs1 → W p l e room_1 s m #[Value.ref b] below meth c H1 locs1 68 8593 Q (F0 m 2030 ls [])) : W p l e room_1 s m #[Value.ref b] below meth c H locs 68 8593 Q (F0 m 1940 ls []) := by
  obtain ⟨hx, hb, hml, hown, hts, hX, hbl, hK, hN, hZ⟩ := hE
  have hA : ∀ q : Nat, s.heap.size ≤ q → (fun q : Nat => s.heap.size ≤ q) q := fun _ h => h
  have hbA : ¬ (fun q : Nat => s.heap.size ≤ q) b := Nat.not_le.mpr hbl
  have hW : WF S := hC.wf
  obtain ⟨z1, hz1, hr1⟩ := x_scr (xs ((xI (i + 1)).toNatClampNeg))
  obtain ⟨z2, hz2, hr2⟩ := x_scr (xs ((xI (i + 2)).toNatClampNeg))
  obtain ⟨z3, hz3, hr3⟩ := x_scr (xs ((xI (i + 3)).toNatClampNeg))
  obtain ⟨z4, hz4, hr4⟩ := x_scr (xs ((xI (i + 4)).toNatClampNeg))
  obtain ⟨z5, hz5, hr5⟩ := x_scr (xs ((xI (i + 5)).toNatClampNeg))
  refine lv_aload_n hx hb dL_law_1940 rfl (lv_at hl 1 rfl) ?_
  refine lv_aload_n hx hb dL_law_1941 rfl (lv_at hl 0 rfl) ?_
  refine lv_iload_n hx hb dL_law_1942 rfl (lv_at hl 3 rfl) ?_
  refine x_iconst hx hb dL_law_1943 ?_
  refine x_iadd hx hb dL_law_1944 ?_
  refine va_sld hx hb hX hbl hbA hS (xI_in (by omega)) dL_law_1945 ?_
  refine x_toi z1 hz1 ?_
  refine lv_aload_n hx hb dL_law_1946 rfl (lv_at hl 0 rfl) ?_
  refine lv_iload_n hx hb dL_law_1947 rfl (lv_at hl 3 rfl) ?_
  refine x_iconst hx hb dL_law_1948 ?_
  refine x_iadd hx hb dL_law_1949 ?_
  refine va_sld hx hb hX hbl hbA hS (xI_in (by omega)) dL_law_1950 ?_
  refine x_toi z2 hz2 ?_
  refine xm_i (i := 0) (As := [.int (xI z1), .int (xI z2)]) (rest := []) ⟨hx, hb, hml, hown, hts⟩ hl.1 (c_X4_next l D cA 68 ad en _ (by omega) hC z1 hr1 z2 hr2) k_X4_next u_ml_RL_192 hK hN hP (by omega) hC.1 rfl rfl rfl rfl (Nat.le_of_ble_eq_true rfl) ⟨Nat.le_of_ble_eq_true rfl, Nat.le_of_ble_eq_true rfl⟩ ⟨Nat.le_of_ble_eq_true rfl, Nat.le_of_ble_eq_true rfl⟩ dL_law_1951 hD hS hA (fun r1 ur1 H locs hpr1 hP hS => ?_)
  obtain ⟨ha1, hC, ho1⟩ := hpr1
  have hM := hM.ko ho1 (by omega)
  refine lv_aload_n hx hb dL_law_1954 rfl (lv_at hl 2 rfl) ?_
  refine lv_aload_n hx hb dL_law_1955 rfl (lv_at hl 0 rfl) ?_
  refine lv_iload_n hx hb dL_law_1956 rfl (lv_at hl 3 rfl) ?_
  refine x_iconst hx hb dL_law_1957 ?_
  refine x_iadd hx hb dL_law_1958 ?_
  refine va_sld hx hb hX hbl hbA hS (xI_in (by omega)) dL_law_1959 ?_
  refine x_toi z1 hz1 ?_
  refine lv_aload_n hx hb dL_law_1960 rfl (lv_at hl 0 rfl) ?_
  refine lv_iload_n hx hb dL_law_1961 rfl (lv_at hl 3 rfl) ?_
  refine x_iconst hx hb dL_law_1962 ?_
  refine x_iadd hx hb dL_law_1963 ?_
  refine va_sld hx hb hX hbl hbA hS (xI_in (by omega)) dL_law_1964 ?_
  refine x_toi z2 hz2 ?_
  refine xm_i (i := 53) (As := [.int (xI z1), .int (xI z2)]) (rest := [.int r1]) ⟨hx, hb, hml, hown, hts⟩ hl.1 (c_X5_next l D cA 68 ad ur1 _ (by omega) hM hW hR z1 hr1 z2 hr2) k_X5_next u_ml_RL_195 hK hN hP (by omega) hM.1 rfl rfl rfl rfl (Nat.le_of_ble_eq_true rfl) ⟨Nat.le_of_ble_eq_true rfl, Nat.le_of_ble_eq_true rfl⟩ ⟨Nat.le_of_ble_eq_true rfl, Nat.le_of_ble_eq_true rfl⟩ dL_law_1965 hD hS hA (fun r2 ur2 H locs hpr2 hP hS => ?_)
  obtain ⟨ha2, M1, hM, hR1, ho2⟩ := hpr2
  have hC := hC.far ho2 (by omega)
  exact lv_icmp_eq hx hb (tgt := 2030) dL_law_1968 (by decide) (fun _ => kk _ _ _ _ _ hC hM hR1 hP hS) (fun q => absurd (ha1.trans ha2.symm) q)

set_option maxRecDepth 20000 in
set_option maxHeartbeats 1000000 in
theorem lc_nextBy {p : Program} {l : Launch} {e : Env} {s : State} {m : MethodId} {below : List Frame} {meth : Method} {c : Code} {Q : State → Prop} {D : va_G} {cA : Nat → ClassId} {b L : Nat} {xs : Nat → Int32} (hE : LE p s m c b L xs D cA) {ad : Nat → Nat} (hD : xD (fun q => s.heap.size ≤ q) 68 ad) {S : xSt} {M : MO} {en : Nat → va_E} {H : Heap} {locs : List Loc} (hC : CW cA ad en S) (hM : MW cA ad en M) (hR : MR S M) (hP : va_P D vwCl (xw 68 ad en) H) (hS : va_S (fun q => s.heap.size ≤ q) s.heap H locs) {i : Int} (hi : 0 ≤ i ∧ i + 6 ≤ L ∧ L ≤ 3072) {ls : Array Slot} (hl : lv_has ls 4 [(0, .ref b), (1, .ref (ad 0)), (2, .ref (ad 53)), (3, .int (xI i))])
    (kk : ∀ (S1 : xSt) (M1 : MO) (en1 : Nat → va_E) (H1 : Heap) (locs1 : List Loc), CW cA ad en1 S1 → MW cA ad en1 M1 → MR S1 M1 → va_P D vwCl (xw 68 ad en1) H1 → va_S (fun q => s.heap.size ≤ q) s.heap H1 locs1 → W p l e room_1 s m #[Value.ref b] below meth c H1 locs1 68 8593 Q (F0 m 2030 ls [])) : W p l e room_1 s m #[Value.ref b] below meth c H locs 68 8593 Q (F0 m 1973 ls []) := by
  obtain ⟨hx, hb, hml, hown, hts, hX, hbl, hK, hN, hZ⟩ := hE
  have hA : ∀ q : Nat, s.heap.size ≤ q → (fun q : Nat => s.heap.size ≤ q) q := fun _ h => h
  have hbA : ¬ (fun q : Nat => s.heap.size ≤ q) b := Nat.not_le.mpr hbl
  have hW : WF S := hC.wf
  obtain ⟨z1, hz1, hr1⟩ := x_scr (xs ((xI (i + 1)).toNatClampNeg))
  obtain ⟨z2, hz2, hr2⟩ := x_scr (xs ((xI (i + 2)).toNatClampNeg))
  obtain ⟨z3, hz3, hr3⟩ := x_scr (xs ((xI (i + 3)).toNatClampNeg))
  obtain ⟨z4, hz4, hr4⟩ := x_scr (xs ((xI (i + 4)).toNatClampNeg))
  obtain ⟨z5, hz5, hr5⟩ := x_scr (xs ((xI (i + 5)).toNatClampNeg))
  refine lv_aload_n hx hb dL_law_1973 rfl (lv_at hl 1 rfl) ?_
  refine lv_aload_n hx hb dL_law_1974 rfl (lv_at hl 0 rfl) ?_
  refine lv_iload_n hx hb dL_law_1975 rfl (lv_at hl 3 rfl) ?_
  refine x_iconst hx hb dL_law_1976 ?_
  refine x_iadd hx hb dL_law_1977 ?_
  refine va_sld hx hb hX hbl hbA hS (xI_in (by omega)) dL_law_1978 ?_
  refine x_toi z1 hz1 ?_
  refine lv_aload_n hx hb dL_law_1979 rfl (lv_at hl 0 rfl) ?_
  refine lv_iload_n hx hb dL_law_1980 rfl (lv_at hl 3 rfl) ?_
  refine x_iconst hx hb dL_law_1981 ?_
  refine x_iadd hx hb dL_law_1982 ?_
  refine va_sld hx hb hX hbl hbA hS (xI_in (by omega)) dL_law_1983 ?_
  refine x_toi z2 hz2 ?_
  refine lv_aload_n hx hb dL_law_1984 rfl (lv_at hl 0 rfl) ?_
  refine lv_iload_n hx hb dL_law_1985 rfl (lv_at hl 3 rfl) ?_
  refine x_iconst hx hb dL_law_1986 ?_
  refine x_iadd hx hb dL_law_1987 ?_
  refine va_sld hx hb hX hbl hbA hS (xI_in (by omega)) dL_law_1988 ?_
  refine x_toi z3 hz3 ?_
  refine xm_i (i := 0) (As := [.int (xI z1), .int (xI z2), .int (xI z3)]) (rest := []) ⟨hx, hb, hml, hown, hts⟩ hl.1 (c_X4_nextBy l D cA 68 ad en _ (by omega) hC z1 hr1 z2 hr2 z3 hr3) k_X4_nextBy u_ml_RL_196 hK hN hP (by omega) hC.1 rfl rfl rfl rfl (Nat.le_of_ble_eq_true rfl) ⟨Nat.le_of_ble_eq_true rfl, Nat.le_of_ble_eq_true rfl⟩ ⟨Nat.le_of_ble_eq_true rfl, Nat.le_of_ble_eq_true rfl⟩ dL_law_1989 hD hS hA (fun r1 ur1 H locs hpr1 hP hS => ?_)
  obtain ⟨ha1, hC, ho1⟩ := hpr1
  have hM := hM.ko ho1 (by omega)
  refine lv_aload_n hx hb dL_law_1992 rfl (lv_at hl 2 rfl) ?_
  refine lv_aload_n hx hb dL_law_1993 rfl (lv_at hl 0 rfl) ?_
  refine lv_iload_n hx hb dL_law_1994 rfl (lv_at hl 3 rfl) ?_
  refine x_iconst hx hb dL_law_1995 ?_
  refine x_iadd hx hb dL_law_1996 ?_
  refine va_sld hx hb hX hbl hbA hS (xI_in (by omega)) dL_law_1997 ?_
  refine x_toi z1 hz1 ?_
  refine lv_aload_n hx hb dL_law_1998 rfl (lv_at hl 0 rfl) ?_
  refine lv_iload_n hx hb dL_law_1999 rfl (lv_at hl 3 rfl) ?_
  refine x_iconst hx hb dL_law_2000 ?_
  refine x_iadd hx hb dL_law_2001 ?_
  refine va_sld hx hb hX hbl hbA hS (xI_in (by omega)) dL_law_2002 ?_
  refine x_toi z2 hz2 ?_
  refine lv_aload_n hx hb dL_law_2003 rfl (lv_at hl 0 rfl) ?_
  refine lv_iload_n hx hb dL_law_2004 rfl (lv_at hl 3 rfl) ?_
  refine x_iconst hx hb dL_law_2005 ?_
  refine x_iadd hx hb dL_law_2006 ?_
  refine va_sld hx hb hX hbl hbA hS (xI_in (by omega)) dL_law_2007 ?_
  refine x_toi z3 hz3 ?_
  refine xm_i (i := 53) (As := [.int (xI z1), .int (xI z2), .int (xI z3)]) (rest := [.int r1]) ⟨hx, hb, hml, hown, hts⟩ hl.1 (c_X5_nextBy l D cA 68 ad ur1 _ (by omega) hM hW hR z1 hr1 z2 hr2 z3 hr3) k_X5_nextBy u_ml_RL_199 hK hN hP (by omega) hM.1 rfl rfl rfl rfl (Nat.le_of_ble_eq_true rfl) ⟨Nat.le_of_ble_eq_true rfl, Nat.le_of_ble_eq_true rfl⟩ ⟨Nat.le_of_ble_eq_true rfl, Nat.le_of_ble_eq_true rfl⟩ dL_law_2008 hD hS hA (fun r2 ur2 H locs hpr2 hP hS => ?_)
  obtain ⟨ha2, M1, hM, hR1, ho2⟩ := hpr2
  have hC := hC.far ho2 (by omega)
  exact lv_icmp_eq hx hb (tgt := 2030) dL_law_2011 (by decide) (fun _ => kk _ _ _ _ _ hC hM hR1 hP hS) (fun q => absurd (ha1.trans ha2.symm) q)

set_option maxRecDepth 20000 in
set_option maxHeartbeats 1000000 in
theorem lc_digest {p : Program} {l : Launch} {e : Env} {s : State} {m : MethodId} {below : List Frame} {meth : Method} {c : Code} {Q : State → Prop} {D : va_G} {cA : Nat → ClassId} {b L : Nat} {xs : Nat → Int32} (hE : LE p s m c b L xs D cA) {ad : Nat → Nat} (hD : xD (fun q => s.heap.size ≤ q) 68 ad) {S : xSt} {M : MO} {en : Nat → va_E} {H : Heap} {locs : List Loc} (hC : CW cA ad en S) (hM : MW cA ad en M) (hR : MR S M) (hP : va_P D vwCl (xw 68 ad en) H) (hS : va_S (fun q => s.heap.size ≤ q) s.heap H locs) {i : Int} (hi : 0 ≤ i ∧ i + 6 ≤ L ∧ L ≤ 3072) {ls : Array Slot} (hl : lv_has ls 4 [(0, .ref b), (1, .ref (ad 0)), (2, .ref (ad 53)), (3, .int (xI i))])
    (kk : ∀ (S1 : xSt) (M1 : MO) (en1 : Nat → va_E) (H1 : Heap) (locs1 : List Loc), CW cA ad en1 S1 → MW cA ad en1 M1 → MR S1 M1 → va_P D vwCl (xw 68 ad en1) H1 → va_S (fun q => s.heap.size ≤ q) s.heap H1 locs1 → W p l e room_1 s m #[Value.ref b] below meth c H1 locs1 68 8593 Q (F0 m 2030 ls [])) : W p l e room_1 s m #[Value.ref b] below meth c H locs 68 8593 Q (F0 m 2016 ls []) := by
  obtain ⟨hx, hb, hml, hown, hts, hX, hbl, hK, hN, hZ⟩ := hE
  have hA : ∀ q : Nat, s.heap.size ≤ q → (fun q : Nat => s.heap.size ≤ q) q := fun _ h => h
  have hbA : ¬ (fun q : Nat => s.heap.size ≤ q) b := Nat.not_le.mpr hbl
  have hW : WF S := hC.wf
  obtain ⟨z1, hz1, hr1⟩ := x_scr (xs ((xI (i + 1)).toNatClampNeg))
  obtain ⟨z2, hz2, hr2⟩ := x_scr (xs ((xI (i + 2)).toNatClampNeg))
  obtain ⟨z3, hz3, hr3⟩ := x_scr (xs ((xI (i + 3)).toNatClampNeg))
  obtain ⟨z4, hz4, hr4⟩ := x_scr (xs ((xI (i + 4)).toNatClampNeg))
  obtain ⟨z5, hz5, hr5⟩ := x_scr (xs ((xI (i + 5)).toNatClampNeg))
  refine lv_aload_n hx hb dL_law_2016 rfl (lv_at hl 1 rfl) ?_
  refine xv_l (i := 0) (As := []) (rest := []) ⟨hx, hb, hml, hown, hts⟩ hl.1 (c_X4_digest l D cA 68 ad en (by omega) hC) k_X4_digest u_ml_RL_200 hK hN hP (by omega) hC.1 rfl rfl rfl rfl (Nat.le_of_ble_eq_true rfl) ⟨Nat.le_of_ble_eq_true rfl, Nat.le_of_ble_eq_true rfl⟩ ⟨Nat.le_of_ble_eq_true rfl, Nat.le_of_ble_eq_true rfl⟩ dL_law_2017 ?_
  obtain ⟨r1, ha1⟩ : ∃ z, z = am_digest S := ⟨_, rfl⟩
  rw [← ha1]
  refine lv_aload_n hx hb dL_law_2020 rfl (lv_at hl 2 rfl) ?_
  refine xm_l (i := 53) (As := []) (rest := [.long r1]) ⟨hx, hb, hml, hown, hts⟩ hl.1 (c_X5_digest l D cA 68 ad en _ (by omega) hM hW hR) k_X5_digest u_ml_RL_204 hK hN hP (by omega) hM.1 rfl rfl rfl rfl (Nat.le_of_ble_eq_true rfl) ⟨Nat.le_of_ble_eq_true rfl, Nat.le_of_ble_eq_true rfl⟩ ⟨Nat.le_of_ble_eq_true rfl, Nat.le_of_ble_eq_true rfl⟩ dL_law_2021 hD hS hA (fun r2 ur2 H locs hpr2 hP hS => ?_)
  obtain ⟨ha2, M1, hM, hR1, ho2⟩ := hpr2
  have hC := hC.far ho2 (by omega)
  rw [ha1, ha2]
  obtain ⟨w9, hw9, hr9⟩ := x_scl (am_digest S)
  rw [hw9]
  refine x_lcmp hx hb dL_law_2024 (by omega) ?_
  exact x_if_eq hx hb (tgt := 2030) dL_law_2025 (by decide) (xcmp_r _ _) (fun _ => kk _ _ _ _ _ hC hM hR1 hP hS) (fun q => absurd (xcmp_eq.mpr rfl) q)
