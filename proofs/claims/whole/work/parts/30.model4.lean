theorem xd_iff {p q : Prop} (h : p ↔ q) : xd p = xd q := by rw [show p = q from propext h]

set_option maxRecDepth 20000 in
theorem c_X5_addPart (l : Launch) (D : va_G) (cA : Nat → ClassId) (n : Nat) (ad : Nat → Nat) (en : Nat → va_E) (sz : Nat) (hn : 68 ≤ n) {M : MO} (hM : MW cA ad en M) (pk : Nat) (hpk : pk < 202) (a c9 : Nat) (hpa : M.partFrom pk = (a : Int)) (hpc : M.partMany pk = (c9 : Int)) (hac : a + c9 ≤ 200) (m9 : Nat) (hm : M.rowMany = (m9 : Int)) (hm2 : m9 + c9 ≤ 220) : Met l yX5_addPart (Cond.code yX5_addPart cX5_addPart 3 none :: xU) (xrm 0 0) (va_Pc [.ref (ad 53), .int (xI (pk : Int))] (xM D cA n ad en sz)) (va_Qv (fun u => ∃ F : Nat → Int, (∀ j : Nat, j < m9 → F j = M.row j) ∧ (∀ i : Nat, i < c9 → F (m9 + i) = M.partText (a + i)) ∧ MW cA ad u (mO M.built M.builtMany M.told M.toldMany F ((m9 : Int) + (c9 : Int)) M.figures M.partText M.partFrom M.partMany M.parts M.cut M.cutMany M.isCut M.cutGives M.cutAt M.h) ∧ xO 53 68 en u) (xE D n ad) (xA n ad sz)) 0 0 (xA n ad sz) := by
  refine xmet (by decide) (Nat.le_of_ble_eq_true rfl) (fun p e s mm args below meth c ls hx hb hrt hml hown hts hlocks hname hB hl => ?_)
  obtain ⟨⟨hP, hK, hN⟩, hsz, hDt⟩ := hB
  have hD : xD (xA n ad sz) n ad := xD_self hDt sz
  have hA : ∀ q : Nat, s.heap.size ≤ q → xA n ad sz q := fun q h => Or.inr (by rw [← hsz]; exact h)
  have hS : va_S (xA n ad sz) s.heap s.heap [] := va_S.rf
  have hown : s.vm.findClass RX5 = some mm.cls := hown
  have hl : lv_has ls 3 [(0, .ref (ad 53)), (1, .int (xI (pk : Int)))] := hl
  have ho : xO 53 68 en en := xO.rf
  refine x_iconst hx hb dX5_addPart_0 ?_
  refine lv_istore_n (lv' := [(2, .int (xI 0)), (0, .ref (ad 53)), (1, .int (xI (pk : Int)))]) hx hb dX5_addPart_1 rfl hl (by decide) rfl (fun ls hl => ?_)
  have L2 : ∀ (nn : Nat) (K : Nat) (F : Nat → Int) (ew2 : Nat → va_E) (H : Heap) (locs : List Loc), (K ≤ c9) → ((∀ j : Nat, j < m9 → F j = M.row j) ∧ ∀ i : Nat, i < K → F (m9 + i) = M.partText (a + i)) → (c9 - K) < nn → (MW cA ad ew2 (mO M.built M.builtMany M.told M.toldMany F ((m9 : Int) + (K : Int)) M.figures M.partText M.partFrom M.partMany M.parts M.cut M.cutMany M.isCut M.cutGives M.cutAt M.h)) → (xO 53 68 en ew2) → va_P D vwCl (xw n ad ew2) H → va_S (xA n ad sz) s.heap H locs → ∀ ls : Array Slot, lv_has ls 3 [(0, .ref (ad 53)), (1, .int (xI (pk : Int))), (2, .int (xI (K : Int)))] → W p l e (xrm 0 0) s mm args below meth c H locs 0 0 (MQ below (va_Qv (fun u => ∃ F : Nat → Int, (∀ j : Nat, j < m9 → F j = M.row j) ∧ (∀ i : Nat, i < c9 → F (m9 + i) = M.partText (a + i)) ∧ MW cA ad u (mO M.built M.builtMany M.told M.toldMany F ((m9 : Int) + (c9 : Int)) M.figures M.partText M.partFrom M.partMany M.parts M.cut M.cutMany M.isCut M.cutGives M.cutAt M.h) ∧ xO 53 68 en u) (xE D n ad) (xA n ad sz)) args s 0 0 (xA n ad sz)) (F0 mm 2 ls []) := by
    intro nn
    induction nn with
    | zero =>
      intro K F ew2 H locs hk8 hF hmm hM ho hP hS ls hl
      exact absurd hmm (Nat.not_lt_zero _)
    | succ nn ih =>
      intro K F ew2 H locs hk8 hF hmm hM ho hP hS ls hl
      refine lv_iload_n hx hb dX5_addPart_2 rfl (lv_at hl 2 rfl) ?_
      refine lv_aload_n hx hb dX5_addPart_3 rfl (lv_at hl 0 rfl) ?_
      refine x_get (T := TX5) (N := 17) hx hb hts uX5 hown hK hP (i := 53) (by omega) (show ew2 53 = .inr (5, [.ref (ad 54), .ref (ad 55), .ref (ad 56), .ref (ad 57), .ref (ad 58), .int (xI ((m9 : Int) + (K : Int))), .ref (ad 59), .ref (ad 60), .ref (ad 61), .ref (ad 62), .int (xI M.parts), .ref (ad 63), .ref (ad 64), .ref (ad 65), .ref (ad 66), .ref (ad 67), .long M.h]) from hM.1) rfl 9 (by decide) u_fl_RX5_34 rfl dX5_addPart_4 ?_
      refine lv_iload_n hx hb dX5_addPart_7 rfl (lv_at hl 1 rfl) ?_
      refine x_ild hx hb hK hP (i := 62) (by omega) hM.2.2.2.2.2.2.2.2.2.1 (x := M.partMany pk) (by omega) (rfl) dX5_addPart_8 ?_
      refine x_to ((c9 : Int)) (hpc) ?_
      refine x_icmp_ge (tgt := 50) hx hb dX5_addPart_9 (by decide) (by omega) (fun c_9 => ?_) (fun c_9 => ?_)
      · have hkc : K = c9 := by omega
        exact xe_v hx hb hrt hlocks hP hS (⟨F, hF.1, fun i hi => hF.2 i (by omega), by rw [← hkc]; exact hM, ho⟩) dX5_addPart_50
      · refine lv_aload_n hx hb dX5_addPart_12 rfl (lv_at hl 0 rfl) ?_
        refine x_get (T := TX5) (N := 17) hx hb hts uX5 hown hK hP (i := 53) (by omega) (show ew2 53 = .inr (5, [.ref (ad 54), .ref (ad 55), .ref (ad 56), .ref (ad 57), .ref (ad 58), .int (xI ((m9 : Int) + (K : Int))), .ref (ad 59), .ref (ad 60), .ref (ad 61), .ref (ad 62), .int (xI M.parts), .ref (ad 63), .ref (ad 64), .ref (ad 65), .ref (ad 66), .ref (ad 67), .long M.h]) from hM.1) rfl 4 (by decide) u_fl_RX5_22 rfl dX5_addPart_13 ?_
        refine lv_aload_n hx hb dX5_addPart_16 rfl (lv_at hl 0 rfl) ?_
        refine x_get (T := TX5) (N := 17) hx hb hts uX5 hown hK hP (i := 53) (by omega) (show ew2 53 = .inr (5, [.ref (ad 54), .ref (ad 55), .ref (ad 56), .ref (ad 57), .ref (ad 58), .int (xI ((m9 : Int) + (K : Int))), .ref (ad 59), .ref (ad 60), .ref (ad 61), .ref (ad 62), .int (xI M.parts), .ref (ad 63), .ref (ad 64), .ref (ad 65), .ref (ad 66), .ref (ad 67), .long M.h]) from hM.1) rfl 5 (by decide) u_fl_RX5_62 rfl dX5_addPart_17 ?_
        refine lv_aload_n hx hb dX5_addPart_20 rfl (lv_at hl 0 rfl) ?_
        refine x_get (T := TX5) (N := 17) hx hb hts uX5 hown hK hP (i := 53) (by omega) (show ew2 53 = .inr (5, [.ref (ad 54), .ref (ad 55), .ref (ad 56), .ref (ad 57), .ref (ad 58), .int (xI ((m9 : Int) + (K : Int))), .ref (ad 59), .ref (ad 60), .ref (ad 61), .ref (ad 62), .int (xI M.parts), .ref (ad 63), .ref (ad 64), .ref (ad 65), .ref (ad 66), .ref (ad 67), .long M.h]) from hM.1) rfl 7 (by decide) u_fl_RX5_28 rfl dX5_addPart_21 ?_
        refine lv_aload_n hx hb dX5_addPart_24 rfl (lv_at hl 0 rfl) ?_
        refine x_get (T := TX5) (N := 17) hx hb hts uX5 hown hK hP (i := 53) (by omega) (show ew2 53 = .inr (5, [.ref (ad 54), .ref (ad 55), .ref (ad 56), .ref (ad 57), .ref (ad 58), .int (xI ((m9 : Int) + (K : Int))), .ref (ad 59), .ref (ad 60), .ref (ad 61), .ref (ad 62), .int (xI M.parts), .ref (ad 63), .ref (ad 64), .ref (ad 65), .ref (ad 66), .ref (ad 67), .long M.h]) from hM.1) rfl 8 (by decide) u_fl_RX5_31 rfl dX5_addPart_25 ?_
        refine lv_iload_n hx hb dX5_addPart_28 rfl (lv_at hl 1 rfl) ?_
        refine x_ild hx hb hK hP (i := 61) (by omega) hM.2.2.2.2.2.2.2.2.1 (x := M.partFrom pk) (by omega) (rfl) dX5_addPart_29 ?_
        refine x_to ((a : Int)) (hpa) ?_
        refine lv_iload_n hx hb dX5_addPart_30 rfl (lv_at hl 2 rfl) ?_
        refine x_iadd hx hb dX5_addPart_31 ?_
        refine x_ild hx hb hK hP (i := 60) (by omega) hM.2.2.2.2.2.2.2.1 (x := M.partText (a + K)) (by omega) (congrArg (fun q => xI (M.partText q)) (show Int.toNat ((a : Int) + (K : Int)) = a + K by omega)) dX5_addPart_32 ?_
        refine x_ist hx hb hK hP hD hS (i := 58) (by omega) hM.2.2.2.2.2.1 (by omega) dX5_addPart_33 (fun H locs hP hS => ?_)
        obtain ⟨en1, he1⟩ : ∃ z, z = va_up ew2 58 (.inl (cA 0, 220, .inl (upd (fun k => xI (F k)) (m9 + K) (xI (M.partText (a + K)))))) := ⟨_, rfl⟩
        have hP : va_P D vwCl (xw n ad en1) H := by rw [he1, show m9 + K = (Int.toNat ((m9 : Int) + (K : Int))) by omega]; exact hP
        have hM : MW cA ad en1 (mO M.built M.builtMany M.told M.toldMany (sp_up F (m9 + K) (M.partText (a + K))) ((m9 : Int) + (K : Int)) M.figures M.partText M.partFrom M.partMany M.parts M.cut M.cutMany M.isCut M.cutGives M.cutAt M.h) := by rw [he1]; exact hM.u_row (m9 + K) (M.partText (a + K))
        have ho : xO 53 68 en en1 := by rw [he1]; exact ho.up (by omega) (by omega)
        refine lv_aload_n hx hb dX5_addPart_34 rfl (lv_at hl 0 rfl) ?_
        refine lv_dup hx hb dX5_addPart_35 rfl ?_
        refine x_get (T := TX5) (N := 17) hx hb hts uX5 hown hK hP (i := 53) (by omega) (show en1 53 = .inr (5, [.ref (ad 54), .ref (ad 55), .ref (ad 56), .ref (ad 57), .ref (ad 58), .int (xI ((m9 : Int) + (K : Int))), .ref (ad 59), .ref (ad 60), .ref (ad 61), .ref (ad 62), .int (xI M.parts), .ref (ad 63), .ref (ad 64), .ref (ad 65), .ref (ad 66), .ref (ad 67), .long M.h]) from hM.1) rfl 5 (by decide) u_fl_RX5_62 rfl dX5_addPart_36 ?_
        refine x_iconst hx hb dX5_addPart_39 ?_
        refine x_iadd hx hb dX5_addPart_40 ?_
        refine x_put (T := TX5) (N := 17) (ty := .int) hx hb hts uX5 tyX5 tyX5_ok nmX5 hown hK hP hD hS (i := 53) (by omega) (show en1 53 = .inr (5, [.ref (ad 54), .ref (ad 55), .ref (ad 56), .ref (ad 57), .ref (ad 58), .int (xI ((m9 : Int) + (K : Int))), .ref (ad 59), .ref (ad 60), .ref (ad 61), .ref (ad 62), .int (xI M.parts), .ref (ad 63), .ref (ad 64), .ref (ad 65), .ref (ad 66), .ref (ad 67), .long M.h]) from hM.1) rfl 5 (by decide) u_fl_RX5_62 rfl (by decide +kernel) rfl rfl (by show 5 < 17; decide) dX5_addPart_41 (fun H locs hP hS => ?_)
        obtain ⟨en2, he2⟩ : ∃ z, z = va_up en1 53 (.inr (5, [.ref (ad 54), .ref (ad 55), .ref (ad 56), .ref (ad 57), .ref (ad 58), .int (xI (((m9 : Int) + (K : Int)) + 1)), .ref (ad 59), .ref (ad 60), .ref (ad 61), .ref (ad 62), .int (xI M.parts), .ref (ad 63), .ref (ad 64), .ref (ad 65), .ref (ad 66), .ref (ad 67), .long M.h])) := ⟨_, rfl⟩
        have hP : va_P D vwCl (xw n ad en2) H := by rw [he2]; exact hP
        have hM : MW cA ad en2 (mO M.built M.builtMany M.told M.toldMany (sp_up F (m9 + K) (M.partText (a + K))) (((m9 : Int) + (K : Int)) + 1) M.figures M.partText M.partFrom M.partMany M.parts M.cut M.cutMany M.isCut M.cutGives M.cutAt M.h) := by rw [he2]; exact hM.s_rowMany (((m9 : Int) + (K : Int)) + 1)
        have ho : xO 53 68 en en2 := by rw [he2]; exact ho.up (by omega) (by omega)
        refine x_iinc (lv' := [(2, .int (xI ((K : Int) + 1))), (0, .ref (ad 53)), (1, .int (xI (pk : Int)))]) (k := 2) hx hb dX5_addPart_44 hl rfl (by decide) rfl (fun ls hl => ?_)
        refine lv_goto (tgt := 2) hx hb dX5_addPart_47 (by decide) ?_
        exact ih (K + 1) (sp_up F (m9 + K) (M.partText (a + K))) en2 _ _ (by omega) (⟨fun j hj => by rw [sp_up_n _ _ (by omega)]; exact hF.1 j hj, fun i hi => by
      by_cases q : i = K
      · rw [q, sp_up_s]
      · rw [sp_up_n _ _ (by omega)]; exact hF.2 i (by omega)⟩) (by omega) (by rw [show ((m9 : Int) + ((K + 1 : Nat) : Int)) = (m9 : Int) + (K : Int) + 1 by omega]; exact hM) ho hP hS ls (lv_sub hl [1, 2, 0] rfl)
  exact L2 _ 0 M.row en _ _ (Nat.zero_le _) (⟨fun j hj => rfl, fun i hi => absurd hi (Nat.not_lt_zero _)⟩) (Nat.lt_succ_self _) (by rw [show ((m9 : Int) + ((0 : Nat) : Int)) = M.rowMany by omega]; exact hM) ho hP hS ls (lv_sub hl [1, 2, 0] rfl)

set_option maxRecDepth 20000 in
theorem c_X5_isSeparatorAt (l : Launch) (D : va_G) (cA : Nat → ClassId) (n : Nat) (ad : Nat → Nat) (en : Nat → va_E) (hn : 68 ≤ n) {M : MO} (hM : MW cA ad en M) (c9 : Nat) (hc2 : c9 < 2) {m9 : Nat} {f : Nat → Int} {S9 : Int → Prop} (hcf : ∀ k : Nat, k < m9 → M.cut (200 * c9 + k) = f k) (hfb : ∀ k : Nat, k < m9 → 0 ≤ f k ∧ f k ≤ 255) (hcs : ∀ k : Nat, k < 256 → M.isCut (256 * c9 + k) = xd (S9 (k : Int))) (hm2 : m9 ≤ 200) (z1 : Int) (h1 : 0 ≤ z1 ∧ z1 < (m9 : Int)) : Met l yX5_isSeparatorAt (Cond.code yX5_isSeparatorAt cX5_isSeparatorAt 3 (some .boolean) :: xU) (xrm 0 0) (va_Pc [.ref (ad 53), .int (xI (c9 : Int)), .int (xI z1)] (xB D cA n ad en)) (vp_Si (fun z => z = xb (S9 (f (Int.toNat z1))))) 0 0 (fun _ => False) := by
  refine xmet (by decide) (Nat.le_of_ble_eq_true rfl) (fun p e s mm args below meth c ls hx hb hrt hml hown hts hlocks hname hB hl => ?_)
  obtain ⟨hP, hK, hN⟩ := hB
  have hl : lv_has ls 3 [(0, .ref (ad 53)), (1, .int (xI (c9 : Int))), (2, .int (xI z1))] := hl
  have hfx := hfb (Int.toNat z1) (by omega)
  have hxd := xd_01 (S9 (f (Int.toNat z1)))
  refine lv_aload_n hx hb dX5_isSeparatorAt_0 rfl (lv_at hl 0 rfl) ?_
  refine x_get (T := TX5) (N := 17) hx hb hts uX5 hown hK hP (i := 53) (by omega) hM.1 rfl 13 (by decide) u_fl_RX5_43 rfl dX5_isSeparatorAt_1 ?_
  refine x_sipush hx hb dX5_isSeparatorAt_4 (by decide +kernel) ?_
  refine lv_iload_n hx hb dX5_isSeparatorAt_7 rfl (lv_at hl 1 rfl) ?_
  refine x_imul hx hb dX5_isSeparatorAt_8 ?_
  refine lv_aload_n hx hb dX5_isSeparatorAt_9 rfl (lv_at hl 0 rfl) ?_
  refine x_get (T := TX5) (N := 17) hx hb hts uX5 hown hK hP (i := 53) (by omega) hM.1 rfl 11 (by decide) u_fl_RX5_37 rfl dX5_isSeparatorAt_10 ?_
  refine x_sipush hx hb dX5_isSeparatorAt_13 (by decide +kernel) ?_
  refine lv_iload_n hx hb dX5_isSeparatorAt_16 rfl (lv_at hl 1 rfl) ?_
  refine x_imul hx hb dX5_isSeparatorAt_17 ?_
  refine lv_iload_n hx hb dX5_isSeparatorAt_18 rfl (lv_at hl 2 rfl) ?_
  refine x_iadd hx hb dX5_isSeparatorAt_19 ?_
  refine x_ild hx hb hK hP (i := 63) (by omega) hM.2.2.2.2.2.2.2.2.2.2.1 (x := M.cut (Int.toNat ((200 * (c9 : Int)) + z1))) (by omega) (rfl) dX5_isSeparatorAt_20 ?_
  refine x_to (f (Int.toNat z1)) (by rw [show Int.toNat (200 * (c9 : Int) + z1) = 200 * c9 + Int.toNat z1 by omega]; exact hcf _ (by omega)) ?_
  refine x_iadd hx hb dX5_isSeparatorAt_21 ?_
  refine x_ild hx hb hK hP (i := 65) (by omega) hM.2.2.2.2.2.2.2.2.2.2.2.2.1 (x := M.isCut (Int.toNat ((256 * (c9 : Int)) + (f (Int.toNat z1))))) (by omega) (rfl) dX5_isSeparatorAt_22 ?_
  refine x_to (xd (S9 (f (Int.toNat z1)))) (by rw [show Int.toNat (256 * (c9 : Int) + f (Int.toNat z1)) = 256 * c9 + Int.toNat (f (Int.toNat z1)) by omega, hcs _ (by omega), show ((Int.toNat (f (Int.toNat z1)) : Nat) : Int) = f (Int.toNat z1) by omega]) ?_
  refine x_iconst hx hb dX5_isSeparatorAt_23 ?_
  refine x_icmp_ne (tgt := 31) hx hb dX5_isSeparatorAt_24 (by decide) (by omega) (fun c_24 => ?_) (fun c_24 => ?_)
  · refine x_iconst hx hb dX5_isSeparatorAt_31 ?_
    exact xr_z hx hb hrt hlocks (xb_0 (fun q => c_24 (xd_t q))) dX5_isSeparatorAt_32
  · refine x_iconst hx hb dX5_isSeparatorAt_27 ?_
    refine lv_goto (tgt := 32) hx hb dX5_isSeparatorAt_28 (by decide) ?_
    exact xr_z hx hb hrt hlocks (xb_1 (xd_1.mp c_24)) dX5_isSeparatorAt_32

set_option maxRecDepth 20000 in
theorem c_X5_beginOf (l : Launch) (D : va_G) (cA : Nat → ClassId) (n : Nat) (ad : Nat → Nat) (en : Nat → va_E) (hn : 68 ≤ n) {M : MO} (hM : MW cA ad en M) (c9 : Nat) (hc2 : c9 < 2) {m9 : Nat} {f : Nat → Int} {S9 : Int → Prop} (hcf : ∀ k : Nat, k < m9 → M.cut (200 * c9 + k) = f k) (hfb : ∀ k : Nat, k < m9 → 0 ≤ f k ∧ f k ≤ 255) (hcs : ∀ k : Nat, k < 256 → M.isCut (256 * c9 + k) = xd (S9 (k : Int))) (hm2 : m9 ≤ 200) {G9 : Prop} (hcm : M.cutMany c9 = (m9 : Int)) (hcg : M.cutGives c9 = xd G9) (z1 : Int) (h1 : 0 ≤ z1 ∧ z1 ≤ (m9 : Int)) : Met l yX5_beginOf (Cond.code yX5_beginOf cX5_beginOf 4 (some .int) :: xU) (xrm 1 22) (va_Pc [.ref (ad 53), .int (xI (c9 : Int)), .int (xI z1)] (xB D cA n ad en)) (vp_Si (fun z => z = xI (sp_ts G9 S9 f (m9 : Int) z1))) 0 0 (fun _ => False) := by
  refine xmet (by decide) (Nat.le_of_ble_eq_true rfl) (fun p e s mm args below meth c ls hx hb hrt hml hown hts hlocks hname hB hl => ?_)
  obtain ⟨hP, hK, hN⟩ := hB
  have hl : lv_has ls 4 [(0, .ref (ad 53)), (1, .int (xI (c9 : Int))), (2, .int (xI z1))] := hl
  have hxg := xd_01 G9
  refine lv_iload_n hx hb dX5_beginOf_0 rfl (lv_at hl 2 rfl) ?_
  refine lv_istore_n (lv' := [(3, .int (xI z1)), (0, .ref (ad 53)), (1, .int (xI (c9 : Int))), (2, .int (xI z1))]) hx hb dX5_beginOf_1 rfl hl (by decide) rfl (fun ls hl => ?_)
  have L2 : ∀ (nn : Nat) (a : Int), (z1 ≤ a ∧ a ≤ (m9 : Int)) → (sp_while (fun q : Int => ¬ G9 ∧ S9 (f q.toNat)) a (m9 : Int) = sp_while (fun q : Int => ¬ G9 ∧ S9 (f q.toNat)) z1 (m9 : Int)) → (((m9 : Int) - a).toNat) < nn → ∀ ls : Array Slot, lv_has ls 4 [(0, .ref (ad 53)), (1, .int (xI (c9 : Int))), (3, .int (xI a))] → W p l e (xrm 1 22) s mm args below meth c s.heap [] 0 0 (MQ below (vp_Si (fun z => z = xI (sp_ts G9 S9 f (m9 : Int) z1))) args s 0 0 (fun _ => False)) (F0 mm 2 ls []) := by
    intro nn
    induction nn with
    | zero =>
      intro a  ha hF hmm  ls hl
      exact absurd hmm (Nat.not_lt_zero _)
    | succ nn ih =>
      intro a  ha hF hmm  ls hl
      refine lv_aload_n hx hb dX5_beginOf_2 rfl (lv_at hl 0 rfl) ?_
      refine x_get (T := TX5) (N := 17) hx hb hts uX5 hown hK hP (i := 53) (by omega) hM.1 rfl 14 (by decide) u_fl_RX5_46 rfl dX5_beginOf_3 ?_
      refine lv_iload_n hx hb dX5_beginOf_6 rfl (lv_at hl 1 rfl) ?_
      refine x_ild hx hb hK hP (i := 66) (by omega) hM.2.2.2.2.2.2.2.2.2.2.2.2.2.1 (x := M.cutGives c9) (by omega) (rfl) dX5_beginOf_7 ?_
      refine x_to (xd G9) (hcg) ?_
      refine x_if_ne (tgt := 36) hx hb dX5_beginOf_8 (by decide) (by omega) (fun c_8 => ?_) (fun c_8 => ?_)
      · refine lv_iload_n hx hb dX5_beginOf_36 rfl (lv_at hl 2 rfl) ?_
        exact xr_i hx hb hrt hlocks (by unfold sp_ts; rw [← hF, sp_while_n (P := (fun q : Int => ¬ G9 ∧ S9 (f q.toNat))) (fun _ q => c_8 (xd_f q.1)) (by omega)]) dX5_beginOf_37
      · refine lv_iload_n hx hb dX5_beginOf_11 rfl (lv_at hl 2 rfl) ?_
        refine lv_aload_n hx hb dX5_beginOf_12 rfl (lv_at hl 0 rfl) ?_
        refine x_get (T := TX5) (N := 17) hx hb hts uX5 hown hK hP (i := 53) (by omega) hM.1 rfl 12 (by decide) u_fl_RX5_40 rfl dX5_beginOf_13 ?_
        refine lv_iload_n hx hb dX5_beginOf_16 rfl (lv_at hl 1 rfl) ?_
        refine x_ild hx hb hK hP (i := 64) (by omega) hM.2.2.2.2.2.2.2.2.2.2.2.1 (x := M.cutMany c9) (by omega) (rfl) dX5_beginOf_17 ?_
        refine x_to ((m9 : Int)) (hcm) ?_
        refine x_icmp_ge (tgt := 36) hx hb dX5_beginOf_18 (by decide) (by omega) (fun c_18 => ?_) (fun c_18 => ?_)
        · refine lv_iload_n hx hb dX5_beginOf_36 rfl (lv_at hl 2 rfl) ?_
          exact xr_i hx hb hrt hlocks (by unfold sp_ts; rw [← hF, sp_while_n (P := (fun q : Int => ¬ G9 ∧ S9 (f q.toNat))) (fun q => absurd q (by omega)) (by omega)]) dX5_beginOf_37
        · refine lv_aload_n hx hb dX5_beginOf_21 rfl (lv_at hl 0 rfl) ?_
          refine lv_iload_n hx hb dX5_beginOf_22 rfl (lv_at hl 1 rfl) ?_
          refine lv_iload_n hx hb dX5_beginOf_23 rfl (lv_at hl 2 rfl) ?_
          refine xv_i (i := 53) (As := [.int (xI (c9 : Int)), .int (xI a)]) (rest := []) ⟨hx, hb, hml, hown, hts⟩ hl.1 (c_X5_isSeparatorAt l D cA n ad en hn hM c9 hc2 hcf hfb hcs hm2 a (by omega)) k_X5_isSeparatorAt u_ml_RX5_160 hK hN hP (by omega) hM.1 rfl rfl rfl rfl (Nat.le_of_ble_eq_true rfl) ⟨Nat.le_of_ble_eq_true rfl, Nat.le_of_ble_eq_true rfl⟩ ⟨Nat.le_of_ble_eq_true rfl, Nat.le_of_ble_eq_true rfl⟩ dX5_beginOf_24 ?_
          refine x_ifb_eq (tgt := 36) hx hb dX5_beginOf_27 (by decide)  (fun c_27 => ?_) (fun c_27 => ?_)
          · refine lv_iload_n hx hb dX5_beginOf_36 rfl (lv_at hl 2 rfl) ?_
            exact xr_i hx hb hrt hlocks (by unfold sp_ts; rw [← hF, sp_while_n (P := (fun q : Int => ¬ G9 ∧ S9 (f q.toNat))) (fun _ q => c_27 q.2) (by omega)]) dX5_beginOf_37
          · refine x_iinc (lv' := [(3, .int (xI (a + 1))), (0, .ref (ad 53)), (1, .int (xI (c9 : Int)))]) (k := 2) hx hb dX5_beginOf_30 hl rfl (by decide) rfl (fun ls hl => ?_)
            refine lv_goto (tgt := 2) hx hb dX5_beginOf_33 (by decide) ?_
            exact ih (a + 1) (by omega) ((sp_while_t (P := (fun q : Int => ¬ G9 ∧ S9 (f q.toNat))) (by omega) ⟨xd_0.mp c_8, c_27⟩).symm.trans hF) (by omega)  ls (lv_sub hl [1, 2, 0] rfl)
  exact L2 _ _ (by omega) rfl (Nat.lt_succ_self _)  ls (lv_sub hl [1, 2, 0] rfl)

set_option maxRecDepth 20000 in
theorem c_X5_behindOf (l : Launch) (D : va_G) (cA : Nat → ClassId) (n : Nat) (ad : Nat → Nat) (en : Nat → va_E) (hn : 68 ≤ n) {M : MO} (hM : MW cA ad en M) (c9 : Nat) (hc2 : c9 < 2) {m9 : Nat} {f : Nat → Int} {S9 : Int → Prop} (hcf : ∀ k : Nat, k < m9 → M.cut (200 * c9 + k) = f k) (hfb : ∀ k : Nat, k < m9 → 0 ≤ f k ∧ f k ≤ 255) (hcs : ∀ k : Nat, k < 256 → M.isCut (256 * c9 + k) = xd (S9 (k : Int))) (hm2 : m9 ≤ 200) {G9 : Prop} (hcm : M.cutMany c9 = (m9 : Int)) (hcg : M.cutGives c9 = xd G9) (z1 : Int) (h1 : 0 ≤ z1 ∧ z1 < (m9 : Int)) : Met l yX5_behindOf (Cond.code yX5_behindOf cX5_behindOf 4 (some .int) :: xU) (xrm 1 22) (va_Pc [.ref (ad 53), .int (xI (c9 : Int)), .int (xI z1)] (xB D cA n ad en)) (vp_Si (fun z => z = xI (sp_te S9 f (m9 : Int) z1))) 0 0 (fun _ => False) := by
  refine xmet (by decide) (Nat.le_of_ble_eq_true rfl) (fun p e s mm args below meth c ls hx hb hrt hml hown hts hlocks hname hB hl => ?_)
  obtain ⟨hP, hK, hN⟩ := hB
  have hl : lv_has ls 4 [(0, .ref (ad 53)), (1, .int (xI (c9 : Int))), (2, .int (xI z1))] := hl
  refine lv_iload_n hx hb dX5_behindOf_0 rfl (lv_at hl 2 rfl) ?_
  refine lv_istore_n (lv' := [(3, .int (xI z1)), (0, .ref (ad 53)), (1, .int (xI (c9 : Int))), (2, .int (xI z1))]) hx hb dX5_behindOf_1 rfl hl (by decide) rfl (fun ls hl => ?_)
  have L2 : ∀ (nn : Nat) (a : Int), (z1 ≤ a ∧ a ≤ (m9 : Int)) → ((a = z1 ∨ ¬ S9 (f (Int.toNat z1))) ∧ (¬ a = z1 → sp_while (fun q : Int => ¬ S9 (f q.toNat)) (z1 + 1) (m9 : Int) = sp_while (fun q : Int => ¬ S9 (f q.toNat)) a (m9 : Int))) → (((m9 : Int) - a).toNat) < nn → ∀ ls : Array Slot, lv_has ls 4 [(0, .ref (ad 53)), (1, .int (xI (c9 : Int))), (2, .int (xI z1)), (3, .int (xI a))] → W p l e (xrm 1 22) s mm args below meth c s.heap [] 0 0 (MQ below (vp_Si (fun z => z = xI (sp_te S9 f (m9 : Int) z1))) args s 0 0 (fun _ => False)) (F0 mm 2 ls []) := by
    intro nn
    induction nn with
    | zero =>
      intro a  ha hF hmm  ls hl
      exact absurd hmm (Nat.not_lt_zero _)
    | succ nn ih =>
      intro a  ha hF hmm  ls hl
      refine lv_iload_n hx hb dX5_behindOf_2 rfl (lv_at hl 3 rfl) ?_
      refine lv_aload_n hx hb dX5_behindOf_3 rfl (lv_at hl 0 rfl) ?_
      refine x_get (T := TX5) (N := 17) hx hb hts uX5 hown hK hP (i := 53) (by omega) hM.1 rfl 12 (by decide) u_fl_RX5_40 rfl dX5_behindOf_4 ?_
      refine lv_iload_n hx hb dX5_behindOf_7 rfl (lv_at hl 1 rfl) ?_
      refine x_ild hx hb hK hP (i := 64) (by omega) hM.2.2.2.2.2.2.2.2.2.2.2.1 (x := M.cutMany c9) (by omega) (rfl) dX5_behindOf_8 ?_
      refine x_to ((m9 : Int)) (hcm) ?_
      refine x_icmp_ge (tgt := 27) hx hb dX5_behindOf_9 (by decide) (by omega) (fun c_9 => ?_) (fun c_9 => ?_)
      · refine lv_iload_n hx hb dX5_behindOf_27 rfl (lv_at hl 3 rfl) ?_
        refine lv_iload_n hx hb dX5_behindOf_28 rfl (lv_at hl 2 rfl) ?_
        refine x_icmp_ne (tgt := 38) hx hb dX5_behindOf_29 (by decide) (by omega) (fun c_29 => ?_) (fun c_29 => ?_)
        · refine lv_iload_n hx hb dX5_behindOf_38 rfl (lv_at hl 3 rfl) ?_
          exact xr_i hx hb hrt hlocks (congrArg xI (sp_te_of (fun q => absurd q (hF.1.resolve_left c_29)) (fun q => (hF.2 c_29).trans (sp_while_n (P := (fun q : Int => ¬ S9 (f q.toNat))) (fun w => absurd w (by omega)) (by omega))))) dX5_behindOf_39
        · refine lv_iload_n hx hb dX5_behindOf_32 rfl (lv_at hl 2 rfl) ?_
          refine x_iconst hx hb dX5_behindOf_33 ?_
          refine x_iadd hx hb dX5_behindOf_34 ?_
          refine lv_goto (tgt := 39) hx hb dX5_behindOf_35 (by decide) ?_
          exact xr_i hx hb hrt hlocks (congrArg xI (sp_te_of (fun q => rfl) (fun q => absurd c_9 (by omega)))) dX5_behindOf_39
      · refine lv_aload_n hx hb dX5_behindOf_12 rfl (lv_at hl 0 rfl) ?_
        refine lv_iload_n hx hb dX5_behindOf_13 rfl (lv_at hl 1 rfl) ?_
        refine lv_iload_n hx hb dX5_behindOf_14 rfl (lv_at hl 3 rfl) ?_
        refine xv_i (i := 53) (As := [.int (xI (c9 : Int)), .int (xI a)]) (rest := []) ⟨hx, hb, hml, hown, hts⟩ hl.1 (c_X5_isSeparatorAt l D cA n ad en hn hM c9 hc2 hcf hfb hcs hm2 a (by omega)) k_X5_isSeparatorAt u_ml_RX5_160 hK hN hP (by omega) hM.1 rfl rfl rfl rfl (Nat.le_of_ble_eq_true rfl) ⟨Nat.le_of_ble_eq_true rfl, Nat.le_of_ble_eq_true rfl⟩ ⟨Nat.le_of_ble_eq_true rfl, Nat.le_of_ble_eq_true rfl⟩ dX5_behindOf_15 ?_
        refine x_ifb_ne (tgt := 27) hx hb dX5_behindOf_18 (by decide)  (fun c_18 => ?_) (fun c_18 => ?_)
        · refine lv_iload_n hx hb dX5_behindOf_27 rfl (lv_at hl 3 rfl) ?_
          refine lv_iload_n hx hb dX5_behindOf_28 rfl (lv_at hl 2 rfl) ?_
          refine x_icmp_ne (tgt := 38) hx hb dX5_behindOf_29 (by decide) (by omega) (fun c_29 => ?_) (fun c_29 => ?_)
          · refine lv_iload_n hx hb dX5_behindOf_38 rfl (lv_at hl 3 rfl) ?_
            exact xr_i hx hb hrt hlocks (congrArg xI (sp_te_of (fun q => absurd q (hF.1.resolve_left c_29)) (fun q => (hF.2 c_29).trans (sp_while_n (P := (fun q : Int => ¬ S9 (f q.toNat))) (fun _ w => w c_18) (by omega))))) dX5_behindOf_39
          · refine lv_iload_n hx hb dX5_behindOf_32 rfl (lv_at hl 2 rfl) ?_
            refine x_iconst hx hb dX5_behindOf_33 ?_
            refine x_iadd hx hb dX5_behindOf_34 ?_
            refine lv_goto (tgt := 39) hx hb dX5_behindOf_35 (by decide) ?_
            exact xr_i hx hb hrt hlocks (congrArg xI (sp_te_of (fun q => rfl) (fun q => absurd (by rw [← c_29]; exact c_18) q))) dX5_behindOf_39
        · refine x_iinc (lv' := [(3, .int (xI (a + 1))), (0, .ref (ad 53)), (1, .int (xI (c9 : Int))), (2, .int (xI z1))]) (k := 3) hx hb dX5_behindOf_21 hl rfl (by decide) rfl (fun ls hl => ?_)
          refine lv_goto (tgt := 2) hx hb dX5_behindOf_24 (by decide) ?_
          exact ih (a + 1) (by omega) (⟨Or.inr (by
      rcases hF.1 with w | w
      · rw [← w]; exact c_18
      · exact w), fun _ => by
      by_cases w : a = z1
      · rw [w]
      · exact (hF.2 w).trans (sp_while_t (P := (fun q : Int => ¬ S9 (f q.toNat))) (by omega) c_18)⟩) (by omega)  ls (lv_sub hl [1, 2, 3, 0] rfl)
  exact L2 _ _ (by omega) (⟨Or.inl rfl, fun q => absurd rfl q⟩) (Nat.lt_succ_self _)  ls (lv_sub hl [1, 2, 3, 0] rfl)

set_option maxRecDepth 20000 in
theorem c_X5_leftOf (l : Launch) (D : va_G) (cA : Nat → ClassId) (n : Nat) (ad : Nat → Nat) (en : Nat → va_E) (hn : 68 ≤ n) {M : MO} (hM : MW cA ad en M) (c9 : Nat) (hc2 : c9 < 2) {m9 : Nat} {f : Nat → Int} {S9 : Int → Prop} (hcf : ∀ k : Nat, k < m9 → M.cut (200 * c9 + k) = f k) (hfb : ∀ k : Nat, k < m9 → 0 ≤ f k ∧ f k ≤ 255) (hcs : ∀ k : Nat, k < 256 → M.isCut (256 * c9 + k) = xd (S9 (k : Int))) (hm2 : m9 ≤ 200) {G9 : Prop} (hcm : M.cutMany c9 = (m9 : Int)) (hcg : M.cutGives c9 = xd G9) (pl : Nat) (hca : M.cutAt c9 = (pl : Int)) (hpl : pl ≤ m9) : Met l yX5_leftOf (Cond.code yX5_leftOf cX5_leftOf 4 (some .int) :: xU) (xrm 2 45) (va_Pc [.ref (ad 53), .int (xI (c9 : Int))] (xB D cA n ad en)) (vp_Si (fun z => z = xI (sp_left G9 S9 f (m9 : Int) (pl : Int)))) 0 0 (fun _ => False) := by
  refine xmet (by decide) (Nat.le_of_ble_eq_true rfl) (fun p e s mm args below meth c ls hx hb hrt hml hown hts hlocks hname hB hl => ?_)
  obtain ⟨hP, hK, hN⟩ := hB
  have hl : lv_has ls 4 [(0, .ref (ad 53)), (1, .int (xI (c9 : Int)))] := hl
  refine x_iconst hx hb dX5_leftOf_0 ?_
  refine lv_istore_n (lv' := [(2, .int (xI 0)), (0, .ref (ad 53)), (1, .int (xI (c9 : Int)))]) hx hb dX5_leftOf_1 rfl hl (by decide) rfl (fun ls hl => ?_)
  refine lv_aload_n hx hb dX5_leftOf_2 rfl (lv_at hl 1 rfl) ?_
  refine lv_iload_n hx hb dX5_leftOf_3 rfl (lv_at hl 2 rfl) ?_
  refine lv_aload_n hx hb dX5_leftOf_4 rfl (lv_at hl 1 rfl) ?_
  refine x_get (T := TX5) (N := 17) hx hb hts uX5 hown hK hP (i := 53) (by omega) hM.1 rfl 15 (by decide) u_fl_RX5_49 rfl dX5_leftOf_5 ?_
  refine lv_iload_n hx hb dX5_leftOf_8 rfl (lv_at hl 2 rfl) ?_
  refine x_ild hx hb hK hP (i := 67) (by omega) hM.2.2.2.2.2.2.2.2.2.2.2.2.2.2 (x := M.cutAt c9) (by omega) (rfl) dX5_leftOf_9 ?_
  refine x_to ((pl : Int)) (hca) ?_
  have hts10 := sp_ts_b (G := G9) (S := S9) (f := f) (m := (m9 : Int)) (a := (pl : Int)) (by omega)
  refine xv_i (i := 53) (As := [.int (xI (c9 : Int)), .int (xI (pl : Int))]) (rest := []) ⟨hx, hb, hml, hown, hts⟩ hl.1 (c_X5_beginOf l D cA n ad en hn hM c9 hc2 hcf hfb hcs hm2 hcm hcg (pl : Int) (by omega)) k_X5_beginOf u_ml_RX5_164 hK hN hP (by omega) hM.1 rfl rfl rfl rfl (Nat.le_of_ble_eq_true rfl) ⟨Nat.le_of_ble_eq_true rfl, Nat.le_of_ble_eq_true rfl⟩ ⟨Nat.le_of_ble_eq_true rfl, Nat.le_of_ble_eq_true rfl⟩ dX5_leftOf_10 ?_
  refine lv_istore_n (lv' := [(3, .int (xI (sp_ts G9 S9 f (m9 : Int) (pl : Int)))), (2, .int (xI 0)), (0, .ref (ad 53)), (1, .int (xI (c9 : Int)))]) hx hb dX5_leftOf_13 rfl hl (by decide) rfl (fun ls hl => ?_)
  have L14 : ∀ (nn : Nat) (a : Int) (q : Int), (0 ≤ q ∧ q ≤ a ∧ a ≤ (m9 : Int)) → (q + sp_tl G9 S9 f (m9 : Int) (201 - q).toNat a = sp_left G9 S9 f (m9 : Int) (pl : Int)) → (((m9 : Int) - a).toNat) < nn → ∀ ls : Array Slot, lv_has ls 4 [(0, .ref (ad 53)), (1, .int (xI (c9 : Int))), (2, .int (xI q)), (3, .int (xI a))] → W p l e (xrm 2 45) s mm args below meth c s.heap [] 0 0 (MQ below (vp_Si (fun z => z = xI (sp_left G9 S9 f (m9 : Int) (pl : Int)))) args s 0 0 (fun _ => False)) (F0 mm 14 ls []) := by
    intro nn
    induction nn with
    | zero =>
      intro a q  ha hF hmm  ls hl
      exact absurd hmm (Nat.not_lt_zero _)
    | succ nn ih =>
      intro a q  ha hF hmm  ls hl
      refine lv_iload_n hx hb dX5_leftOf_14 rfl (lv_at hl 3 rfl) ?_
      refine lv_aload_n hx hb dX5_leftOf_15 rfl (lv_at hl 0 rfl) ?_
      refine x_get (T := TX5) (N := 17) hx hb hts uX5 hown hK hP (i := 53) (by omega) hM.1 rfl 12 (by decide) u_fl_RX5_40 rfl dX5_leftOf_16 ?_
      refine lv_iload_n hx hb dX5_leftOf_19 rfl (lv_at hl 1 rfl) ?_
      refine x_ild hx hb hK hP (i := 64) (by omega) hM.2.2.2.2.2.2.2.2.2.2.2.1 (x := M.cutMany c9) (by omega) (rfl) dX5_leftOf_20 ?_
      refine x_to ((m9 : Int)) (hcm) ?_
      refine x_icmp_ge (tgt := 42) hx hb dX5_leftOf_21 (by decide) (by omega) (fun c_21 => ?_) (fun c_21 => ?_)
      · refine lv_iload_n hx hb dX5_leftOf_42 rfl (lv_at hl 2 rfl) ?_
        exact xr_i hx hb hrt hlocks (by rw [← hF, sp_tl_e _ (by omega), Int.add_zero]) dX5_leftOf_43
      · refine x_iinc (lv' := [(2, .int (xI (q + 1))), (0, .ref (ad 53)), (1, .int (xI (c9 : Int))), (3, .int (xI a))]) (k := 2) hx hb dX5_leftOf_24 hl rfl (by decide) rfl (fun ls hl => ?_)
        refine lv_aload_n hx hb dX5_leftOf_27 rfl (lv_at hl 1 rfl) ?_
        refine lv_iload_n hx hb dX5_leftOf_28 rfl (lv_at hl 2 rfl) ?_
        refine lv_aload_n hx hb dX5_leftOf_29 rfl (lv_at hl 1 rfl) ?_
        refine lv_iload_n hx hb dX5_leftOf_30 rfl (lv_at hl 2 rfl) ?_
        refine lv_iload_n hx hb dX5_leftOf_31 rfl (lv_at hl 3 rfl) ?_
        have hte32 := sp_te_b (S := S9) (f := f) (m := (m9 : Int)) (a := a) (by omega)
        refine xv_i (i := 53) (As := [.int (xI (c9 : Int)), .int (xI a)]) (rest := [.int (xI (c9 : Int)), .ref (ad 53)]) ⟨hx, hb, hml, hown, hts⟩ hl.1 (c_X5_behindOf l D cA n ad en hn hM c9 hc2 hcf hfb hcs hm2 hcm hcg a (by omega)) k_X5_behindOf u_ml_RX5_167 hK hN hP (by omega) hM.1 rfl rfl rfl rfl (Nat.le_of_ble_eq_true rfl) ⟨Nat.le_of_ble_eq_true rfl, Nat.le_of_ble_eq_true rfl⟩ ⟨Nat.le_of_ble_eq_true rfl, Nat.le_of_ble_eq_true rfl⟩ dX5_leftOf_32 ?_
        have hts35 := sp_ts_b (G := G9) (S := S9) (f := f) (m := (m9 : Int)) (a := (sp_te S9 f (m9 : Int) a)) (by omega)
        refine xv_i (i := 53) (As := [.int (xI (c9 : Int)), .int (xI (sp_te S9 f (m9 : Int) a))]) (rest := []) ⟨hx, hb, hml, hown, hts⟩ hl.1 (c_X5_beginOf l D cA n ad en hn hM c9 hc2 hcf hfb hcs hm2 hcm hcg (sp_te S9 f (m9 : Int) a) (by omega)) k_X5_beginOf u_ml_RX5_164 hK hN hP (by omega) hM.1 rfl rfl rfl rfl (Nat.le_of_ble_eq_true rfl) ⟨Nat.le_of_ble_eq_true rfl, Nat.le_of_ble_eq_true rfl⟩ ⟨Nat.le_of_ble_eq_true rfl, Nat.le_of_ble_eq_true rfl⟩ dX5_leftOf_35 ?_
        refine lv_istore_n (lv' := [(3, .int (xI (sp_ts G9 S9 f (m9 : Int) (sp_te S9 f (m9 : Int) a)))), (2, .int (xI (q + 1))), (0, .ref (ad 53)), (1, .int (xI (c9 : Int)))]) hx hb dX5_leftOf_38 rfl hl (by decide) rfl (fun ls hl => ?_)
        refine lv_goto (tgt := 14) hx hb dX5_leftOf_39 (by decide) ?_
        exact ih _ (q + 1) (by omega) ((sp_tl_t (by omega) (by omega)).symm.trans hF) (by omega)  ls (lv_sub hl [2, 3, 1, 0] rfl)
  exact L14 _ _ 0 (by omega) (Int.zero_add _) (Nat.lt_succ_self _)  ls (lv_sub hl [2, 3, 1, 0] rfl)

set_option maxRecDepth 20000 in
theorem c_X5_laySeparators (l : Launch) (D : va_G) (cA : Nat → ClassId) (n : Nat) (ad : Nat → Nat) (en : Nat → va_E) (sz : Nat) (hn : 68 ≤ n) {M : MO} (hM : MW cA ad en M) (c9 : Nat) (hc2 : c9 < 2) (t : Nat) (ht8 : t < 8) {r : xRow} (hz : M.toldMany t = (r.1 : Int)) (hr2 : r.1 ≤ 200) (hf2 : ∀ k : Nat, k < r.1 → M.told (200 * t + k) = r.2 k) (hrb : ∀ k : Nat, k < r.1 → 0 ≤ r.2 k ∧ r.2 k ≤ 255) : Met l yX5_laySeparators (Cond.code yX5_laySeparators cX5_laySeparators 4 none :: xU) (xrm 0 0) (va_Pc [.ref (ad 53), .int (xI (c9 : Int)), .int (xI (t : Int))] (xM D cA n ad en sz)) (va_Qv (fun u => ∃ G : Nat → Int, (∀ k : Nat, k < 256 → G (256 * c9 + k) = xd (sp_sep r.2 r.1 (k : Int))) ∧ (∀ j : Nat, j < 256 * c9 ∨ 256 * c9 + 256 ≤ j → G j = M.isCut j) ∧ MW cA ad u (mO M.built M.builtMany M.told M.toldMany M.row M.rowMany M.figures M.partText M.partFrom M.partMany M.parts M.cut M.cutMany G M.cutGives M.cutAt M.h) ∧ xO 53 68 en u) (xE D n ad) (xA n ad sz)) 0 0 (xA n ad sz) := by
  refine xmet (by decide) (Nat.le_of_ble_eq_true rfl) (fun p e s mm args below meth c ls hx hb hrt hml hown hts hlocks hname hB hl => ?_)
  obtain ⟨⟨hP, hK, hN⟩, hsz, hDt⟩ := hB
  have hD : xD (xA n ad sz) n ad := xD_self hDt sz
  have hA : ∀ q : Nat, s.heap.size ≤ q → xA n ad sz q := fun q h => Or.inr (by rw [← hsz]; exact h)
  have hS : va_S (xA n ad sz) s.heap s.heap [] := va_S.rf
  have hown : s.vm.findClass RX5 = some mm.cls := hown
  have hl : lv_has ls 4 [(0, .ref (ad 53)), (1, .int (xI (c9 : Int))), (2, .int (xI (t : Int)))] := hl
  have ho : xO 53 68 en en := xO.rf
  refine x_iconst hx hb dX5_laySeparators_0 ?_
  refine lv_istore_n (lv' := [(3, .int (xI 0)), (0, .ref (ad 53)), (1, .int (xI (c9 : Int))), (2, .int (xI (t : Int)))]) hx hb dX5_laySeparators_1 rfl hl (by decide) rfl (fun ls hl => ?_)
  have L2 : ∀ (nn : Nat) (K : Nat) (F : Nat → Int) (ew2 : Nat → va_E) (H : Heap) (locs : List Loc), (K ≤ 256) → ((∀ k : Nat, k < K → F (256 * c9 + k) = 0) ∧ ∀ j : Nat, j < 256 * c9 ∨ 256 * c9 + 256 ≤ j → F j = M.isCut j) → (256 - K) < nn → (MW cA ad ew2 (mO M.built M.builtMany M.told M.toldMany M.row M.rowMany M.figures M.partText M.partFrom M.partMany M.parts M.cut M.cutMany F M.cutGives M.cutAt M.h)) → (xO 53 68 en ew2) → va_P D vwCl (xw n ad ew2) H → va_S (xA n ad sz) s.heap H locs → ∀ ls : Array Slot, lv_has ls 4 [(0, .ref (ad 53)), (1, .int (xI (c9 : Int))), (2, .int (xI (t : Int))), (3, .int (xI (K : Int)))] → W p l e (xrm 0 0) s mm args below meth c H locs 0 0 (MQ below (va_Qv (fun u => ∃ G : Nat → Int, (∀ k : Nat, k < 256 → G (256 * c9 + k) = xd (sp_sep r.2 r.1 (k : Int))) ∧ (∀ j : Nat, j < 256 * c9 ∨ 256 * c9 + 256 ≤ j → G j = M.isCut j) ∧ MW cA ad u (mO M.built M.builtMany M.told M.toldMany M.row M.rowMany M.figures M.partText M.partFrom M.partMany M.parts M.cut M.cutMany G M.cutGives M.cutAt M.h) ∧ xO 53 68 en u) (xE D n ad) (xA n ad sz)) args s 0 0 (xA n ad sz)) (F0 mm 2 ls []) := by
    intro nn
    induction nn with
    | zero =>
      intro K F ew2 H locs hk8 hF hmm hM ho hP hS ls hl
      exact absurd hmm (Nat.not_lt_zero _)
    | succ nn ih =>
      intro K F ew2 H locs hk8 hF hmm hM ho hP hS ls hl
      refine lv_iload_n hx hb dX5_laySeparators_2 rfl (lv_at hl 3 rfl) ?_
      refine x_sipush hx hb dX5_laySeparators_3 (by decide +kernel) ?_
      refine x_icmp_ge (tgt := 28) hx hb dX5_laySeparators_6 (by decide) (by omega) (fun c_6 => ?_) (fun c_6 => ?_)
      · refine x_iconst hx hb dX5_laySeparators_28 ?_
        refine lv_istore_n (lv' := [(3, .int (xI 0)), (0, .ref (ad 53)), (1, .int (xI (c9 : Int))), (2, .int (xI (t : Int)))]) hx hb dX5_laySeparators_29 rfl hl (by decide) rfl (fun ls hl => ?_)
        have L30 : ∀ (nn : Nat) (K : Nat) (G : Nat → Int) (ew30 : Nat → va_E) (H : Heap) (locs : List Loc), (K ≤ r.1) → ((∀ k : Nat, k < 256 → G (256 * c9 + k) = xd (∃ i : Nat, i < K ∧ r.2 i = (k : Int))) ∧ ∀ j : Nat, j < 256 * c9 ∨ 256 * c9 + 256 ≤ j → G j = M.isCut j) → (r.1 - K) < nn → (MW cA ad ew30 (mO M.built M.builtMany M.told M.toldMany M.row M.rowMany M.figures M.partText M.partFrom M.partMany M.parts M.cut M.cutMany G M.cutGives M.cutAt M.h)) → (xO 53 68 en ew30) → va_P D vwCl (xw n ad ew30) H → va_S (xA n ad sz) s.heap H locs → ∀ ls : Array Slot, lv_has ls 4 [(0, .ref (ad 53)), (1, .int (xI (c9 : Int))), (2, .int (xI (t : Int))), (3, .int (xI (K : Int)))] → W p l e (xrm 0 0) s mm args below meth c H locs 0 0 (MQ below (va_Qv (fun u => ∃ G : Nat → Int, (∀ k : Nat, k < 256 → G (256 * c9 + k) = xd (sp_sep r.2 r.1 (k : Int))) ∧ (∀ j : Nat, j < 256 * c9 ∨ 256 * c9 + 256 ≤ j → G j = M.isCut j) ∧ MW cA ad u (mO M.built M.builtMany M.told M.toldMany M.row M.rowMany M.figures M.partText M.partFrom M.partMany M.parts M.cut M.cutMany G M.cutGives M.cutAt M.h) ∧ xO 53 68 en u) (xE D n ad) (xA n ad sz)) args s 0 0 (xA n ad sz)) (F0 mm 30 ls []) := by
          intro nn
          induction nn with
          | zero =>
            intro K G ew30 H locs hk8 hG hmm hM ho hP hS ls hl
            exact absurd hmm (Nat.not_lt_zero _)
          | succ nn ih =>
            intro K G ew30 H locs hk8 hG hmm hM ho hP hS ls hl
            refine lv_iload_n hx hb dX5_laySeparators_30 rfl (lv_at hl 3 rfl) ?_
            refine lv_aload_n hx hb dX5_laySeparators_31 rfl (lv_at hl 0 rfl) ?_
            refine x_get (T := TX5) (N := 17) hx hb hts uX5 hown hK hP (i := 53) (by omega) (show ew30 53 = .inr (5, [.ref (ad 54), .ref (ad 55), .ref (ad 56), .ref (ad 57), .ref (ad 58), .int (xI M.rowMany), .ref (ad 59), .ref (ad 60), .ref (ad 61), .ref (ad 62), .int (xI M.parts), .ref (ad 63), .ref (ad 64), .ref (ad 65), .ref (ad 66), .ref (ad 67), .long M.h]) from hM.1) rfl 3 (by decide) u_fl_RX5_19 rfl dX5_laySeparators_32 ?_
            refine lv_iload_n hx hb dX5_laySeparators_35 rfl (lv_at hl 2 rfl) ?_
            refine x_ild hx hb hK hP (i := 57) (by omega) hM.2.2.2.2.1 (x := M.toldMany t) (by omega) (rfl) dX5_laySeparators_36 ?_
            refine x_to ((r.1 : Int)) (hz) ?_
            refine x_icmp_ge (tgt := 70) hx hb dX5_laySeparators_37 (by decide) (by omega) (fun c_37 => ?_) (fun c_37 => ?_)
            · have hke : K = r.1 := by omega
              rw [hke] at hG
              exact xe_v hx hb hrt hlocks hP hS (⟨G, hG.1, hG.2, hM, ho⟩) dX5_laySeparators_70
            · have hrx := hrb K (by omega)
              refine lv_aload_n hx hb dX5_laySeparators_40 rfl (lv_at hl 0 rfl) ?_
              refine x_get (T := TX5) (N := 17) hx hb hts uX5 hown hK hP (i := 53) (by omega) (show ew30 53 = .inr (5, [.ref (ad 54), .ref (ad 55), .ref (ad 56), .ref (ad 57), .ref (ad 58), .int (xI M.rowMany), .ref (ad 59), .ref (ad 60), .ref (ad 61), .ref (ad 62), .int (xI M.parts), .ref (ad 63), .ref (ad 64), .ref (ad 65), .ref (ad 66), .ref (ad 67), .long M.h]) from hM.1) rfl 13 (by decide) u_fl_RX5_43 rfl dX5_laySeparators_41 ?_
              refine x_sipush hx hb dX5_laySeparators_44 (by decide +kernel) ?_
              refine lv_iload_n hx hb dX5_laySeparators_47 rfl (lv_at hl 1 rfl) ?_
              refine x_imul hx hb dX5_laySeparators_48 ?_
              refine lv_aload_n hx hb dX5_laySeparators_49 rfl (lv_at hl 0 rfl) ?_
              refine x_get (T := TX5) (N := 17) hx hb hts uX5 hown hK hP (i := 53) (by omega) (show ew30 53 = .inr (5, [.ref (ad 54), .ref (ad 55), .ref (ad 56), .ref (ad 57), .ref (ad 58), .int (xI M.rowMany), .ref (ad 59), .ref (ad 60), .ref (ad 61), .ref (ad 62), .int (xI M.parts), .ref (ad 63), .ref (ad 64), .ref (ad 65), .ref (ad 66), .ref (ad 67), .long M.h]) from hM.1) rfl 2 (by decide) u_fl_RX5_16 rfl dX5_laySeparators_50 ?_
              refine x_sipush hx hb dX5_laySeparators_53 (by decide +kernel) ?_
              refine lv_iload_n hx hb dX5_laySeparators_56 rfl (lv_at hl 2 rfl) ?_
              refine x_imul hx hb dX5_laySeparators_57 ?_
              refine lv_iload_n hx hb dX5_laySeparators_58 rfl (lv_at hl 3 rfl) ?_
              refine x_iadd hx hb dX5_laySeparators_59 ?_
              refine x_ild hx hb hK hP (i := 56) (by omega) hM.2.2.2.1 (x := M.told ((200 * t) + K)) (by omega) (congrArg (fun q => xI (M.told q)) (show Int.toNat ((200 * (t : Int)) + (K : Int)) = (200 * t) + K by omega)) dX5_laySeparators_60 ?_
              refine x_to (r.2 K) (hf2 K (by omega)) ?_
              refine x_iadd hx hb dX5_laySeparators_61 ?_
              refine x_iconst hx hb dX5_laySeparators_62 ?_
              refine x_ist hx hb hK hP hD hS (i := 65) (by omega) hM.2.2.2.2.2.2.2.2.2.2.2.2.1 (by omega) dX5_laySeparators_63 (fun H locs hP hS => ?_)
              obtain ⟨en1, he1⟩ : ∃ z, z = va_up ew30 65 (.inl (cA 0, 512, .inl (upd (fun k => xI (G k)) (Int.toNat ((256 * (c9 : Int)) + (r.2 K))) (xI 1)))) := ⟨_, rfl⟩
              have hP : va_P D vwCl (xw n ad en1) H := by rw [he1]; exact hP
              have hM : MW cA ad en1 (mO M.built M.builtMany M.told M.toldMany M.row M.rowMany M.figures M.partText M.partFrom M.partMany M.parts M.cut M.cutMany (sp_up G (Int.toNat ((256 * (c9 : Int)) + (r.2 K))) 1) M.cutGives M.cutAt M.h) := by rw [he1]; exact hM.u_isCut (Int.toNat ((256 * (c9 : Int)) + (r.2 K))) 1
              have ho : xO 53 68 en en1 := by rw [he1]; exact ho.up (by omega) (by omega)
              refine x_iinc (lv' := [(3, .int (xI ((K : Int) + 1))), (0, .ref (ad 53)), (1, .int (xI (c9 : Int))), (2, .int (xI (t : Int)))]) (k := 3) hx hb dX5_laySeparators_64 hl rfl (by decide) rfl (fun ls hl => ?_)
              refine lv_goto (tgt := 30) hx hb dX5_laySeparators_67 (by decide) ?_
              exact ih (K + 1) _ en1 _ _ (by omega) (⟨fun k hk => by
      by_cases q : 256 * c9 + k = Int.toNat (256 * (c9 : Int) + r.2 K)
      · rw [q, sp_up_s]
        exact (xd_t ⟨K, by omega, by omega⟩).symm
      · rw [sp_up_n _ _ q, hG.1 k hk]
        refine xd_iff ⟨fun w => ?_, fun w => ?_⟩
        · obtain ⟨i, hi, hi2⟩ := w
          exact ⟨i, by omega, hi2⟩
        · obtain ⟨i, hi, hi2⟩ := w
          refine ⟨i, ?_, hi2⟩
          rcases (show i < K ∨ i = K by omega) with w | w
          · exact w
          · subst w; omega, fun j hj => by rw [sp_up_n _ _ (by omega)]; exact hG.2 j hj⟩) (by omega) hM ho hP hS ls (lv_sub hl [1, 2, 3, 0] rfl)
        exact L30 _ 0 F ew2 _ _ (Nat.zero_le _) (⟨fun k hk => (hF.1 k (by omega)).trans (xd_f (fun q => by obtain ⟨i, hi, -⟩ := q; omega)).symm, hF.2⟩) (Nat.lt_succ_self _) hM ho hP hS ls (lv_sub hl [1, 2, 3, 0] rfl)
      · refine lv_aload_n hx hb dX5_laySeparators_9 rfl (lv_at hl 0 rfl) ?_
        refine x_get (T := TX5) (N := 17) hx hb hts uX5 hown hK hP (i := 53) (by omega) (show ew2 53 = .inr (5, [.ref (ad 54), .ref (ad 55), .ref (ad 56), .ref (ad 57), .ref (ad 58), .int (xI M.rowMany), .ref (ad 59), .ref (ad 60), .ref (ad 61), .ref (ad 62), .int (xI M.parts), .ref (ad 63), .ref (ad 64), .ref (ad 65), .ref (ad 66), .ref (ad 67), .long M.h]) from hM.1) rfl 13 (by decide) u_fl_RX5_43 rfl dX5_laySeparators_10 ?_
        refine x_sipush hx hb dX5_laySeparators_13 (by decide +kernel) ?_
        refine lv_iload_n hx hb dX5_laySeparators_16 rfl (lv_at hl 1 rfl) ?_
        refine x_imul hx hb dX5_laySeparators_17 ?_
        refine lv_iload_n hx hb dX5_laySeparators_18 rfl (lv_at hl 3 rfl) ?_
        refine x_iadd hx hb dX5_laySeparators_19 ?_
        refine x_iconst hx hb dX5_laySeparators_20 ?_
        refine x_ist hx hb hK hP hD hS (i := 65) (by omega) hM.2.2.2.2.2.2.2.2.2.2.2.2.1 (by omega) dX5_laySeparators_21 (fun H locs hP hS => ?_)
        obtain ⟨en2, he2⟩ : ∃ z, z = va_up ew2 65 (.inl (cA 0, 512, .inl (upd (fun k => xI (F k)) ((256 * c9) + K) (xI 0)))) := ⟨_, rfl⟩
        have hP : va_P D vwCl (xw n ad en2) H := by rw [he2, show (256 * c9) + K = (Int.toNat ((256 * (c9 : Int)) + (K : Int))) by omega]; exact hP
        have hM : MW cA ad en2 (mO M.built M.builtMany M.told M.toldMany M.row M.rowMany M.figures M.partText M.partFrom M.partMany M.parts M.cut M.cutMany (sp_up F ((256 * c9) + K) 0) M.cutGives M.cutAt M.h) := by rw [he2]; exact hM.u_isCut ((256 * c9) + K) 0
        have ho : xO 53 68 en en2 := by rw [he2]; exact ho.up (by omega) (by omega)
        refine x_iinc (lv' := [(3, .int (xI ((K : Int) + 1))), (0, .ref (ad 53)), (1, .int (xI (c9 : Int))), (2, .int (xI (t : Int)))]) (k := 3) hx hb dX5_laySeparators_22 hl rfl (by decide) rfl (fun ls hl => ?_)
        refine lv_goto (tgt := 2) hx hb dX5_laySeparators_25 (by decide) ?_
        exact ih (K + 1) _ en2 _ _ (by omega) (⟨fun k hk => by
      by_cases q : k = K
      · rw [q, sp_up_s]
      · rw [sp_up_n _ _ (by omega)]; exact hF.1 k (by omega), fun j hj => by rw [sp_up_n _ _ (by omega)]; exact hF.2 j hj⟩) (by omega) hM ho hP hS ls (lv_sub hl [1, 2, 3, 0] rfl)
  exact L2 _ 0 M.isCut en _ _ (Nat.zero_le _) (⟨fun k hk => absurd hk (Nat.not_lt_zero _), fun j hj => rfl⟩) (Nat.lt_succ_self _) hM ho hP hS ls (lv_sub hl [1, 2, 3, 0] rfl)

set_option maxRecDepth 20000 in
theorem c_X5_takes (l : Launch) (D : va_G) (cA : Nat → ClassId) (n : Nat) (ad : Nat → Nat) (en : Nat → va_E) (sz : Nat) (hn : 68 ≤ n) {M : MO} (hM : MW cA ad en M) (c9 : Nat) (hc2 : c9 < 2) {m9 : Nat} {f : Nat → Int} {S9 : Int → Prop} (hcf : ∀ k : Nat, k < m9 → M.cut (200 * c9 + k) = f k) (hfb : ∀ k : Nat, k < m9 → 0 ≤ f k ∧ f k ≤ 255) (hcs : ∀ k : Nat, k < 256 → M.isCut (256 * c9 + k) = xd (S9 (k : Int))) (hm2 : m9 ≤ 200) {G9 : Prop} (hcm : M.cutMany c9 = (m9 : Int)) (hcg : M.cutGives c9 = xd G9) (pl : Nat) (hca : M.cutAt c9 = (pl : Int)) (hpl : pl ≤ m9) (t : Nat) (ht8 : t < 8) : Met l yX5_takes (Cond.code yX5_takes cX5_takes 6 (some .int) :: xU) (xrm 2 45) (va_Pc [.ref (ad 53), .int (xI (c9 : Int)), .int (xI (t : Int))] (xM D cA n ad en sz)) (va_Qi (fun r u => ((m9 : Int) ≤ sp_ts G9 S9 f (m9 : Int) (pl : Int) ∧ r = xI (-1006) ∧ MW cA ad u (mO M.built M.builtMany M.told M.toldMany M.row M.rowMany M.figures M.partText M.partFrom M.partMany M.parts M.cut (sp_up M.cutMany c9 (-1)) M.isCut M.cutGives M.cutAt M.h) ∧ xO 53 68 en u) ∨ (sp_ts G9 S9 f (m9 : Int) (pl : Int) < (m9 : Int) ∧ ∃ (ts te : Nat) (F T : Nat → Int), (ts : Int) = sp_ts G9 S9 f (m9 : Int) (pl : Int) ∧ (te : Int) = sp_te S9 f (m9 : Int) (sp_ts G9 S9 f (m9 : Int) (pl : Int)) ∧ r = xI ((te : Int) - (ts : Int)) ∧ (∀ k : Nat, k < te - ts → T (200 * t + k) = f (ts + k)) ∧ (∀ j : Nat, j < 200 * t ∨ 200 * t + 200 ≤ j → T j = M.told j) ∧ MW cA ad u (mO M.built M.builtMany T (sp_up M.toldMany t ((te : Int) - (ts : Int))) F ((te : Int) - (ts : Int)) M.figures M.partText M.partFrom M.partMany M.parts M.cut M.cutMany M.isCut M.cutGives (sp_up M.cutAt c9 (te : Int)) M.h) ∧ xO 53 68 en u)) (xE D n ad) (xA n ad sz)) 0 0 (xA n ad sz) := by
  refine xmet (by decide) (Nat.le_of_ble_eq_true rfl) (fun p e s mm args below meth c ls hx hb hrt hml hown hts hlocks hname hB hl => ?_)
  obtain ⟨⟨hP, hK, hN⟩, hsz, hDt⟩ := hB
  have hD : xD (xA n ad sz) n ad := xD_self hDt sz
  have hA : ∀ q : Nat, s.heap.size ≤ q → xA n ad sz q := fun q h => Or.inr (by rw [← hsz]; exact h)
  have hS : va_S (xA n ad sz) s.heap s.heap [] := va_S.rf
  have hown : s.vm.findClass RX5 = some mm.cls := hown
  have hl : lv_has ls 6 [(0, .ref (ad 53)), (1, .int (xI (c9 : Int))), (2, .int (xI (t : Int)))] := hl
  have ho : xO 53 68 en en := xO.rf
  refine lv_aload_n hx hb dX5_takes_0 rfl (lv_at hl 0 rfl) ?_
  refine lv_iload_n hx hb dX5_takes_1 rfl (lv_at hl 1 rfl) ?_
  refine lv_aload_n hx hb dX5_takes_2 rfl (lv_at hl 0 rfl) ?_
  refine x_get (T := TX5) (N := 17) hx hb hts uX5 hown hK hP (i := 53) (by omega) hM.1 rfl 15 (by decide) u_fl_RX5_49 rfl dX5_takes_3 ?_
  refine lv_iload_n hx hb dX5_takes_6 rfl (lv_at hl 1 rfl) ?_
  refine x_ild hx hb hK hP (i := 67) (by omega) hM.2.2.2.2.2.2.2.2.2.2.2.2.2.2 (x := M.cutAt c9) (by omega) (rfl) dX5_takes_7 ?_
  refine x_to ((pl : Int)) (hca) ?_
  have hts8 := sp_ts_b (G := G9) (S := S9) (f := f) (m := (m9 : Int)) (a := (pl : Int)) (by omega)
  refine xv_i (i := 53) (As := [.int (xI (c9 : Int)), .int (xI (pl : Int))]) (rest := []) ⟨hx, hb, hml, hown, hts⟩ hl.1 (c_X5_beginOf l D cA n ad en hn hM c9 hc2 hcf hfb hcs hm2 hcm hcg (pl : Int) (by omega)) k_X5_beginOf u_ml_RX5_164 hK hN hP (by omega) hM.1 rfl rfl rfl rfl (Nat.le_of_ble_eq_true rfl) ⟨Nat.le_of_ble_eq_true rfl, Nat.le_of_ble_eq_true rfl⟩ ⟨Nat.le_of_ble_eq_true rfl, Nat.le_of_ble_eq_true rfl⟩ dX5_takes_8 ?_
  obtain ⟨ts, hts9⟩ : ∃ q : Nat, (q : Int) = sp_ts G9 S9 f (m9 : Int) (pl : Int) := ⟨Int.toNat (sp_ts G9 S9 f (m9 : Int) (pl : Int)), by omega⟩
  refine x_to ((ts : Int)) (hts9.symm) ?_
  refine lv_istore_n (lv' := [(3, .int (xI (ts : Int))), (0, .ref (ad 53)), (1, .int (xI (c9 : Int))), (2, .int (xI (t : Int)))]) hx hb dX5_takes_11 rfl hl (by decide) rfl (fun ls hl => ?_)
  refine lv_iload_n hx hb dX5_takes_12 rfl (lv_at hl 0 rfl) ?_
  refine lv_aload_n hx hb dX5_takes_13 rfl (lv_at hl 1 rfl) ?_
  refine x_get (T := TX5) (N := 17) hx hb hts uX5 hown hK hP (i := 53) (by omega) hM.1 rfl 12 (by decide) u_fl_RX5_40 rfl dX5_takes_14 ?_
  refine lv_iload_n hx hb dX5_takes_17 rfl (lv_at hl 2 rfl) ?_
  refine x_ild hx hb hK hP (i := 64) (by omega) hM.2.2.2.2.2.2.2.2.2.2.2.1 (x := M.cutMany c9) (by omega) (rfl) dX5_takes_18 ?_
  refine x_to ((m9 : Int)) (hcm) ?_
  refine x_icmp_ne (tgt := 33) hx hb dX5_takes_19 (by decide) (by omega) (fun c_19 => ?_) (fun c_19 => ?_)
  · refine lv_aload_n hx hb dX5_takes_33 rfl (lv_at hl 1 rfl) ?_
    refine lv_iload_n hx hb dX5_takes_34 rfl (lv_at hl 2 rfl) ?_
    refine lv_iload_n hx hb dX5_takes_35 rfl (lv_at hl 0 rfl) ?_
    have hte36 := sp_te_b (S := S9) (f := f) (m := (m9 : Int)) (a := (ts : Int)) (by omega)
    refine xv_i (i := 53) (As := [.int (xI (c9 : Int)), .int (xI (ts : Int))]) (rest := []) ⟨hx, hb, hml, hown, hts⟩ hl.1 (c_X5_behindOf l D cA n ad en hn hM c9 hc2 hcf hfb hcs hm2 hcm hcg (ts : Int) (by omega)) k_X5_behindOf u_ml_RX5_167 hK hN hP (by omega) hM.1 rfl rfl rfl rfl (Nat.le_of_ble_eq_true rfl) ⟨Nat.le_of_ble_eq_true rfl, Nat.le_of_ble_eq_true rfl⟩ ⟨Nat.le_of_ble_eq_true rfl, Nat.le_of_ble_eq_true rfl⟩ dX5_takes_36 ?_
    rw [hts9] at hte36
    obtain ⟨te, hte9⟩ : ∃ q : Nat, (q : Int) = sp_te S9 f (m9 : Int) (sp_ts G9 S9 f (m9 : Int) (pl : Int)) := ⟨Int.toNat (sp_te S9 f (m9 : Int) (sp_ts G9 S9 f (m9 : Int) (pl : Int))), by omega⟩
    refine x_to ((te : Int)) (by rw [hte9, hts9]) ?_
    refine lv_istore (lv' := [(4, .int (xI (te : Int))), (3, .int (xI (ts : Int))), (0, .ref (ad 53)), (1, .int (xI (c9 : Int))), (2, .int (xI (t : Int)))]) hx hb dX5_takes_39 hl (by decide) rfl (fun ls hl => ?_)
    refine lv_aload_n hx hb dX5_takes_41 rfl (lv_at hl 2 rfl) ?_
    refine lv_iload hx hb dX5_takes_42 (lv_at hl 0 rfl) ?_
    refine lv_iload_n hx hb dX5_takes_44 rfl (lv_at hl 1 rfl) ?_
    refine x_isub hx hb dX5_takes_45 ?_
    refine x_put (T := TX5) (N := 17) (ty := .int) hx hb hts uX5 tyX5 tyX5_ok nmX5 hown hK hP hD hS (i := 53) (by omega) hM.1 rfl 5 (by decide) u_fl_RX5_62 rfl (by decide +kernel) rfl rfl (by show 5 < 17; decide) dX5_takes_46 (fun H locs hP hS => ?_)
    obtain ⟨en1, he1⟩ : ∃ z, z = va_up en 53 (.inr (5, [.ref (ad 54), .ref (ad 55), .ref (ad 56), .ref (ad 57), .ref (ad 58), .int (xI ((te : Int) - (ts : Int))), .ref (ad 59), .ref (ad 60), .ref (ad 61), .ref (ad 62), .int (xI M.parts), .ref (ad 63), .ref (ad 64), .ref (ad 65), .ref (ad 66), .ref (ad 67), .long M.h])) := ⟨_, rfl⟩
    have hP : va_P D vwCl (xw n ad en1) H := by rw [he1]; exact hP
    have hM : MW cA ad en1 (mO M.built M.builtMany M.told M.toldMany M.row ((te : Int) - (ts : Int)) M.figures M.partText M.partFrom M.partMany M.parts M.cut M.cutMany M.isCut M.cutGives M.cutAt M.h) := by rw [he1]; exact hM.s_rowMany ((te : Int) - (ts : Int))
    have ho : xO 53 68 en en1 := by rw [he1]; exact ho.up (by omega) (by omega)
    refine lv_iload_n hx hb dX5_takes_49 rfl (lv_at hl 1 rfl) ?_
    refine lv_istore (lv' := [(5, .int (xI (ts : Int))), (4, .int (xI (te : Int))), (3, .int (xI (ts : Int))), (0, .ref (ad 53)), (1, .int (xI (c9 : Int))), (2, .int (xI (t : Int)))]) hx hb dX5_takes_50 hl (by decide) rfl (fun ls hl => ?_)
    have L52 : ∀ (nn : Nat) (K : Nat) (F : Nat → Int) (ew52 : Nat → va_E) (H : Heap) (locs : List Loc), (ts ≤ K ∧ K ≤ te) → (∀ k : Nat, k < K - ts → F k = f (ts + k)) → (te - K) < nn → (MW cA ad ew52 (mO M.built M.builtMany M.told M.toldMany F ((te : Int) - (ts : Int)) M.figures M.partText M.partFrom M.partMany M.parts M.cut M.cutMany M.isCut M.cutGives M.cutAt M.h)) → (xO 53 68 en ew52) → va_P D vwCl (xw n ad ew52) H → va_S (xA n ad sz) s.heap H locs → ∀ ls : Array Slot, lv_has ls 6 [(0, .ref (ad 53)), (1, .int (xI (c9 : Int))), (2, .int (xI (t : Int))), (3, .int (xI (ts : Int))), (4, .int (xI (te : Int))), (5, .int (xI (K : Int)))] → W p l e (xrm 2 45) s mm args below meth c H locs 0 0 (MQ below (va_Qi (fun r u => ((m9 : Int) ≤ sp_ts G9 S9 f (m9 : Int) (pl : Int) ∧ r = xI (-1006) ∧ MW cA ad u (mO M.built M.builtMany M.told M.toldMany M.row M.rowMany M.figures M.partText M.partFrom M.partMany M.parts M.cut (sp_up M.cutMany c9 (-1)) M.isCut M.cutGives M.cutAt M.h) ∧ xO 53 68 en u) ∨ (sp_ts G9 S9 f (m9 : Int) (pl : Int) < (m9 : Int) ∧ ∃ (ts te : Nat) (F T : Nat → Int), (ts : Int) = sp_ts G9 S9 f (m9 : Int) (pl : Int) ∧ (te : Int) = sp_te S9 f (m9 : Int) (sp_ts G9 S9 f (m9 : Int) (pl : Int)) ∧ r = xI ((te : Int) - (ts : Int)) ∧ (∀ k : Nat, k < te - ts → T (200 * t + k) = f (ts + k)) ∧ (∀ j : Nat, j < 200 * t ∨ 200 * t + 200 ≤ j → T j = M.told j) ∧ MW cA ad u (mO M.built M.builtMany T (sp_up M.toldMany t ((te : Int) - (ts : Int))) F ((te : Int) - (ts : Int)) M.figures M.partText M.partFrom M.partMany M.parts M.cut M.cutMany M.isCut M.cutGives (sp_up M.cutAt c9 (te : Int)) M.h) ∧ xO 53 68 en u)) (xE D n ad) (xA n ad sz)) args s 0 0 (xA n ad sz)) (F0 mm 52 ls []) := by
      intro nn
      induction nn with
      | zero =>
        intro K F ew52 H locs hk8 hF hmm hM ho hP hS ls hl
        exact absurd hmm (Nat.not_lt_zero _)
      | succ nn ih =>
        intro K F ew52 H locs hk8 hF hmm hM ho hP hS ls hl
        refine lv_iload hx hb dX5_takes_52 (lv_at hl 5 rfl) ?_
        refine lv_iload hx hb dX5_takes_54 (lv_at hl 4 rfl) ?_
        refine x_icmp_ge (tgt := 87) hx hb dX5_takes_56 (by decide) (by omega) (fun c_56 => ?_) (fun c_56 => ?_)
        · refine lv_aload_n hx hb dX5_takes_87 rfl (lv_at hl 0 rfl) ?_
          refine x_get (T := TX5) (N := 17) hx hb hts uX5 hown hK hP (i := 53) (by omega) (show ew52 53 = .inr (5, [.ref (ad 54), .ref (ad 55), .ref (ad 56), .ref (ad 57), .ref (ad 58), .int (xI ((te : Int) - (ts : Int))), .ref (ad 59), .ref (ad 60), .ref (ad 61), .ref (ad 62), .int (xI M.parts), .ref (ad 63), .ref (ad 64), .ref (ad 65), .ref (ad 66), .ref (ad 67), .long M.h]) from hM.1) rfl 15 (by decide) u_fl_RX5_49 rfl dX5_takes_88 ?_
          refine lv_iload_n hx hb dX5_takes_91 rfl (lv_at hl 1 rfl) ?_
          refine lv_iload hx hb dX5_takes_92 (lv_at hl 4 rfl) ?_
          refine x_ist hx hb hK hP hD hS (i := 67) (by omega) hM.2.2.2.2.2.2.2.2.2.2.2.2.2.2 (by omega) dX5_takes_94 (fun H locs hP hS => ?_)
          obtain ⟨en2, he2⟩ : ∃ z, z = va_up ew52 67 (.inl (cA 0, 2, .inl (upd (fun k => xI (M.cutAt k)) c9 (xI (te : Int))))) := ⟨_, rfl⟩
          have hP : va_P D vwCl (xw n ad en2) H := by rw [he2]; exact hP
          have hM : MW cA ad en2 (mO M.built M.builtMany M.told M.toldMany F ((te : Int) - (ts : Int)) M.figures M.partText M.partFrom M.partMany M.parts M.cut M.cutMany M.isCut M.cutGives (sp_up M.cutAt c9 (te : Int)) M.h) := by rw [he2]; exact hM.u_cutAt c9 (te : Int)
          have ho : xO 53 68 en en2 := by rw [he2]; exact ho.up (by omega) (by omega)
          refine lv_aload_n hx hb dX5_takes_95 rfl (lv_at hl 0 rfl) ?_
          refine lv_iload_n hx hb dX5_takes_96 rfl (lv_at hl 2 rfl) ?_
          refine xm_i (i := 53) (As := [.int (xI (t : Int))]) (rest := []) ⟨hx, hb, hml, hown, hts⟩ hl.1 (c_X5_become l D cA n ad en2 _ hn hM t (by omega) (te - ts) (show ((te : Int) - (ts : Int)) = ((te - ts : Nat) : Int) from by omega) (by omega)) k_X5_become u_ml_RX5_118 hK hN hP (by omega) (show en2 53 = .inr (5, [.ref (ad 54), .ref (ad 55), .ref (ad 56), .ref (ad 57), .ref (ad 58), .int (xI ((te : Int) - (ts : Int))), .ref (ad 59), .ref (ad 60), .ref (ad 61), .ref (ad 62), .int (xI M.parts), .ref (ad 63), .ref (ad 64), .ref (ad 65), .ref (ad 66), .ref (ad 67), .long M.h]) from hM.1) rfl rfl rfl rfl (Nat.le_of_ble_eq_true rfl) ⟨Nat.le_of_ble_eq_true rfl, Nat.le_of_ble_eq_true rfl⟩ ⟨Nat.le_of_ble_eq_true rfl, Nat.le_of_ble_eq_true rfl⟩ dX5_takes_97 hD hS hA (fun r3 en3 H locs hp3 hP hS => ?_)
          obtain ⟨hrv, T9, hT9, hU9, hM, ho2⟩ := hp3
          have hrv : r3 = xI ((te : Int) - (ts : Int)) := hrv
          subst hrv
          have hM : MW cA ad en3 (mO M.built M.builtMany T9 (sp_up M.toldMany t ((te : Int) - (ts : Int))) F ((te : Int) - (ts : Int)) M.figures M.partText M.partFrom M.partMany M.parts M.cut M.cutMany M.isCut M.cutGives (sp_up M.cutAt c9 (te : Int)) M.h) := hM
          have ho := ho.tr ho2
          exact xe_i hx hb hrt hlocks hP hS (Or.inr ⟨by omega, ts, te, F, T9, hts9, hte9, rfl, fun k hk => (hT9 k hk).trans (hF k (by omega)), hU9, hM, ho⟩) dX5_takes_100
        · refine lv_aload_n hx hb dX5_takes_59 rfl (lv_at hl 0 rfl) ?_
          refine x_get (T := TX5) (N := 17) hx hb hts uX5 hown hK hP (i := 53) (by omega) (show ew52 53 = .inr (5, [.ref (ad 54), .ref (ad 55), .ref (ad 56), .ref (ad 57), .ref (ad 58), .int (xI ((te : Int) - (ts : Int))), .ref (ad 59), .ref (ad 60), .ref (ad 61), .ref (ad 62), .int (xI M.parts), .ref (ad 63), .ref (ad 64), .ref (ad 65), .ref (ad 66), .ref (ad 67), .long M.h]) from hM.1) rfl 4 (by decide) u_fl_RX5_22 rfl dX5_takes_60 ?_
          refine lv_iload hx hb dX5_takes_63 (lv_at hl 5 rfl) ?_
          refine lv_iload_n hx hb dX5_takes_65 rfl (lv_at hl 3 rfl) ?_
          refine x_isub hx hb dX5_takes_66 ?_
          refine lv_aload_n hx hb dX5_takes_67 rfl (lv_at hl 0 rfl) ?_
          refine x_get (T := TX5) (N := 17) hx hb hts uX5 hown hK hP (i := 53) (by omega) (show ew52 53 = .inr (5, [.ref (ad 54), .ref (ad 55), .ref (ad 56), .ref (ad 57), .ref (ad 58), .int (xI ((te : Int) - (ts : Int))), .ref (ad 59), .ref (ad 60), .ref (ad 61), .ref (ad 62), .int (xI M.parts), .ref (ad 63), .ref (ad 64), .ref (ad 65), .ref (ad 66), .ref (ad 67), .long M.h]) from hM.1) rfl 11 (by decide) u_fl_RX5_37 rfl dX5_takes_68 ?_
          refine x_sipush hx hb dX5_takes_71 (by decide +kernel) ?_
          refine lv_iload_n hx hb dX5_takes_74 rfl (lv_at hl 1 rfl) ?_
          refine x_imul hx hb dX5_takes_75 ?_
          refine lv_iload hx hb dX5_takes_76 (lv_at hl 5 rfl) ?_
          refine x_iadd hx hb dX5_takes_78 ?_
          refine x_ild hx hb hK hP (i := 63) (by omega) hM.2.2.2.2.2.2.2.2.2.2.1 (x := M.cut ((200 * c9) + K)) (by omega) (congrArg (fun q => xI (M.cut q)) (show Int.toNat ((200 * (c9 : Int)) + (K : Int)) = (200 * c9) + K by omega)) dX5_takes_79 ?_
          refine x_to (f K) (hcf K (by omega)) ?_
          refine x_ist hx hb hK hP hD hS (i := 58) (by omega) hM.2.2.2.2.2.1 (by omega) dX5_takes_80 (fun H locs hP hS => ?_)
          obtain ⟨en4, he4⟩ : ∃ z, z = va_up ew52 58 (.inl (cA 0, 220, .inl (upd (fun k => xI (F k)) (Int.toNat ((K : Int) - (ts : Int))) (xI (f K))))) := ⟨_, rfl⟩
          have hP : va_P D vwCl (xw n ad en4) H := by rw [he4]; exact hP
          have hM : MW cA ad en4 (mO M.built M.builtMany M.told M.toldMany (sp_up F (Int.toNat ((K : Int) - (ts : Int))) (f K)) ((te : Int) - (ts : Int)) M.figures M.partText M.partFrom M.partMany M.parts M.cut M.cutMany M.isCut M.cutGives M.cutAt M.h) := by rw [he4]; exact hM.u_row (Int.toNat ((K : Int) - (ts : Int))) (f K)
          have ho : xO 53 68 en en4 := by rw [he4]; exact ho.up (by omega) (by omega)
          refine x_iinc (lv' := [(5, .int (xI ((K : Int) + 1))), (0, .ref (ad 53)), (1, .int (xI (c9 : Int))), (2, .int (xI (t : Int))), (3, .int (xI (ts : Int))), (4, .int (xI (te : Int)))]) (k := 5) hx hb dX5_takes_81 hl rfl (by decide) rfl (fun ls hl => ?_)
          refine lv_goto (tgt := 52) hx hb dX5_takes_84 (by decide) ?_
          exact ih (K + 1) _ en4 _ _ (by omega) (fun k hk => by
      by_cases q : k = K - ts
      · rw [show Int.toNat ((K : Int) - (ts : Int)) = k by omega, sp_up_s]; exact congrArg f (by omega)
      · rw [sp_up_n _ _ (by omega)]; exact hF k (by omega)) (by omega) hM ho hP hS ls (lv_sub hl [1, 2, 3, 4, 5, 0] rfl)
    exact L52 _ ts M.row en1 _ _ (by omega) (fun k hk => absurd hk (by omega)) (Nat.lt_succ_self _) hM ho hP hS ls (lv_sub hl [3, 4, 5, 2, 1, 0] rfl)
  · refine lv_aload_n hx hb dX5_takes_22 rfl (lv_at hl 1 rfl) ?_
    refine x_get (T := TX5) (N := 17) hx hb hts uX5 hown hK hP (i := 53) (by omega) hM.1 rfl 12 (by decide) u_fl_RX5_40 rfl dX5_takes_23 ?_
    refine lv_iload_n hx hb dX5_takes_26 rfl (lv_at hl 2 rfl) ?_
    refine x_iconst hx hb dX5_takes_27 ?_
    refine x_ist hx hb hK hP hD hS (i := 64) (by omega) hM.2.2.2.2.2.2.2.2.2.2.2.1 (by omega) dX5_takes_28 (fun H locs hP hS => ?_)
    obtain ⟨en5, he5⟩ : ∃ z, z = va_up en 64 (.inl (cA 0, 2, .inl (upd (fun k => xI (M.cutMany k)) c9 (xI (-1))))) := ⟨_, rfl⟩
    have hP : va_P D vwCl (xw n ad en5) H := by rw [he5]; exact hP
    have hM : MW cA ad en5 (mO M.built M.builtMany M.told M.toldMany M.row M.rowMany M.figures M.partText M.partFrom M.partMany M.parts M.cut (sp_up M.cutMany c9 (-1)) M.isCut M.cutGives M.cutAt M.h) := by rw [he5]; exact hM.u_cutMany c9 (-1)
    have ho : xO 53 68 en en5 := by rw [he5]; exact ho.up (by omega) (by omega)
    refine x_sipush hx hb dX5_takes_29 (by decide +kernel) ?_
    exact xe_i hx hb hrt hlocks hP hS (Or.inl ⟨by omega, rfl, hM, ho⟩) dX5_takes_32
