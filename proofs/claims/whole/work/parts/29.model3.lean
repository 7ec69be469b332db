set_option maxHeartbeats 1000000 in
set_option maxRecDepth 20000 in
theorem c_X5_edit (l : Launch) (D : va_G) (cA : Nat → ClassId) (n : Nat) (ad : Nat → Nat) (en : Nat → va_E) (sz : Nat) (hn : 68 ≤ n) {M : MO} (hM : MW cA ad en M) (b : Nat) (hb4 : b < 4) (a d : Nat) (m9 : Nat) (hm : M.builtMany b = (m9 : Int)) (hm2 : m9 ≤ 200) (had : a ≤ d) (hd : d ≤ m9) (k9 : Nat) (hk : M.rowMany = (k9 : Int)) (hk2 : k9 ≤ 200) : Met l yX5_edit (Cond.code yX5_edit cX5_edit 8 (some .int) :: xU) (xrm 0 0) (va_Pc [.ref (ad 53), .int (xI (b : Int)), .int (xI (a : Int)), .int (xI (d : Int))] (xM D cA n ad en sz)) (va_Qi (fun r u => (200 < (m9 : Int) - ((d : Int) - (a : Int)) + (k9 : Int) ∧ r = xI (-1007) ∧ u = en) ∨ ((m9 : Int) - ((d : Int) - (a : Int)) + (k9 : Int) ≤ 200 ∧ ∃ (z : Int) (F : Nat → Int), r = xI z ∧ z = (m9 : Int) - ((d : Int) - (a : Int)) + (k9 : Int) ∧ (∀ j : Nat, j < m9 - (d - a) + k9 → F (200 * b + j) = sp_ed (fun q => M.built (200 * b + q)) a d M.row 0 k9 j) ∧ (∀ j : Nat, j < 200 * b ∨ 200 * b + 200 ≤ j → F j = M.built j) ∧ MW cA ad u (mO F (sp_up M.builtMany b z) M.told M.toldMany M.row M.rowMany M.figures M.partText M.partFrom M.partMany M.parts M.cut M.cutMany M.isCut M.cutGives M.cutAt M.h) ∧ xO 53 68 en u)) (xE D n ad) (xA n ad sz)) 0 0 (xA n ad sz) := by
  refine xmet (by decide) (Nat.le_of_ble_eq_true rfl) (fun p e s mm args below meth c ls hx hb hrt hml hown hts hlocks hname hB hl => ?_)
  obtain ⟨⟨hP, hK, hN⟩, hsz, hDt⟩ := hB
  have hD : xD (xA n ad sz) n ad := xD_self hDt sz
  have hA : ∀ q : Nat, s.heap.size ≤ q → xA n ad sz q := fun q h => Or.inr (by rw [← hsz]; exact h)
  have hS : va_S (xA n ad sz) s.heap s.heap [] := va_S.rf
  have hown : s.vm.findClass RX5 = some mm.cls := hown
  have hl : lv_has ls 8 [(0, .ref (ad 53)), (1, .int (xI (b : Int))), (2, .int (xI (a : Int))), (3, .int (xI (d : Int)))] := hl
  have ho : xO 53 68 en en := xO.rf
  refine lv_aload_n hx hb dX5_edit_0 rfl (lv_at hl 0 rfl) ?_
  refine x_get (T := TX5) (N := 17) hx hb hts uX5 hown hK hP (i := 53) (by omega) hM.1 rfl 1 (by decide) u_fl_RX5_13 rfl dX5_edit_1 ?_
  refine lv_iload_n hx hb dX5_edit_4 rfl (lv_at hl 1 rfl) ?_
  refine x_ild hx hb hK hP (i := 55) (by omega) hM.2.2.1 (x := M.builtMany b) (by omega) (rfl) dX5_edit_5 ?_
  refine x_to ((m9 : Int)) (hm) ?_
  refine lv_istore (lv' := [(4, .int (xI (m9 : Int))), (0, .ref (ad 53)), (1, .int (xI (b : Int))), (2, .int (xI (a : Int))), (3, .int (xI (d : Int)))]) hx hb dX5_edit_6 hl (by decide) rfl (fun ls hl => ?_)
  refine lv_aload_n hx hb dX5_edit_8 rfl (lv_at hl 1 rfl) ?_
  refine x_get (T := TX5) (N := 17) hx hb hts uX5 hown hK hP (i := 53) (by omega) hM.1 rfl 5 (by decide) u_fl_RX5_62 rfl dX5_edit_9 ?_
  refine lv_iload_n hx hb dX5_edit_12 rfl (lv_at hl 4 rfl) ?_
  refine lv_iload_n hx hb dX5_edit_13 rfl (lv_at hl 3 rfl) ?_
  refine x_isub hx hb dX5_edit_14 ?_
  refine x_isub hx hb dX5_edit_15 ?_
  obtain ⟨w9, hw9⟩ : ∃ w : Int, w = (k9 : Int) - ((d : Int) - (a : Int)) := ⟨_, rfl⟩
  refine x_to (w9) (by rw [hk, hw9]) ?_
  refine lv_istore (lv' := [(5, .int (xI w9)), (4, .int (xI (m9 : Int))), (0, .ref (ad 53)), (1, .int (xI (b : Int))), (2, .int (xI (a : Int))), (3, .int (xI (d : Int)))]) hx hb dX5_edit_16 hl (by decide) rfl (fun ls hl => ?_)
  refine lv_iload hx hb dX5_edit_18 (lv_at hl 1 rfl) ?_
  refine lv_iload hx hb dX5_edit_20 (lv_at hl 0 rfl) ?_
  refine x_iadd hx hb dX5_edit_22 ?_
  refine x_sipush hx hb dX5_edit_23 (by decide +kernel) ?_
  refine x_icmp_le (tgt := 33) hx hb dX5_edit_26 (by decide) (by omega) (fun c_26 => ?_) (fun c_26 => ?_)
  · refine x_sipush hx hb dX5_edit_33 (by decide +kernel) ?_
    refine lv_iload_n hx hb dX5_edit_36 rfl (lv_at hl 3 rfl) ?_
    refine x_imul hx hb dX5_edit_37 ?_
    refine lv_istore (lv' := [(6, .int (xI (200 * (b : Int)))), (5, .int (xI w9)), (4, .int (xI (m9 : Int))), (0, .ref (ad 53)), (1, .int (xI (b : Int))), (2, .int (xI (a : Int))), (3, .int (xI (d : Int)))]) hx hb dX5_edit_38 hl (by decide) rfl (fun ls hl => ?_)
    refine lv_iload hx hb dX5_edit_40 (lv_at hl 2 rfl) ?_
    refine x_iconst hx hb dX5_edit_42 ?_
    refine x_isub hx hb dX5_edit_43 ?_
    refine lv_istore (lv' := [(7, .int (xI ((m9 : Int) - 1))), (6, .int (xI (200 * (b : Int)))), (5, .int (xI w9)), (4, .int (xI (m9 : Int))), (0, .ref (ad 53)), (1, .int (xI (b : Int))), (2, .int (xI (a : Int))), (3, .int (xI (d : Int)))]) hx hb dX5_edit_44 hl (by decide) rfl (fun ls hl => ?_)
    have L46 : ∀ (nn : Nat) (K : Int) (F : Nat → Int) (ew46 : Nat → va_E) (H : Heap) (locs : List Loc), ((d : Int) - 1 ≤ K ∧ K ≤ (m9 : Int) - 1) → (∀ p : Nat, ((0 < w9 ∧ 200 * (b : Int) + K + w9 < (p : Int) ∧ (p : Int) < 200 * (b : Int) + (m9 : Int) + w9) → F p = M.built (Int.toNat ((p : Int) - w9))) ∧ (¬ (0 < w9 ∧ 200 * (b : Int) + K + w9 < (p : Int) ∧ (p : Int) < 200 * (b : Int) + (m9 : Int) + w9) → F p = M.built p)) → ((K + 1).toNat) < nn → (MW cA ad ew46 (mO F M.builtMany M.told M.toldMany M.row M.rowMany M.figures M.partText M.partFrom M.partMany M.parts M.cut M.cutMany M.isCut M.cutGives M.cutAt M.h)) → (xO 53 68 en ew46) → va_P D vwCl (xw n ad ew46) H → va_S (xA n ad sz) s.heap H locs → ∀ ls : Array Slot, lv_has ls 8 [(0, .ref (ad 53)), (1, .int (xI (b : Int))), (2, .int (xI (a : Int))), (3, .int (xI (d : Int))), (4, .int (xI (m9 : Int))), (5, .int (xI w9)), (6, .int (xI (200 * (b : Int)))), (7, .int (xI K))] → W p l e (xrm 0 0) s mm args below meth c H locs 0 0 (MQ below (va_Qi (fun r u => (200 < (m9 : Int) - ((d : Int) - (a : Int)) + (k9 : Int) ∧ r = xI (-1007) ∧ u = en) ∨ ((m9 : Int) - ((d : Int) - (a : Int)) + (k9 : Int) ≤ 200 ∧ ∃ (z : Int) (F : Nat → Int), r = xI z ∧ z = (m9 : Int) - ((d : Int) - (a : Int)) + (k9 : Int) ∧ (∀ j : Nat, j < m9 - (d - a) + k9 → F (200 * b + j) = sp_ed (fun q => M.built (200 * b + q)) a d M.row 0 k9 j) ∧ (∀ j : Nat, j < 200 * b ∨ 200 * b + 200 ≤ j → F j = M.built j) ∧ MW cA ad u (mO F (sp_up M.builtMany b z) M.told M.toldMany M.row M.rowMany M.figures M.partText M.partFrom M.partMany M.parts M.cut M.cutMany M.isCut M.cutGives M.cutAt M.h) ∧ xO 53 68 en u)) (xE D n ad) (xA n ad sz)) args s 0 0 (xA n ad sz)) (F0 mm 46 ls []) := by
      intro nn
      induction nn with
      | zero =>
        intro K F ew46 H locs hk8 hF hmm hM ho hP hS ls hl
        exact absurd hmm (Nat.not_lt_zero _)
      | succ nn ih =>
        intro K F ew46 H locs hk8 hF hmm hM ho hP hS ls hl
        refine lv_iload hx hb dX5_edit_46 (lv_at hl 7 rfl) ?_
        refine lv_iload_n hx hb dX5_edit_48 rfl (lv_at hl 3 rfl) ?_
        refine x_icmp_lt (tgt := 86) hx hb dX5_edit_49 (by decide) (by omega) (fun c_49 => ?_) (fun c_49 => ?_)
        · refine lv_iload_n hx hb dX5_edit_86 rfl (lv_at hl 3 rfl) ?_
          refine lv_istore (lv' := [(7, .int (xI (d : Int))), (0, .ref (ad 53)), (1, .int (xI (b : Int))), (2, .int (xI (a : Int))), (3, .int (xI (d : Int))), (4, .int (xI (m9 : Int))), (5, .int (xI w9)), (6, .int (xI (200 * (b : Int))))]) hx hb dX5_edit_87 hl (by decide) rfl (fun ls hl => ?_)
          have L89 : ∀ (nn : Nat) (K : Nat) (F2 : Nat → Int) (ew89 : Nat → va_E) (H : Heap) (locs : List Loc), (d ≤ K ∧ K ≤ m9) → (∀ p : Nat, (((0 < w9 ∧ 200 * (b : Int) + (d : Int) + w9 ≤ (p : Int) ∧ (p : Int) < 200 * (b : Int) + (m9 : Int) + w9) ∨ (w9 < 0 ∧ 200 * (b : Int) + (d : Int) + w9 ≤ (p : Int) ∧ (p : Int) < 200 * (b : Int) + (K : Int) + w9)) → F2 p = M.built (Int.toNat ((p : Int) - w9))) ∧ (¬ ((0 < w9 ∧ 200 * (b : Int) + (d : Int) + w9 ≤ (p : Int) ∧ (p : Int) < 200 * (b : Int) + (m9 : Int) + w9) ∨ (w9 < 0 ∧ 200 * (b : Int) + (d : Int) + w9 ≤ (p : Int) ∧ (p : Int) < 200 * (b : Int) + (K : Int) + w9)) → F2 p = M.built p)) → (m9 - K) < nn → (MW cA ad ew89 (mO F2 M.builtMany M.told M.toldMany M.row M.rowMany M.figures M.partText M.partFrom M.partMany M.parts M.cut M.cutMany M.isCut M.cutGives M.cutAt M.h)) → (xO 53 68 en ew89) → va_P D vwCl (xw n ad ew89) H → va_S (xA n ad sz) s.heap H locs → ∀ ls : Array Slot, lv_has ls 8 [(0, .ref (ad 53)), (1, .int (xI (b : Int))), (2, .int (xI (a : Int))), (3, .int (xI (d : Int))), (4, .int (xI (m9 : Int))), (5, .int (xI w9)), (6, .int (xI (200 * (b : Int)))), (7, .int (xI (K : Int)))] → W p l e (xrm 0 0) s mm args below meth c H locs 0 0 (MQ below (va_Qi (fun r u => (200 < (m9 : Int) - ((d : Int) - (a : Int)) + (k9 : Int) ∧ r = xI (-1007) ∧ u = en) ∨ ((m9 : Int) - ((d : Int) - (a : Int)) + (k9 : Int) ≤ 200 ∧ ∃ (z : Int) (F : Nat → Int), r = xI z ∧ z = (m9 : Int) - ((d : Int) - (a : Int)) + (k9 : Int) ∧ (∀ j : Nat, j < m9 - (d - a) + k9 → F (200 * b + j) = sp_ed (fun q => M.built (200 * b + q)) a d M.row 0 k9 j) ∧ (∀ j : Nat, j < 200 * b ∨ 200 * b + 200 ≤ j → F j = M.built j) ∧ MW cA ad u (mO F (sp_up M.builtMany b z) M.told M.toldMany M.row M.rowMany M.figures M.partText M.partFrom M.partMany M.parts M.cut M.cutMany M.isCut M.cutGives M.cutAt M.h) ∧ xO 53 68 en u)) (xE D n ad) (xA n ad sz)) args s 0 0 (xA n ad sz)) (F0 mm 89 ls []) := by
            intro nn
            induction nn with
            | zero =>
              intro K F2 ew89 H locs hk8 hF2 hmm hM ho hP hS ls hl
              exact absurd hmm (Nat.not_lt_zero _)
            | succ nn ih =>
              intro K F2 ew89 H locs hk8 hF2 hmm hM ho hP hS ls hl
              refine lv_iload hx hb dX5_edit_89 (lv_at hl 7 rfl) ?_
              refine lv_iload hx hb dX5_edit_91 (lv_at hl 4 rfl) ?_
              refine x_icmp_ge (tgt := 130) hx hb dX5_edit_93 (by decide) (by omega) (fun c_93 => ?_) (fun c_93 => ?_)
              · refine x_iconst hx hb dX5_edit_130 ?_
                refine lv_istore (lv' := [(7, .int (xI 0)), (0, .ref (ad 53)), (1, .int (xI (b : Int))), (2, .int (xI (a : Int))), (3, .int (xI (d : Int))), (4, .int (xI (m9 : Int))), (5, .int (xI w9)), (6, .int (xI (200 * (b : Int))))]) hx hb dX5_edit_131 hl (by decide) rfl (fun ls hl => ?_)
                have L133 : ∀ (nn : Nat) (J : Nat) (F3 : Nat → Int) (ew133 : Nat → va_E) (H : Heap) (locs : List Loc), (J ≤ k9) → ((∀ i : Nat, i < J → F3 (200 * b + a + i) = M.row i) ∧ ∀ p : Nat, p < 200 * b + a ∨ 200 * b + a + J ≤ p → F3 p = F2 p) → (k9 - J) < nn → (MW cA ad ew133 (mO F3 M.builtMany M.told M.toldMany M.row M.rowMany M.figures M.partText M.partFrom M.partMany M.parts M.cut M.cutMany M.isCut M.cutGives M.cutAt M.h)) → (xO 53 68 en ew133) → va_P D vwCl (xw n ad ew133) H → va_S (xA n ad sz) s.heap H locs → ∀ ls : Array Slot, lv_has ls 8 [(0, .ref (ad 53)), (1, .int (xI (b : Int))), (2, .int (xI (a : Int))), (3, .int (xI (d : Int))), (4, .int (xI (m9 : Int))), (5, .int (xI w9)), (6, .int (xI (200 * (b : Int)))), (7, .int (xI (J : Int)))] → W p l e (xrm 0 0) s mm args below meth c H locs 0 0 (MQ below (va_Qi (fun r u => (200 < (m9 : Int) - ((d : Int) - (a : Int)) + (k9 : Int) ∧ r = xI (-1007) ∧ u = en) ∨ ((m9 : Int) - ((d : Int) - (a : Int)) + (k9 : Int) ≤ 200 ∧ ∃ (z : Int) (F : Nat → Int), r = xI z ∧ z = (m9 : Int) - ((d : Int) - (a : Int)) + (k9 : Int) ∧ (∀ j : Nat, j < m9 - (d - a) + k9 → F (200 * b + j) = sp_ed (fun q => M.built (200 * b + q)) a d M.row 0 k9 j) ∧ (∀ j : Nat, j < 200 * b ∨ 200 * b + 200 ≤ j → F j = M.built j) ∧ MW cA ad u (mO F (sp_up M.builtMany b z) M.told M.toldMany M.row M.rowMany M.figures M.partText M.partFrom M.partMany M.parts M.cut M.cutMany M.isCut M.cutGives M.cutAt M.h) ∧ xO 53 68 en u)) (xE D n ad) (xA n ad sz)) args s 0 0 (xA n ad sz)) (F0 mm 133 ls []) := by
                  intro nn
                  induction nn with
                  | zero =>
                    intro J F3 ew133 H locs hj8 hF3 hmm hM ho hP hS ls hl
                    exact absurd hmm (Nat.not_lt_zero _)
                  | succ nn ih =>
                    intro J F3 ew133 H locs hj8 hF3 hmm hM ho hP hS ls hl
                    refine lv_iload hx hb dX5_edit_133 (lv_at hl 7 rfl) ?_
                    refine lv_aload_n hx hb dX5_edit_135 rfl (lv_at hl 0 rfl) ?_
                    refine x_get (T := TX5) (N := 17) hx hb hts uX5 hown hK hP (i := 53) (by omega) (show ew133 53 = .inr (5, [.ref (ad 54), .ref (ad 55), .ref (ad 56), .ref (ad 57), .ref (ad 58), .int (xI M.rowMany), .ref (ad 59), .ref (ad 60), .ref (ad 61), .ref (ad 62), .int (xI M.parts), .ref (ad 63), .ref (ad 64), .ref (ad 65), .ref (ad 66), .ref (ad 67), .long M.h]) from hM.1) rfl 5 (by decide) u_fl_RX5_62 rfl dX5_edit_136 ?_
                    refine x_icmp_ge (tgt := 167) hx hb dX5_edit_139 (by decide) (by omega) (fun c_139 => ?_) (fun c_139 => ?_)
                    · refine lv_aload_n hx hb dX5_edit_167 rfl (lv_at hl 0 rfl) ?_
                      refine x_get (T := TX5) (N := 17) hx hb hts uX5 hown hK hP (i := 53) (by omega) (show ew133 53 = .inr (5, [.ref (ad 54), .ref (ad 55), .ref (ad 56), .ref (ad 57), .ref (ad 58), .int (xI M.rowMany), .ref (ad 59), .ref (ad 60), .ref (ad 61), .ref (ad 62), .int (xI M.parts), .ref (ad 63), .ref (ad 64), .ref (ad 65), .ref (ad 66), .ref (ad 67), .long M.h]) from hM.1) rfl 1 (by decide) u_fl_RX5_13 rfl dX5_edit_168 ?_
                      refine lv_iload_n hx hb dX5_edit_171 rfl (lv_at hl 1 rfl) ?_
                      refine lv_iload hx hb dX5_edit_172 (lv_at hl 4 rfl) ?_
                      refine lv_iload hx hb dX5_edit_174 (lv_at hl 5 rfl) ?_
                      refine x_iadd hx hb dX5_edit_176 ?_
                      refine x_ist hx hb hK hP hD hS (i := 55) (by omega) hM.2.2.1 (by omega) dX5_edit_177 (fun H locs hP hS => ?_)
                      obtain ⟨en1, he1⟩ : ∃ z, z = va_up ew133 55 (.inl (cA 0, 4, .inl (upd (fun k => xI (M.builtMany k)) b (xI ((m9 : Int) + w9))))) := ⟨_, rfl⟩
                      have hP : va_P D vwCl (xw n ad en1) H := by rw [he1]; exact hP
                      have hM : MW cA ad en1 (mO F3 (sp_up M.builtMany b ((m9 : Int) + w9)) M.told M.toldMany M.row M.rowMany M.figures M.partText M.partFrom M.partMany M.parts M.cut M.cutMany M.isCut M.cutGives M.cutAt M.h) := by rw [he1]; exact hM.u_builtMany b ((m9 : Int) + w9)
                      have ho : xO 53 68 en en1 := by rw [he1]; exact ho.up (by omega) (by omega)
                      refine lv_aload_n hx hb dX5_edit_178 rfl (lv_at hl 0 rfl) ?_
                      refine x_get (T := TX5) (N := 17) hx hb hts uX5 hown hK hP (i := 53) (by omega) (show en1 53 = .inr (5, [.ref (ad 54), .ref (ad 55), .ref (ad 56), .ref (ad 57), .ref (ad 58), .int (xI M.rowMany), .ref (ad 59), .ref (ad 60), .ref (ad 61), .ref (ad 62), .int (xI M.parts), .ref (ad 63), .ref (ad 64), .ref (ad 65), .ref (ad 66), .ref (ad 67), .long M.h]) from hM.1) rfl 1 (by decide) u_fl_RX5_13 rfl dX5_edit_179 ?_
                      refine lv_iload_n hx hb dX5_edit_182 rfl (lv_at hl 1 rfl) ?_
                      refine x_ild hx hb hK hP (i := 55) (by omega) hM.2.2.1 (x := (sp_up M.builtMany b ((m9 : Int) + w9)) b) (by omega) (rfl) dX5_edit_183 ?_
                      exact xe_i hx hb hrt hlocks hP hS (Or.inr ⟨by omega, _, F3, congrArg xI (sp_up_s _ _ _), by omega, fun j hj => by
      have e1 := hF3.2 (200 * b + j)
      have e2 := hF2 (200 * b + j)
      show F3 (200 * b + j) = if j < a then M.built (200 * b + j) else if j < a + k9 then M.row (0 + (j - a)) else M.built (200 * b + (j - (a + k9) + d))
      by_cases q1 : j < a
      · rw [if_pos q1, e1 (by omega)]; exact e2.2 (by omega)
      · rw [if_neg q1]
        by_cases q2 : j < a + k9
        · rw [if_pos q2]
          have e3 := hF3.1 (j - a) (by omega)
          rw [show 200 * b + a + (j - a) = 200 * b + j by omega] at e3
          rw [e3, Nat.zero_add]
        · rw [if_neg q2, e1 (by omega)]
          by_cases q3 : w9 = 0
          · rw [e2.2 (by omega)]; exact congrArg M.built (by omega)
          · rw [e2.1 (by omega)]; exact congrArg M.built (by omega), fun j hj => by
      rw [hF3.2 j (by omega)]; exact (hF2 j).2 (by omega), hM, ho⟩) dX5_edit_184
                    · refine lv_aload_n hx hb dX5_edit_142 rfl (lv_at hl 0 rfl) ?_
                      refine x_get (T := TX5) (N := 17) hx hb hts uX5 hown hK hP (i := 53) (by omega) (show ew133 53 = .inr (5, [.ref (ad 54), .ref (ad 55), .ref (ad 56), .ref (ad 57), .ref (ad 58), .int (xI M.rowMany), .ref (ad 59), .ref (ad 60), .ref (ad 61), .ref (ad 62), .int (xI M.parts), .ref (ad 63), .ref (ad 64), .ref (ad 65), .ref (ad 66), .ref (ad 67), .long M.h]) from hM.1) rfl 0 (by decide) u_fl_RX5_7 rfl dX5_edit_143 ?_
                      refine lv_iload hx hb dX5_edit_146 (lv_at hl 6 rfl) ?_
                      refine lv_iload_n hx hb dX5_edit_148 rfl (lv_at hl 2 rfl) ?_
                      refine x_iadd hx hb dX5_edit_149 ?_
                      refine lv_iload hx hb dX5_edit_150 (lv_at hl 7 rfl) ?_
                      refine x_iadd hx hb dX5_edit_152 ?_
                      refine lv_aload_n hx hb dX5_edit_153 rfl (lv_at hl 0 rfl) ?_
                      refine x_get (T := TX5) (N := 17) hx hb hts uX5 hown hK hP (i := 53) (by omega) (show ew133 53 = .inr (5, [.ref (ad 54), .ref (ad 55), .ref (ad 56), .ref (ad 57), .ref (ad 58), .int (xI M.rowMany), .ref (ad 59), .ref (ad 60), .ref (ad 61), .ref (ad 62), .int (xI M.parts), .ref (ad 63), .ref (ad 64), .ref (ad 65), .ref (ad 66), .ref (ad 67), .long M.h]) from hM.1) rfl 4 (by decide) u_fl_RX5_22 rfl dX5_edit_154 ?_
                      refine lv_iload hx hb dX5_edit_157 (lv_at hl 7 rfl) ?_
                      refine x_ild hx hb hK hP (i := 58) (by omega) hM.2.2.2.2.2.1 (x := M.row J) (by omega) (rfl) dX5_edit_159 ?_
                      refine x_ist hx hb hK hP hD hS (i := 54) (by omega) hM.2.1 (by omega) dX5_edit_160 (fun H locs hP hS => ?_)
                      obtain ⟨en2, he2⟩ : ∃ z, z = va_up ew133 54 (.inl (cA 0, 800, .inl (upd (fun k => xI (F3 k)) (((200 * b) + a) + J) (xI (M.row J))))) := ⟨_, rfl⟩
                      have hP : va_P D vwCl (xw n ad en2) H := by rw [he2, show ((200 * b) + a) + J = (Int.toNat (((200 * (b : Int)) + (a : Int)) + (J : Int))) by omega]; exact hP
                      have hM : MW cA ad en2 (mO (sp_up F3 (((200 * b) + a) + J) (M.row J)) M.builtMany M.told M.toldMany M.row M.rowMany M.figures M.partText M.partFrom M.partMany M.parts M.cut M.cutMany M.isCut M.cutGives M.cutAt M.h) := by rw [he2]; exact hM.u_built (((200 * b) + a) + J) (M.row J)
                      have ho : xO 53 68 en en2 := by rw [he2]; exact ho.up (by omega) (by omega)
                      refine x_iinc (lv' := [(7, .int (xI ((J : Int) + 1))), (0, .ref (ad 53)), (1, .int (xI (b : Int))), (2, .int (xI (a : Int))), (3, .int (xI (d : Int))), (4, .int (xI (m9 : Int))), (5, .int (xI w9)), (6, .int (xI (200 * (b : Int))))]) (k := 7) hx hb dX5_edit_161 hl rfl (by decide) rfl (fun ls hl => ?_)
                      refine lv_goto (tgt := 133) hx hb dX5_edit_164 (by decide) ?_
                      exact ih (J + 1) _ en2 _ _ (by omega) (⟨fun i hi => by
      by_cases q : i = J
      · rw [q, sp_up_s]
      · rw [sp_up_n _ _ (by omega)]; exact hF3.1 i (by omega), fun p hp => by
      rw [sp_up_n _ _ (by omega)]; exact hF3.2 p (by omega)⟩) (by omega) hM ho hP hS ls (lv_sub hl [1, 2, 3, 4, 5, 6, 7, 0] rfl)
                exact L133 _ 0 F2 ew89 _ _ (Nat.zero_le _) (⟨fun i hi => absurd hi (Nat.not_lt_zero _), fun p _ => rfl⟩) (Nat.lt_succ_self _) hM ho hP hS ls (lv_sub hl [1, 2, 3, 4, 5, 6, 7, 0] rfl)
              · refine lv_iload hx hb dX5_edit_96 (lv_at hl 5 rfl) ?_
                refine x_if_ge (tgt := 130) hx hb dX5_edit_98 (by decide) (by omega) (fun c_98 => ?_) (fun c_98 => ?_)
                · refine x_iconst hx hb dX5_edit_130 ?_
                  refine lv_istore (lv' := [(7, .int (xI 0)), (0, .ref (ad 53)), (1, .int (xI (b : Int))), (2, .int (xI (a : Int))), (3, .int (xI (d : Int))), (4, .int (xI (m9 : Int))), (5, .int (xI w9)), (6, .int (xI (200 * (b : Int))))]) hx hb dX5_edit_131 hl (by decide) rfl (fun ls hl => ?_)
                  have L133 : ∀ (nn : Nat) (J : Nat) (F3 : Nat → Int) (ew133 : Nat → va_E) (H : Heap) (locs : List Loc), (J ≤ k9) → ((∀ i : Nat, i < J → F3 (200 * b + a + i) = M.row i) ∧ ∀ p : Nat, p < 200 * b + a ∨ 200 * b + a + J ≤ p → F3 p = F2 p) → (k9 - J) < nn → (MW cA ad ew133 (mO F3 M.builtMany M.told M.toldMany M.row M.rowMany M.figures M.partText M.partFrom M.partMany M.parts M.cut M.cutMany M.isCut M.cutGives M.cutAt M.h)) → (xO 53 68 en ew133) → va_P D vwCl (xw n ad ew133) H → va_S (xA n ad sz) s.heap H locs → ∀ ls : Array Slot, lv_has ls 8 [(0, .ref (ad 53)), (1, .int (xI (b : Int))), (2, .int (xI (a : Int))), (3, .int (xI (d : Int))), (4, .int (xI (m9 : Int))), (5, .int (xI w9)), (6, .int (xI (200 * (b : Int)))), (7, .int (xI (J : Int)))] → W p l e (xrm 0 0) s mm args below meth c H locs 0 0 (MQ below (va_Qi (fun r u => (200 < (m9 : Int) - ((d : Int) - (a : Int)) + (k9 : Int) ∧ r = xI (-1007) ∧ u = en) ∨ ((m9 : Int) - ((d : Int) - (a : Int)) + (k9 : Int) ≤ 200 ∧ ∃ (z : Int) (F : Nat → Int), r = xI z ∧ z = (m9 : Int) - ((d : Int) - (a : Int)) + (k9 : Int) ∧ (∀ j : Nat, j < m9 - (d - a) + k9 → F (200 * b + j) = sp_ed (fun q => M.built (200 * b + q)) a d M.row 0 k9 j) ∧ (∀ j : Nat, j < 200 * b ∨ 200 * b + 200 ≤ j → F j = M.built j) ∧ MW cA ad u (mO F (sp_up M.builtMany b z) M.told M.toldMany M.row M.rowMany M.figures M.partText M.partFrom M.partMany M.parts M.cut M.cutMany M.isCut M.cutGives M.cutAt M.h) ∧ xO 53 68 en u)) (xE D n ad) (xA n ad sz)) args s 0 0 (xA n ad sz)) (F0 mm 133 ls []) := by
                    intro nn
                    induction nn with
                    | zero =>
                      intro J F3 ew133 H locs hj8 hF3 hmm hM ho hP hS ls hl
                      exact absurd hmm (Nat.not_lt_zero _)
                    | succ nn ih =>
                      intro J F3 ew133 H locs hj8 hF3 hmm hM ho hP hS ls hl
                      refine lv_iload hx hb dX5_edit_133 (lv_at hl 7 rfl) ?_
                      refine lv_aload_n hx hb dX5_edit_135 rfl (lv_at hl 0 rfl) ?_
                      refine x_get (T := TX5) (N := 17) hx hb hts uX5 hown hK hP (i := 53) (by omega) (show ew133 53 = .inr (5, [.ref (ad 54), .ref (ad 55), .ref (ad 56), .ref (ad 57), .ref (ad 58), .int (xI M.rowMany), .ref (ad 59), .ref (ad 60), .ref (ad 61), .ref (ad 62), .int (xI M.parts), .ref (ad 63), .ref (ad 64), .ref (ad 65), .ref (ad 66), .ref (ad 67), .long M.h]) from hM.1) rfl 5 (by decide) u_fl_RX5_62 rfl dX5_edit_136 ?_
                      refine x_icmp_ge (tgt := 167) hx hb dX5_edit_139 (by decide) (by omega) (fun c_139 => ?_) (fun c_139 => ?_)
                      · refine lv_aload_n hx hb dX5_edit_167 rfl (lv_at hl 0 rfl) ?_
                        refine x_get (T := TX5) (N := 17) hx hb hts uX5 hown hK hP (i := 53) (by omega) (show ew133 53 = .inr (5, [.ref (ad 54), .ref (ad 55), .ref (ad 56), .ref (ad 57), .ref (ad 58), .int (xI M.rowMany), .ref (ad 59), .ref (ad 60), .ref (ad 61), .ref (ad 62), .int (xI M.parts), .ref (ad 63), .ref (ad 64), .ref (ad 65), .ref (ad 66), .ref (ad 67), .long M.h]) from hM.1) rfl 1 (by decide) u_fl_RX5_13 rfl dX5_edit_168 ?_
                        refine lv_iload_n hx hb dX5_edit_171 rfl (lv_at hl 1 rfl) ?_
                        refine lv_iload hx hb dX5_edit_172 (lv_at hl 4 rfl) ?_
                        refine lv_iload hx hb dX5_edit_174 (lv_at hl 5 rfl) ?_
                        refine x_iadd hx hb dX5_edit_176 ?_
                        refine x_ist hx hb hK hP hD hS (i := 55) (by omega) hM.2.2.1 (by omega) dX5_edit_177 (fun H locs hP hS => ?_)
                        obtain ⟨en3, he3⟩ : ∃ z, z = va_up ew133 55 (.inl (cA 0, 4, .inl (upd (fun k => xI (M.builtMany k)) b (xI ((m9 : Int) + w9))))) := ⟨_, rfl⟩
                        have hP : va_P D vwCl (xw n ad en3) H := by rw [he3]; exact hP
                        have hM : MW cA ad en3 (mO F3 (sp_up M.builtMany b ((m9 : Int) + w9)) M.told M.toldMany M.row M.rowMany M.figures M.partText M.partFrom M.partMany M.parts M.cut M.cutMany M.isCut M.cutGives M.cutAt M.h) := by rw [he3]; exact hM.u_builtMany b ((m9 : Int) + w9)
                        have ho : xO 53 68 en en3 := by rw [he3]; exact ho.up (by omega) (by omega)
                        refine lv_aload_n hx hb dX5_edit_178 rfl (lv_at hl 0 rfl) ?_
                        refine x_get (T := TX5) (N := 17) hx hb hts uX5 hown hK hP (i := 53) (by omega) (show en3 53 = .inr (5, [.ref (ad 54), .ref (ad 55), .ref (ad 56), .ref (ad 57), .ref (ad 58), .int (xI M.rowMany), .ref (ad 59), .ref (ad 60), .ref (ad 61), .ref (ad 62), .int (xI M.parts), .ref (ad 63), .ref (ad 64), .ref (ad 65), .ref (ad 66), .ref (ad 67), .long M.h]) from hM.1) rfl 1 (by decide) u_fl_RX5_13 rfl dX5_edit_179 ?_
                        refine lv_iload_n hx hb dX5_edit_182 rfl (lv_at hl 1 rfl) ?_
                        refine x_ild hx hb hK hP (i := 55) (by omega) hM.2.2.1 (x := (sp_up M.builtMany b ((m9 : Int) + w9)) b) (by omega) (rfl) dX5_edit_183 ?_
                        exact xe_i hx hb hrt hlocks hP hS (Or.inr ⟨by omega, _, F3, congrArg xI (sp_up_s _ _ _), by omega, fun j hj => by
      have e1 := hF3.2 (200 * b + j)
      have e2 := hF2 (200 * b + j)
      show F3 (200 * b + j) = if j < a then M.built (200 * b + j) else if j < a + k9 then M.row (0 + (j - a)) else M.built (200 * b + (j - (a + k9) + d))
      by_cases q1 : j < a
      · rw [if_pos q1, e1 (by omega)]; exact e2.2 (by omega)
      · rw [if_neg q1]
        by_cases q2 : j < a + k9
        · rw [if_pos q2]
          have e3 := hF3.1 (j - a) (by omega)
          rw [show 200 * b + a + (j - a) = 200 * b + j by omega] at e3
          rw [e3, Nat.zero_add]
        · rw [if_neg q2, e1 (by omega)]
          by_cases q3 : w9 = 0
          · rw [e2.2 (by omega)]; exact congrArg M.built (by omega)
          · rw [e2.1 (by omega)]; exact congrArg M.built (by omega), fun j hj => by
      rw [hF3.2 j (by omega)]; exact (hF2 j).2 (by omega), hM, ho⟩) dX5_edit_184
                      · refine lv_aload_n hx hb dX5_edit_142 rfl (lv_at hl 0 rfl) ?_
                        refine x_get (T := TX5) (N := 17) hx hb hts uX5 hown hK hP (i := 53) (by omega) (show ew133 53 = .inr (5, [.ref (ad 54), .ref (ad 55), .ref (ad 56), .ref (ad 57), .ref (ad 58), .int (xI M.rowMany), .ref (ad 59), .ref (ad 60), .ref (ad 61), .ref (ad 62), .int (xI M.parts), .ref (ad 63), .ref (ad 64), .ref (ad 65), .ref (ad 66), .ref (ad 67), .long M.h]) from hM.1) rfl 0 (by decide) u_fl_RX5_7 rfl dX5_edit_143 ?_
                        refine lv_iload hx hb dX5_edit_146 (lv_at hl 6 rfl) ?_
                        refine lv_iload_n hx hb dX5_edit_148 rfl (lv_at hl 2 rfl) ?_
                        refine x_iadd hx hb dX5_edit_149 ?_
                        refine lv_iload hx hb dX5_edit_150 (lv_at hl 7 rfl) ?_
                        refine x_iadd hx hb dX5_edit_152 ?_
                        refine lv_aload_n hx hb dX5_edit_153 rfl (lv_at hl 0 rfl) ?_
                        refine x_get (T := TX5) (N := 17) hx hb hts uX5 hown hK hP (i := 53) (by omega) (show ew133 53 = .inr (5, [.ref (ad 54), .ref (ad 55), .ref (ad 56), .ref (ad 57), .ref (ad 58), .int (xI M.rowMany), .ref (ad 59), .ref (ad 60), .ref (ad 61), .ref (ad 62), .int (xI M.parts), .ref (ad 63), .ref (ad 64), .ref (ad 65), .ref (ad 66), .ref (ad 67), .long M.h]) from hM.1) rfl 4 (by decide) u_fl_RX5_22 rfl dX5_edit_154 ?_
                        refine lv_iload hx hb dX5_edit_157 (lv_at hl 7 rfl) ?_
                        refine x_ild hx hb hK hP (i := 58) (by omega) hM.2.2.2.2.2.1 (x := M.row J) (by omega) (rfl) dX5_edit_159 ?_
                        refine x_ist hx hb hK hP hD hS (i := 54) (by omega) hM.2.1 (by omega) dX5_edit_160 (fun H locs hP hS => ?_)
                        obtain ⟨en4, he4⟩ : ∃ z, z = va_up ew133 54 (.inl (cA 0, 800, .inl (upd (fun k => xI (F3 k)) (((200 * b) + a) + J) (xI (M.row J))))) := ⟨_, rfl⟩
                        have hP : va_P D vwCl (xw n ad en4) H := by rw [he4, show ((200 * b) + a) + J = (Int.toNat (((200 * (b : Int)) + (a : Int)) + (J : Int))) by omega]; exact hP
                        have hM : MW cA ad en4 (mO (sp_up F3 (((200 * b) + a) + J) (M.row J)) M.builtMany M.told M.toldMany M.row M.rowMany M.figures M.partText M.partFrom M.partMany M.parts M.cut M.cutMany M.isCut M.cutGives M.cutAt M.h) := by rw [he4]; exact hM.u_built (((200 * b) + a) + J) (M.row J)
                        have ho : xO 53 68 en en4 := by rw [he4]; exact ho.up (by omega) (by omega)
                        refine x_iinc (lv' := [(7, .int (xI ((J : Int) + 1))), (0, .ref (ad 53)), (1, .int (xI (b : Int))), (2, .int (xI (a : Int))), (3, .int (xI (d : Int))), (4, .int (xI (m9 : Int))), (5, .int (xI w9)), (6, .int (xI (200 * (b : Int))))]) (k := 7) hx hb dX5_edit_161 hl rfl (by decide) rfl (fun ls hl => ?_)
                        refine lv_goto (tgt := 133) hx hb dX5_edit_164 (by decide) ?_
                        exact ih (J + 1) _ en4 _ _ (by omega) (⟨fun i hi => by
      by_cases q : i = J
      · rw [q, sp_up_s]
      · rw [sp_up_n _ _ (by omega)]; exact hF3.1 i (by omega), fun p hp => by
      rw [sp_up_n _ _ (by omega)]; exact hF3.2 p (by omega)⟩) (by omega) hM ho hP hS ls (lv_sub hl [1, 2, 3, 4, 5, 6, 7, 0] rfl)
                  exact L133 _ 0 F2 ew89 _ _ (Nat.zero_le _) (⟨fun i hi => absurd hi (Nat.not_lt_zero _), fun p _ => rfl⟩) (Nat.lt_succ_self _) hM ho hP hS ls (lv_sub hl [1, 2, 3, 4, 5, 6, 7, 0] rfl)
                · refine lv_aload_n hx hb dX5_edit_101 rfl (lv_at hl 0 rfl) ?_
                  refine x_get (T := TX5) (N := 17) hx hb hts uX5 hown hK hP (i := 53) (by omega) (show ew89 53 = .inr (5, [.ref (ad 54), .ref (ad 55), .ref (ad 56), .ref (ad 57), .ref (ad 58), .int (xI M.rowMany), .ref (ad 59), .ref (ad 60), .ref (ad 61), .ref (ad 62), .int (xI M.parts), .ref (ad 63), .ref (ad 64), .ref (ad 65), .ref (ad 66), .ref (ad 67), .long M.h]) from hM.1) rfl 0 (by decide) u_fl_RX5_7 rfl dX5_edit_102 ?_
                  refine lv_iload hx hb dX5_edit_105 (lv_at hl 6 rfl) ?_
                  refine lv_iload hx hb dX5_edit_107 (lv_at hl 7 rfl) ?_
                  refine x_iadd hx hb dX5_edit_109 ?_
                  refine lv_iload hx hb dX5_edit_110 (lv_at hl 5 rfl) ?_
                  refine x_iadd hx hb dX5_edit_112 ?_
                  refine lv_aload_n hx hb dX5_edit_113 rfl (lv_at hl 0 rfl) ?_
                  refine x_get (T := TX5) (N := 17) hx hb hts uX5 hown hK hP (i := 53) (by omega) (show ew89 53 = .inr (5, [.ref (ad 54), .ref (ad 55), .ref (ad 56), .ref (ad 57), .ref (ad 58), .int (xI M.rowMany), .ref (ad 59), .ref (ad 60), .ref (ad 61), .ref (ad 62), .int (xI M.parts), .ref (ad 63), .ref (ad 64), .ref (ad 65), .ref (ad 66), .ref (ad 67), .long M.h]) from hM.1) rfl 0 (by decide) u_fl_RX5_7 rfl dX5_edit_114 ?_
                  refine lv_iload hx hb dX5_edit_117 (lv_at hl 6 rfl) ?_
                  refine lv_iload hx hb dX5_edit_119 (lv_at hl 7 rfl) ?_
                  refine x_iadd hx hb dX5_edit_121 ?_
                  refine x_ild hx hb hK hP (i := 54) (by omega) hM.2.1 (x := F2 ((200 * b) + K)) (by omega) (congrArg (fun q => xI (F2 q)) (show Int.toNat ((200 * (b : Int)) + (K : Int)) = (200 * b) + K by omega)) dX5_edit_122 ?_
                  refine x_ist hx hb hK hP hD hS (i := 54) (by omega) hM.2.1 (by omega) dX5_edit_123 (fun H locs hP hS => ?_)
                  obtain ⟨en5, he5⟩ : ∃ z, z = va_up ew89 54 (.inl (cA 0, 800, .inl (upd (fun k => xI (F2 k)) (Int.toNat (((200 * (b : Int)) + (K : Int)) + w9)) (xI (F2 ((200 * b) + K)))))) := ⟨_, rfl⟩
                  have hP : va_P D vwCl (xw n ad en5) H := by rw [he5]; exact hP
                  have hM : MW cA ad en5 (mO (sp_up F2 (Int.toNat (((200 * (b : Int)) + (K : Int)) + w9)) (F2 ((200 * b) + K))) M.builtMany M.told M.toldMany M.row M.rowMany M.figures M.partText M.partFrom M.partMany M.parts M.cut M.cutMany M.isCut M.cutGives M.cutAt M.h) := by rw [he5]; exact hM.u_built (Int.toNat (((200 * (b : Int)) + (K : Int)) + w9)) (F2 ((200 * b) + K))
                  have ho : xO 53 68 en en5 := by rw [he5]; exact ho.up (by omega) (by omega)
                  refine x_iinc (lv' := [(7, .int (xI ((K : Int) + 1))), (0, .ref (ad 53)), (1, .int (xI (b : Int))), (2, .int (xI (a : Int))), (3, .int (xI (d : Int))), (4, .int (xI (m9 : Int))), (5, .int (xI w9)), (6, .int (xI (200 * (b : Int))))]) (k := 7) hx hb dX5_edit_124 hl rfl (by decide) rfl (fun ls hl => ?_)
                  refine lv_goto (tgt := 89) hx hb dX5_edit_127 (by decide) ?_
                  exact ih (K + 1) _ en5 _ _ (by omega) (fun p => by
      by_cases q : p = Int.toNat (((200 * (b : Int)) + (K : Int)) + w9)
      · rw [q, sp_up_s, (hF2 _).2 (by omega)]
        exact ⟨fun _ => congrArg M.built (by omega), fun h => absurd (by omega) h⟩
      · rw [sp_up_n _ _ q]
        exact ⟨fun h => (hF2 p).1 (by omega), fun h => (hF2 p).2 (by omega)⟩) (by omega) hM ho hP hS ls (lv_sub hl [1, 2, 3, 4, 5, 6, 7, 0] rfl)
          exact L89 _ d F ew46 _ _ (by omega) (fun p => ⟨fun h => (hF p).1 (by omega), fun h => (hF p).2 (by omega)⟩) (Nat.lt_succ_self _) hM ho hP hS ls (lv_sub hl [1, 2, 3, 4, 5, 6, 7, 0] rfl)
        · refine lv_iload hx hb dX5_edit_52 (lv_at hl 5 rfl) ?_
          refine x_if_le (tgt := 86) hx hb dX5_edit_54 (by decide) (by omega) (fun c_54 => ?_) (fun c_54 => ?_)
          · refine lv_iload_n hx hb dX5_edit_86 rfl (lv_at hl 3 rfl) ?_
            refine lv_istore (lv' := [(7, .int (xI (d : Int))), (0, .ref (ad 53)), (1, .int (xI (b : Int))), (2, .int (xI (a : Int))), (3, .int (xI (d : Int))), (4, .int (xI (m9 : Int))), (5, .int (xI w9)), (6, .int (xI (200 * (b : Int))))]) hx hb dX5_edit_87 hl (by decide) rfl (fun ls hl => ?_)
            have L89 : ∀ (nn : Nat) (K : Nat) (F2 : Nat → Int) (ew89 : Nat → va_E) (H : Heap) (locs : List Loc), (d ≤ K ∧ K ≤ m9) → (∀ p : Nat, (((0 < w9 ∧ 200 * (b : Int) + (d : Int) + w9 ≤ (p : Int) ∧ (p : Int) < 200 * (b : Int) + (m9 : Int) + w9) ∨ (w9 < 0 ∧ 200 * (b : Int) + (d : Int) + w9 ≤ (p : Int) ∧ (p : Int) < 200 * (b : Int) + (K : Int) + w9)) → F2 p = M.built (Int.toNat ((p : Int) - w9))) ∧ (¬ ((0 < w9 ∧ 200 * (b : Int) + (d : Int) + w9 ≤ (p : Int) ∧ (p : Int) < 200 * (b : Int) + (m9 : Int) + w9) ∨ (w9 < 0 ∧ 200 * (b : Int) + (d : Int) + w9 ≤ (p : Int) ∧ (p : Int) < 200 * (b : Int) + (K : Int) + w9)) → F2 p = M.built p)) → (m9 - K) < nn → (MW cA ad ew89 (mO F2 M.builtMany M.told M.toldMany M.row M.rowMany M.figures M.partText M.partFrom M.partMany M.parts M.cut M.cutMany M.isCut M.cutGives M.cutAt M.h)) → (xO 53 68 en ew89) → va_P D vwCl (xw n ad ew89) H → va_S (xA n ad sz) s.heap H locs → ∀ ls : Array Slot, lv_has ls 8 [(0, .ref (ad 53)), (1, .int (xI (b : Int))), (2, .int (xI (a : Int))), (3, .int (xI (d : Int))), (4, .int (xI (m9 : Int))), (5, .int (xI w9)), (6, .int (xI (200 * (b : Int)))), (7, .int (xI (K : Int)))] → W p l e (xrm 0 0) s mm args below meth c H locs 0 0 (MQ below (va_Qi (fun r u => (200 < (m9 : Int) - ((d : Int) - (a : Int)) + (k9 : Int) ∧ r = xI (-1007) ∧ u = en) ∨ ((m9 : Int) - ((d : Int) - (a : Int)) + (k9 : Int) ≤ 200 ∧ ∃ (z : Int) (F : Nat → Int), r = xI z ∧ z = (m9 : Int) - ((d : Int) - (a : Int)) + (k9 : Int) ∧ (∀ j : Nat, j < m9 - (d - a) + k9 → F (200 * b + j) = sp_ed (fun q => M.built (200 * b + q)) a d M.row 0 k9 j) ∧ (∀ j : Nat, j < 200 * b ∨ 200 * b + 200 ≤ j → F j = M.built j) ∧ MW cA ad u (mO F (sp_up M.builtMany b z) M.told M.toldMany M.row M.rowMany M.figures M.partText M.partFrom M.partMany M.parts M.cut M.cutMany M.isCut M.cutGives M.cutAt M.h) ∧ xO 53 68 en u)) (xE D n ad) (xA n ad sz)) args s 0 0 (xA n ad sz)) (F0 mm 89 ls []) := by
              intro nn
              induction nn with
              | zero =>
                intro K F2 ew89 H locs hk8 hF2 hmm hM ho hP hS ls hl
                exact absurd hmm (Nat.not_lt_zero _)
              | succ nn ih =>
                intro K F2 ew89 H locs hk8 hF2 hmm hM ho hP hS ls hl
                refine lv_iload hx hb dX5_edit_89 (lv_at hl 7 rfl) ?_
                refine lv_iload hx hb dX5_edit_91 (lv_at hl 4 rfl) ?_
                refine x_icmp_ge (tgt := 130) hx hb dX5_edit_93 (by decide) (by omega) (fun c_93 => ?_) (fun c_93 => ?_)
                · refine x_iconst hx hb dX5_edit_130 ?_
                  refine lv_istore (lv' := [(7, .int (xI 0)), (0, .ref (ad 53)), (1, .int (xI (b : Int))), (2, .int (xI (a : Int))), (3, .int (xI (d : Int))), (4, .int (xI (m9 : Int))), (5, .int (xI w9)), (6, .int (xI (200 * (b : Int))))]) hx hb dX5_edit_131 hl (by decide) rfl (fun ls hl => ?_)
                  have L133 : ∀ (nn : Nat) (J : Nat) (F3 : Nat → Int) (ew133 : Nat → va_E) (H : Heap) (locs : List Loc), (J ≤ k9) → ((∀ i : Nat, i < J → F3 (200 * b + a + i) = M.row i) ∧ ∀ p : Nat, p < 200 * b + a ∨ 200 * b + a + J ≤ p → F3 p = F2 p) → (k9 - J) < nn → (MW cA ad ew133 (mO F3 M.builtMany M.told M.toldMany M.row M.rowMany M.figures M.partText M.partFrom M.partMany M.parts M.cut M.cutMany M.isCut M.cutGives M.cutAt M.h)) → (xO 53 68 en ew133) → va_P D vwCl (xw n ad ew133) H → va_S (xA n ad sz) s.heap H locs → ∀ ls : Array Slot, lv_has ls 8 [(0, .ref (ad 53)), (1, .int (xI (b : Int))), (2, .int (xI (a : Int))), (3, .int (xI (d : Int))), (4, .int (xI (m9 : Int))), (5, .int (xI w9)), (6, .int (xI (200 * (b : Int)))), (7, .int (xI (J : Int)))] → W p l e (xrm 0 0) s mm args below meth c H locs 0 0 (MQ below (va_Qi (fun r u => (200 < (m9 : Int) - ((d : Int) - (a : Int)) + (k9 : Int) ∧ r = xI (-1007) ∧ u = en) ∨ ((m9 : Int) - ((d : Int) - (a : Int)) + (k9 : Int) ≤ 200 ∧ ∃ (z : Int) (F : Nat → Int), r = xI z ∧ z = (m9 : Int) - ((d : Int) - (a : Int)) + (k9 : Int) ∧ (∀ j : Nat, j < m9 - (d - a) + k9 → F (200 * b + j) = sp_ed (fun q => M.built (200 * b + q)) a d M.row 0 k9 j) ∧ (∀ j : Nat, j < 200 * b ∨ 200 * b + 200 ≤ j → F j = M.built j) ∧ MW cA ad u (mO F (sp_up M.builtMany b z) M.told M.toldMany M.row M.rowMany M.figures M.partText M.partFrom M.partMany M.parts M.cut M.cutMany M.isCut M.cutGives M.cutAt M.h) ∧ xO 53 68 en u)) (xE D n ad) (xA n ad sz)) args s 0 0 (xA n ad sz)) (F0 mm 133 ls []) := by
                    intro nn
                    induction nn with
                    | zero =>
                      intro J F3 ew133 H locs hj8 hF3 hmm hM ho hP hS ls hl
                      exact absurd hmm (Nat.not_lt_zero _)
                    | succ nn ih =>
                      intro J F3 ew133 H locs hj8 hF3 hmm hM ho hP hS ls hl
                      refine lv_iload hx hb dX5_edit_133 (lv_at hl 7 rfl) ?_
                      refine lv_aload_n hx hb dX5_edit_135 rfl (lv_at hl 0 rfl) ?_
                      refine x_get (T := TX5) (N := 17) hx hb hts uX5 hown hK hP (i := 53) (by omega) (show ew133 53 = .inr (5, [.ref (ad 54), .ref (ad 55), .ref (ad 56), .ref (ad 57), .ref (ad 58), .int (xI M.rowMany), .ref (ad 59), .ref (ad 60), .ref (ad 61), .ref (ad 62), .int (xI M.parts), .ref (ad 63), .ref (ad 64), .ref (ad 65), .ref (ad 66), .ref (ad 67), .long M.h]) from hM.1) rfl 5 (by decide) u_fl_RX5_62 rfl dX5_edit_136 ?_
                      refine x_icmp_ge (tgt := 167) hx hb dX5_edit_139 (by decide) (by omega) (fun c_139 => ?_) (fun c_139 => ?_)
                      · refine lv_aload_n hx hb dX5_edit_167 rfl (lv_at hl 0 rfl) ?_
                        refine x_get (T := TX5) (N := 17) hx hb hts uX5 hown hK hP (i := 53) (by omega) (show ew133 53 = .inr (5, [.ref (ad 54), .ref (ad 55), .ref (ad 56), .ref (ad 57), .ref (ad 58), .int (xI M.rowMany), .ref (ad 59), .ref (ad 60), .ref (ad 61), .ref (ad 62), .int (xI M.parts), .ref (ad 63), .ref (ad 64), .ref (ad 65), .ref (ad 66), .ref (ad 67), .long M.h]) from hM.1) rfl 1 (by decide) u_fl_RX5_13 rfl dX5_edit_168 ?_
                        refine lv_iload_n hx hb dX5_edit_171 rfl (lv_at hl 1 rfl) ?_
                        refine lv_iload hx hb dX5_edit_172 (lv_at hl 4 rfl) ?_
                        refine lv_iload hx hb dX5_edit_174 (lv_at hl 5 rfl) ?_
                        refine x_iadd hx hb dX5_edit_176 ?_
                        refine x_ist hx hb hK hP hD hS (i := 55) (by omega) hM.2.2.1 (by omega) dX5_edit_177 (fun H locs hP hS => ?_)
                        obtain ⟨en6, he6⟩ : ∃ z, z = va_up ew133 55 (.inl (cA 0, 4, .inl (upd (fun k => xI (M.builtMany k)) b (xI ((m9 : Int) + w9))))) := ⟨_, rfl⟩
                        have hP : va_P D vwCl (xw n ad en6) H := by rw [he6]; exact hP
                        have hM : MW cA ad en6 (mO F3 (sp_up M.builtMany b ((m9 : Int) + w9)) M.told M.toldMany M.row M.rowMany M.figures M.partText M.partFrom M.partMany M.parts M.cut M.cutMany M.isCut M.cutGives M.cutAt M.h) := by rw [he6]; exact hM.u_builtMany b ((m9 : Int) + w9)
                        have ho : xO 53 68 en en6 := by rw [he6]; exact ho.up (by omega) (by omega)
                        refine lv_aload_n hx hb dX5_edit_178 rfl (lv_at hl 0 rfl) ?_
                        refine x_get (T := TX5) (N := 17) hx hb hts uX5 hown hK hP (i := 53) (by omega) (show en6 53 = .inr (5, [.ref (ad 54), .ref (ad 55), .ref (ad 56), .ref (ad 57), .ref (ad 58), .int (xI M.rowMany), .ref (ad 59), .ref (ad 60), .ref (ad 61), .ref (ad 62), .int (xI M.parts), .ref (ad 63), .ref (ad 64), .ref (ad 65), .ref (ad 66), .ref (ad 67), .long M.h]) from hM.1) rfl 1 (by decide) u_fl_RX5_13 rfl dX5_edit_179 ?_
                        refine lv_iload_n hx hb dX5_edit_182 rfl (lv_at hl 1 rfl) ?_
                        refine x_ild hx hb hK hP (i := 55) (by omega) hM.2.2.1 (x := (sp_up M.builtMany b ((m9 : Int) + w9)) b) (by omega) (rfl) dX5_edit_183 ?_
                        exact xe_i hx hb hrt hlocks hP hS (Or.inr ⟨by omega, _, F3, congrArg xI (sp_up_s _ _ _), by omega, fun j hj => by
      have e1 := hF3.2 (200 * b + j)
      have e2 := hF2 (200 * b + j)
      show F3 (200 * b + j) = if j < a then M.built (200 * b + j) else if j < a + k9 then M.row (0 + (j - a)) else M.built (200 * b + (j - (a + k9) + d))
      by_cases q1 : j < a
      · rw [if_pos q1, e1 (by omega)]; exact e2.2 (by omega)
      · rw [if_neg q1]
        by_cases q2 : j < a + k9
        · rw [if_pos q2]
          have e3 := hF3.1 (j - a) (by omega)
          rw [show 200 * b + a + (j - a) = 200 * b + j by omega] at e3
          rw [e3, Nat.zero_add]
        · rw [if_neg q2, e1 (by omega)]
          by_cases q3 : w9 = 0
          · rw [e2.2 (by omega)]; exact congrArg M.built (by omega)
          · rw [e2.1 (by omega)]; exact congrArg M.built (by omega), fun j hj => by
      rw [hF3.2 j (by omega)]; exact (hF2 j).2 (by omega), hM, ho⟩) dX5_edit_184
                      · refine lv_aload_n hx hb dX5_edit_142 rfl (lv_at hl 0 rfl) ?_
                        refine x_get (T := TX5) (N := 17) hx hb hts uX5 hown hK hP (i := 53) (by omega) (show ew133 53 = .inr (5, [.ref (ad 54), .ref (ad 55), .ref (ad 56), .ref (ad 57), .ref (ad 58), .int (xI M.rowMany), .ref (ad 59), .ref (ad 60), .ref (ad 61), .ref (ad 62), .int (xI M.parts), .ref (ad 63), .ref (ad 64), .ref (ad 65), .ref (ad 66), .ref (ad 67), .long M.h]) from hM.1) rfl 0 (by decide) u_fl_RX5_7 rfl dX5_edit_143 ?_
                        refine lv_iload hx hb dX5_edit_146 (lv_at hl 6 rfl) ?_
                        refine lv_iload_n hx hb dX5_edit_148 rfl (lv_at hl 2 rfl) ?_
                        refine x_iadd hx hb dX5_edit_149 ?_
                        refine lv_iload hx hb dX5_edit_150 (lv_at hl 7 rfl) ?_
                        refine x_iadd hx hb dX5_edit_152 ?_
                        refine lv_aload_n hx hb dX5_edit_153 rfl (lv_at hl 0 rfl) ?_
                        refine x_get (T := TX5) (N := 17) hx hb hts uX5 hown hK hP (i := 53) (by omega) (show ew133 53 = .inr (5, [.ref (ad 54), .ref (ad 55), .ref (ad 56), .ref (ad 57), .ref (ad 58), .int (xI M.rowMany), .ref (ad 59), .ref (ad 60), .ref (ad 61), .ref (ad 62), .int (xI M.parts), .ref (ad 63), .ref (ad 64), .ref (ad 65), .ref (ad 66), .ref (ad 67), .long M.h]) from hM.1) rfl 4 (by decide) u_fl_RX5_22 rfl dX5_edit_154 ?_
                        refine lv_iload hx hb dX5_edit_157 (lv_at hl 7 rfl) ?_
                        refine x_ild hx hb hK hP (i := 58) (by omega) hM.2.2.2.2.2.1 (x := M.row J) (by omega) (rfl) dX5_edit_159 ?_
                        refine x_ist hx hb hK hP hD hS (i := 54) (by omega) hM.2.1 (by omega) dX5_edit_160 (fun H locs hP hS => ?_)
                        obtain ⟨en7, he7⟩ : ∃ z, z = va_up ew133 54 (.inl (cA 0, 800, .inl (upd (fun k => xI (F3 k)) (((200 * b) + a) + J) (xI (M.row J))))) := ⟨_, rfl⟩
                        have hP : va_P D vwCl (xw n ad en7) H := by rw [he7, show ((200 * b) + a) + J = (Int.toNat (((200 * (b : Int)) + (a : Int)) + (J : Int))) by omega]; exact hP
                        have hM : MW cA ad en7 (mO (sp_up F3 (((200 * b) + a) + J) (M.row J)) M.builtMany M.told M.toldMany M.row M.rowMany M.figures M.partText M.partFrom M.partMany M.parts M.cut M.cutMany M.isCut M.cutGives M.cutAt M.h) := by rw [he7]; exact hM.u_built (((200 * b) + a) + J) (M.row J)
                        have ho : xO 53 68 en en7 := by rw [he7]; exact ho.up (by omega) (by omega)
                        refine x_iinc (lv' := [(7, .int (xI ((J : Int) + 1))), (0, .ref (ad 53)), (1, .int (xI (b : Int))), (2, .int (xI (a : Int))), (3, .int (xI (d : Int))), (4, .int (xI (m9 : Int))), (5, .int (xI w9)), (6, .int (xI (200 * (b : Int))))]) (k := 7) hx hb dX5_edit_161 hl rfl (by decide) rfl (fun ls hl => ?_)
                        refine lv_goto (tgt := 133) hx hb dX5_edit_164 (by decide) ?_
                        exact ih (J + 1) _ en7 _ _ (by omega) (⟨fun i hi => by
      by_cases q : i = J
      · rw [q, sp_up_s]
      · rw [sp_up_n _ _ (by omega)]; exact hF3.1 i (by omega), fun p hp => by
      rw [sp_up_n _ _ (by omega)]; exact hF3.2 p (by omega)⟩) (by omega) hM ho hP hS ls (lv_sub hl [1, 2, 3, 4, 5, 6, 7, 0] rfl)
                  exact L133 _ 0 F2 ew89 _ _ (Nat.zero_le _) (⟨fun i hi => absurd hi (Nat.not_lt_zero _), fun p _ => rfl⟩) (Nat.lt_succ_self _) hM ho hP hS ls (lv_sub hl [1, 2, 3, 4, 5, 6, 7, 0] rfl)
                · refine lv_iload hx hb dX5_edit_96 (lv_at hl 5 rfl) ?_
                  refine x_if_ge (tgt := 130) hx hb dX5_edit_98 (by decide) (by omega) (fun c_98 => ?_) (fun c_98 => ?_)
                  · refine x_iconst hx hb dX5_edit_130 ?_
                    refine lv_istore (lv' := [(7, .int (xI 0)), (0, .ref (ad 53)), (1, .int (xI (b : Int))), (2, .int (xI (a : Int))), (3, .int (xI (d : Int))), (4, .int (xI (m9 : Int))), (5, .int (xI w9)), (6, .int (xI (200 * (b : Int))))]) hx hb dX5_edit_131 hl (by decide) rfl (fun ls hl => ?_)
                    have L133 : ∀ (nn : Nat) (J : Nat) (F3 : Nat → Int) (ew133 : Nat → va_E) (H : Heap) (locs : List Loc), (J ≤ k9) → ((∀ i : Nat, i < J → F3 (200 * b + a + i) = M.row i) ∧ ∀ p : Nat, p < 200 * b + a ∨ 200 * b + a + J ≤ p → F3 p = F2 p) → (k9 - J) < nn → (MW cA ad ew133 (mO F3 M.builtMany M.told M.toldMany M.row M.rowMany M.figures M.partText M.partFrom M.partMany M.parts M.cut M.cutMany M.isCut M.cutGives M.cutAt M.h)) → (xO 53 68 en ew133) → va_P D vwCl (xw n ad ew133) H → va_S (xA n ad sz) s.heap H locs → ∀ ls : Array Slot, lv_has ls 8 [(0, .ref (ad 53)), (1, .int (xI (b : Int))), (2, .int (xI (a : Int))), (3, .int (xI (d : Int))), (4, .int (xI (m9 : Int))), (5, .int (xI w9)), (6, .int (xI (200 * (b : Int)))), (7, .int (xI (J : Int)))] → W p l e (xrm 0 0) s mm args below meth c H locs 0 0 (MQ below (va_Qi (fun r u => (200 < (m9 : Int) - ((d : Int) - (a : Int)) + (k9 : Int) ∧ r = xI (-1007) ∧ u = en) ∨ ((m9 : Int) - ((d : Int) - (a : Int)) + (k9 : Int) ≤ 200 ∧ ∃ (z : Int) (F : Nat → Int), r = xI z ∧ z = (m9 : Int) - ((d : Int) - (a : Int)) + (k9 : Int) ∧ (∀ j : Nat, j < m9 - (d - a) + k9 → F (200 * b + j) = sp_ed (fun q => M.built (200 * b + q)) a d M.row 0 k9 j) ∧ (∀ j : Nat, j < 200 * b ∨ 200 * b + 200 ≤ j → F j = M.built j) ∧ MW cA ad u (mO F (sp_up M.builtMany b z) M.told M.toldMany M.row M.rowMany M.figures M.partText M.partFrom M.partMany M.parts M.cut M.cutMany M.isCut M.cutGives M.cutAt M.h) ∧ xO 53 68 en u)) (xE D n ad) (xA n ad sz)) args s 0 0 (xA n ad sz)) (F0 mm 133 ls []) := by
                      intro nn
                      induction nn with
                      | zero =>
                        intro J F3 ew133 H locs hj8 hF3 hmm hM ho hP hS ls hl
                        exact absurd hmm (Nat.not_lt_zero _)
                      | succ nn ih =>
                        intro J F3 ew133 H locs hj8 hF3 hmm hM ho hP hS ls hl
                        refine lv_iload hx hb dX5_edit_133 (lv_at hl 7 rfl) ?_
                        refine lv_aload_n hx hb dX5_edit_135 rfl (lv_at hl 0 rfl) ?_
                        refine x_get (T := TX5) (N := 17) hx hb hts uX5 hown hK hP (i := 53) (by omega) (show ew133 53 = .inr (5, [.ref (ad 54), .ref (ad 55), .ref (ad 56), .ref (ad 57), .ref (ad 58), .int (xI M.rowMany), .ref (ad 59), .ref (ad 60), .ref (ad 61), .ref (ad 62), .int (xI M.parts), .ref (ad 63), .ref (ad 64), .ref (ad 65), .ref (ad 66), .ref (ad 67), .long M.h]) from hM.1) rfl 5 (by decide) u_fl_RX5_62 rfl dX5_edit_136 ?_
                        refine x_icmp_ge (tgt := 167) hx hb dX5_edit_139 (by decide) (by omega) (fun c_139 => ?_) (fun c_139 => ?_)
                        · refine lv_aload_n hx hb dX5_edit_167 rfl (lv_at hl 0 rfl) ?_
                          refine x_get (T := TX5) (N := 17) hx hb hts uX5 hown hK hP (i := 53) (by omega) (show ew133 53 = .inr (5, [.ref (ad 54), .ref (ad 55), .ref (ad 56), .ref (ad 57), .ref (ad 58), .int (xI M.rowMany), .ref (ad 59), .ref (ad 60), .ref (ad 61), .ref (ad 62), .int (xI M.parts), .ref (ad 63), .ref (ad 64), .ref (ad 65), .ref (ad 66), .ref (ad 67), .long M.h]) from hM.1) rfl 1 (by decide) u_fl_RX5_13 rfl dX5_edit_168 ?_
                          refine lv_iload_n hx hb dX5_edit_171 rfl (lv_at hl 1 rfl) ?_
                          refine lv_iload hx hb dX5_edit_172 (lv_at hl 4 rfl) ?_
                          refine lv_iload hx hb dX5_edit_174 (lv_at hl 5 rfl) ?_
                          refine x_iadd hx hb dX5_edit_176 ?_
                          refine x_ist hx hb hK hP hD hS (i := 55) (by omega) hM.2.2.1 (by omega) dX5_edit_177 (fun H locs hP hS => ?_)
                          obtain ⟨en8, he8⟩ : ∃ z, z = va_up ew133 55 (.inl (cA 0, 4, .inl (upd (fun k => xI (M.builtMany k)) b (xI ((m9 : Int) + w9))))) := ⟨_, rfl⟩
                          have hP : va_P D vwCl (xw n ad en8) H := by rw [he8]; exact hP
                          have hM : MW cA ad en8 (mO F3 (sp_up M.builtMany b ((m9 : Int) + w9)) M.told M.toldMany M.row M.rowMany M.figures M.partText M.partFrom M.partMany M.parts M.cut M.cutMany M.isCut M.cutGives M.cutAt M.h) := by rw [he8]; exact hM.u_builtMany b ((m9 : Int) + w9)
                          have ho : xO 53 68 en en8 := by rw [he8]; exact ho.up (by omega) (by omega)
                          refine lv_aload_n hx hb dX5_edit_178 rfl (lv_at hl 0 rfl) ?_
                          refine x_get (T := TX5) (N := 17) hx hb hts uX5 hown hK hP (i := 53) (by omega) (show en8 53 = .inr (5, [.ref (ad 54), .ref (ad 55), .ref (ad 56), .ref (ad 57), .ref (ad 58), .int (xI M.rowMany), .ref (ad 59), .ref (ad 60), .ref (ad 61), .ref (ad 62), .int (xI M.parts), .ref (ad 63), .ref (ad 64), .ref (ad 65), .ref (ad 66), .ref (ad 67), .long M.h]) from hM.1) rfl 1 (by decide) u_fl_RX5_13 rfl dX5_edit_179 ?_
                          refine lv_iload_n hx hb dX5_edit_182 rfl (lv_at hl 1 rfl) ?_
                          refine x_ild hx hb hK hP (i := 55) (by omega) hM.2.2.1 (x := (sp_up M.builtMany b ((m9 : Int) + w9)) b) (by omega) (rfl) dX5_edit_183 ?_
                          exact xe_i hx hb hrt hlocks hP hS (Or.inr ⟨by omega, _, F3, congrArg xI (sp_up_s _ _ _), by omega, fun j hj => by
      have e1 := hF3.2 (200 * b + j)
      have e2 := hF2 (200 * b + j)
      show F3 (200 * b + j) = if j < a then M.built (200 * b + j) else if j < a + k9 then M.row (0 + (j - a)) else M.built (200 * b + (j - (a + k9) + d))
      by_cases q1 : j < a
      · rw [if_pos q1, e1 (by omega)]; exact e2.2 (by omega)
      · rw [if_neg q1]
        by_cases q2 : j < a + k9
        · rw [if_pos q2]
          have e3 := hF3.1 (j - a) (by omega)
          rw [show 200 * b + a + (j - a) = 200 * b + j by omega] at e3
          rw [e3, Nat.zero_add]
        · rw [if_neg q2, e1 (by omega)]
          by_cases q3 : w9 = 0
          · rw [e2.2 (by omega)]; exact congrArg M.built (by omega)
          · rw [e2.1 (by omega)]; exact congrArg M.built (by omega), fun j hj => by
      rw [hF3.2 j (by omega)]; exact (hF2 j).2 (by omega), hM, ho⟩) dX5_edit_184
                        · refine lv_aload_n hx hb dX5_edit_142 rfl (lv_at hl 0 rfl) ?_
                          refine x_get (T := TX5) (N := 17) hx hb hts uX5 hown hK hP (i := 53) (by omega) (show ew133 53 = .inr (5, [.ref (ad 54), .ref (ad 55), .ref (ad 56), .ref (ad 57), .ref (ad 58), .int (xI M.rowMany), .ref (ad 59), .ref (ad 60), .ref (ad 61), .ref (ad 62), .int (xI M.parts), .ref (ad 63), .ref (ad 64), .ref (ad 65), .ref (ad 66), .ref (ad 67), .long M.h]) from hM.1) rfl 0 (by decide) u_fl_RX5_7 rfl dX5_edit_143 ?_
                          refine lv_iload hx hb dX5_edit_146 (lv_at hl 6 rfl) ?_
                          refine lv_iload_n hx hb dX5_edit_148 rfl (lv_at hl 2 rfl) ?_
                          refine x_iadd hx hb dX5_edit_149 ?_
                          refine lv_iload hx hb dX5_edit_150 (lv_at hl 7 rfl) ?_
                          refine x_iadd hx hb dX5_edit_152 ?_
                          refine lv_aload_n hx hb dX5_edit_153 rfl (lv_at hl 0 rfl) ?_
                          refine x_get (T := TX5) (N := 17) hx hb hts uX5 hown hK hP (i := 53) (by omega) (show ew133 53 = .inr (5, [.ref (ad 54), .ref (ad 55), .ref (ad 56), .ref (ad 57), .ref (ad 58), .int (xI M.rowMany), .ref (ad 59), .ref (ad 60), .ref (ad 61), .ref (ad 62), .int (xI M.parts), .ref (ad 63), .ref (ad 64), .ref (ad 65), .ref (ad 66), .ref (ad 67), .long M.h]) from hM.1) rfl 4 (by decide) u_fl_RX5_22 rfl dX5_edit_154 ?_
                          refine lv_iload hx hb dX5_edit_157 (lv_at hl 7 rfl) ?_
                          refine x_ild hx hb hK hP (i := 58) (by omega) hM.2.2.2.2.2.1 (x := M.row J) (by omega) (rfl) dX5_edit_159 ?_
                          refine x_ist hx hb hK hP hD hS (i := 54) (by omega) hM.2.1 (by omega) dX5_edit_160 (fun H locs hP hS => ?_)
                          obtain ⟨en9, he9⟩ : ∃ z, z = va_up ew133 54 (.inl (cA 0, 800, .inl (upd (fun k => xI (F3 k)) (((200 * b) + a) + J) (xI (M.row J))))) := ⟨_, rfl⟩
                          have hP : va_P D vwCl (xw n ad en9) H := by rw [he9, show ((200 * b) + a) + J = (Int.toNat (((200 * (b : Int)) + (a : Int)) + (J : Int))) by omega]; exact hP
                          have hM : MW cA ad en9 (mO (sp_up F3 (((200 * b) + a) + J) (M.row J)) M.builtMany M.told M.toldMany M.row M.rowMany M.figures M.partText M.partFrom M.partMany M.parts M.cut M.cutMany M.isCut M.cutGives M.cutAt M.h) := by rw [he9]; exact hM.u_built (((200 * b) + a) + J) (M.row J)
                          have ho : xO 53 68 en en9 := by rw [he9]; exact ho.up (by omega) (by omega)
                          refine x_iinc (lv' := [(7, .int (xI ((J : Int) + 1))), (0, .ref (ad 53)), (1, .int (xI (b : Int))), (2, .int (xI (a : Int))), (3, .int (xI (d : Int))), (4, .int (xI (m9 : Int))), (5, .int (xI w9)), (6, .int (xI (200 * (b : Int))))]) (k := 7) hx hb dX5_edit_161 hl rfl (by decide) rfl (fun ls hl => ?_)
                          refine lv_goto (tgt := 133) hx hb dX5_edit_164 (by decide) ?_
                          exact ih (J + 1) _ en9 _ _ (by omega) (⟨fun i hi => by
      by_cases q : i = J
      · rw [q, sp_up_s]
      · rw [sp_up_n _ _ (by omega)]; exact hF3.1 i (by omega), fun p hp => by
      rw [sp_up_n _ _ (by omega)]; exact hF3.2 p (by omega)⟩) (by omega) hM ho hP hS ls (lv_sub hl [1, 2, 3, 4, 5, 6, 7, 0] rfl)
                    exact L133 _ 0 F2 ew89 _ _ (Nat.zero_le _) (⟨fun i hi => absurd hi (Nat.not_lt_zero _), fun p _ => rfl⟩) (Nat.lt_succ_self _) hM ho hP hS ls (lv_sub hl [1, 2, 3, 4, 5, 6, 7, 0] rfl)
                  · refine lv_aload_n hx hb dX5_edit_101 rfl (lv_at hl 0 rfl) ?_
                    refine x_get (T := TX5) (N := 17) hx hb hts uX5 hown hK hP (i := 53) (by omega) (show ew89 53 = .inr (5, [.ref (ad 54), .ref (ad 55), .ref (ad 56), .ref (ad 57), .ref (ad 58), .int (xI M.rowMany), .ref (ad 59), .ref (ad 60), .ref (ad 61), .ref (ad 62), .int (xI M.parts), .ref (ad 63), .ref (ad 64), .ref (ad 65), .ref (ad 66), .ref (ad 67), .long M.h]) from hM.1) rfl 0 (by decide) u_fl_RX5_7 rfl dX5_edit_102 ?_
                    refine lv_iload hx hb dX5_edit_105 (lv_at hl 6 rfl) ?_
                    refine lv_iload hx hb dX5_edit_107 (lv_at hl 7 rfl) ?_
                    refine x_iadd hx hb dX5_edit_109 ?_
                    refine lv_iload hx hb dX5_edit_110 (lv_at hl 5 rfl) ?_
                    refine x_iadd hx hb dX5_edit_112 ?_
                    refine lv_aload_n hx hb dX5_edit_113 rfl (lv_at hl 0 rfl) ?_
                    refine x_get (T := TX5) (N := 17) hx hb hts uX5 hown hK hP (i := 53) (by omega) (show ew89 53 = .inr (5, [.ref (ad 54), .ref (ad 55), .ref (ad 56), .ref (ad 57), .ref (ad 58), .int (xI M.rowMany), .ref (ad 59), .ref (ad 60), .ref (ad 61), .ref (ad 62), .int (xI M.parts), .ref (ad 63), .ref (ad 64), .ref (ad 65), .ref (ad 66), .ref (ad 67), .long M.h]) from hM.1) rfl 0 (by decide) u_fl_RX5_7 rfl dX5_edit_114 ?_
                    refine lv_iload hx hb dX5_edit_117 (lv_at hl 6 rfl) ?_
                    refine lv_iload hx hb dX5_edit_119 (lv_at hl 7 rfl) ?_
                    refine x_iadd hx hb dX5_edit_121 ?_
                    refine x_ild hx hb hK hP (i := 54) (by omega) hM.2.1 (x := F2 ((200 * b) + K)) (by omega) (congrArg (fun q => xI (F2 q)) (show Int.toNat ((200 * (b : Int)) + (K : Int)) = (200 * b) + K by omega)) dX5_edit_122 ?_
                    refine x_ist hx hb hK hP hD hS (i := 54) (by omega) hM.2.1 (by omega) dX5_edit_123 (fun H locs hP hS => ?_)
                    obtain ⟨en10, he10⟩ : ∃ z, z = va_up ew89 54 (.inl (cA 0, 800, .inl (upd (fun k => xI (F2 k)) (Int.toNat (((200 * (b : Int)) + (K : Int)) + w9)) (xI (F2 ((200 * b) + K)))))) := ⟨_, rfl⟩
                    have hP : va_P D vwCl (xw n ad en10) H := by rw [he10]; exact hP
                    have hM : MW cA ad en10 (mO (sp_up F2 (Int.toNat (((200 * (b : Int)) + (K : Int)) + w9)) (F2 ((200 * b) + K))) M.builtMany M.told M.toldMany M.row M.rowMany M.figures M.partText M.partFrom M.partMany M.parts M.cut M.cutMany M.isCut M.cutGives M.cutAt M.h) := by rw [he10]; exact hM.u_built (Int.toNat (((200 * (b : Int)) + (K : Int)) + w9)) (F2 ((200 * b) + K))
                    have ho : xO 53 68 en en10 := by rw [he10]; exact ho.up (by omega) (by omega)
                    refine x_iinc (lv' := [(7, .int (xI ((K : Int) + 1))), (0, .ref (ad 53)), (1, .int (xI (b : Int))), (2, .int (xI (a : Int))), (3, .int (xI (d : Int))), (4, .int (xI (m9 : Int))), (5, .int (xI w9)), (6, .int (xI (200 * (b : Int))))]) (k := 7) hx hb dX5_edit_124 hl rfl (by decide) rfl (fun ls hl => ?_)
                    refine lv_goto (tgt := 89) hx hb dX5_edit_127 (by decide) ?_
                    exact ih (K + 1) _ en10 _ _ (by omega) (fun p => by
      by_cases q : p = Int.toNat (((200 * (b : Int)) + (K : Int)) + w9)
      · rw [q, sp_up_s, (hF2 _).2 (by omega)]
        exact ⟨fun _ => congrArg M.built (by omega), fun h => absurd (by omega) h⟩
      · rw [sp_up_n _ _ q]
        exact ⟨fun h => (hF2 p).1 (by omega), fun h => (hF2 p).2 (by omega)⟩) (by omega) hM ho hP hS ls (lv_sub hl [1, 2, 3, 4, 5, 6, 7, 0] rfl)
            exact L89 _ d F ew46 _ _ (by omega) (fun p => ⟨fun h => (hF p).1 (by omega), fun h => (hF p).2 (by omega)⟩) (Nat.lt_succ_self _) hM ho hP hS ls (lv_sub hl [1, 2, 3, 4, 5, 6, 7, 0] rfl)
          · refine lv_aload_n hx hb dX5_edit_57 rfl (lv_at hl 0 rfl) ?_
            refine x_get (T := TX5) (N := 17) hx hb hts uX5 hown hK hP (i := 53) (by omega) (show ew46 53 = .inr (5, [.ref (ad 54), .ref (ad 55), .ref (ad 56), .ref (ad 57), .ref (ad 58), .int (xI M.rowMany), .ref (ad 59), .ref (ad 60), .ref (ad 61), .ref (ad 62), .int (xI M.parts), .ref (ad 63), .ref (ad 64), .ref (ad 65), .ref (ad 66), .ref (ad 67), .long M.h]) from hM.1) rfl 0 (by decide) u_fl_RX5_7 rfl dX5_edit_58 ?_
            refine lv_iload hx hb dX5_edit_61 (lv_at hl 6 rfl) ?_
            refine lv_iload hx hb dX5_edit_63 (lv_at hl 7 rfl) ?_
            refine x_iadd hx hb dX5_edit_65 ?_
            refine lv_iload hx hb dX5_edit_66 (lv_at hl 5 rfl) ?_
            refine x_iadd hx hb dX5_edit_68 ?_
            refine lv_aload_n hx hb dX5_edit_69 rfl (lv_at hl 0 rfl) ?_
            refine x_get (T := TX5) (N := 17) hx hb hts uX5 hown hK hP (i := 53) (by omega) (show ew46 53 = .inr (5, [.ref (ad 54), .ref (ad 55), .ref (ad 56), .ref (ad 57), .ref (ad 58), .int (xI M.rowMany), .ref (ad 59), .ref (ad 60), .ref (ad 61), .ref (ad 62), .int (xI M.parts), .ref (ad 63), .ref (ad 64), .ref (ad 65), .ref (ad 66), .ref (ad 67), .long M.h]) from hM.1) rfl 0 (by decide) u_fl_RX5_7 rfl dX5_edit_70 ?_
            refine lv_iload hx hb dX5_edit_73 (lv_at hl 6 rfl) ?_
            refine lv_iload hx hb dX5_edit_75 (lv_at hl 7 rfl) ?_
            refine x_iadd hx hb dX5_edit_77 ?_
            refine x_ild hx hb hK hP (i := 54) (by omega) hM.2.1 (x := F (Int.toNat ((200 * (b : Int)) + K))) (by omega) (rfl) dX5_edit_78 ?_
            refine x_ist hx hb hK hP hD hS (i := 54) (by omega) hM.2.1 (by omega) dX5_edit_79 (fun H locs hP hS => ?_)
            obtain ⟨en11, he11⟩ : ∃ z, z = va_up ew46 54 (.inl (cA 0, 800, .inl (upd (fun k => xI (F k)) (Int.toNat (((200 * (b : Int)) + K) + w9)) (xI (F (Int.toNat ((200 * (b : Int)) + K))))))) := ⟨_, rfl⟩
            have hP : va_P D vwCl (xw n ad en11) H := by rw [he11]; exact hP
            have hM : MW cA ad en11 (mO (sp_up F (Int.toNat (((200 * (b : Int)) + K) + w9)) (F (Int.toNat ((200 * (b : Int)) + K)))) M.builtMany M.told M.toldMany M.row M.rowMany M.figures M.partText M.partFrom M.partMany M.parts M.cut M.cutMany M.isCut M.cutGives M.cutAt M.h) := by rw [he11]; exact hM.u_built (Int.toNat (((200 * (b : Int)) + K) + w9)) (F (Int.toNat ((200 * (b : Int)) + K)))
            have ho : xO 53 68 en en11 := by rw [he11]; exact ho.up (by omega) (by omega)
            refine x_iinc (lv' := [(7, .int (xI (K + (-1)))), (0, .ref (ad 53)), (1, .int (xI (b : Int))), (2, .int (xI (a : Int))), (3, .int (xI (d : Int))), (4, .int (xI (m9 : Int))), (5, .int (xI w9)), (6, .int (xI (200 * (b : Int))))]) (k := 7) hx hb dX5_edit_80 hl rfl (by decide) rfl (fun ls hl => ?_)
            refine lv_goto (tgt := 46) hx hb dX5_edit_83 (by decide) ?_
            exact ih (K - 1) _ en11 _ _ (by omega) (fun p => by
      by_cases q : p = Int.toNat (((200 * (b : Int)) + K) + w9)
      · rw [q, sp_up_s, (hF _).2 (by omega)]
        exact ⟨fun _ => congrArg M.built (by omega), fun h => absurd (by omega) h⟩
      · rw [sp_up_n _ _ q]
        exact ⟨fun h => (hF p).1 (by omega), fun h => (hF p).2 (by omega)⟩) (by omega) hM ho hP hS ls (lv_sub hl [1, 2, 3, 4, 5, 6, 7, 0] rfl)
    exact L46 _ ((m9 : Int) - 1) M.built en _ _ (by omega) (fun p => ⟨fun h => absurd h (by omega), fun _ => rfl⟩) (Nat.lt_succ_self _) hM ho hP hS ls (lv_sub hl [4, 5, 6, 7, 3, 2, 1, 0] rfl)
  · refine x_sipush hx hb dX5_edit_29 (by decide +kernel) ?_
    exact xe_i hx hb hrt hlocks hP hS (Or.inl ⟨by omega, rfl, rfl⟩) dX5_edit_32

set_option maxRecDepth 20000 in
theorem c_X5_append (l : Launch) (D : va_G) (cA : Nat → ClassId) (n : Nat) (ad : Nat → Nat) (en : Nat → va_E) (sz : Nat) (hn : 68 ≤ n) {M : MO} (hM : MW cA ad en M) (b : Nat) (hb4 : b < 4) (m9 : Nat) (hm : M.builtMany b = (m9 : Int)) (hm2 : m9 ≤ 200) (k9 : Nat) (hk : M.rowMany = (k9 : Int)) (hk2 : k9 ≤ 200) : Met l yX5_append (Cond.code yX5_append cX5_append 2 (some .int) :: xU) (xrm 1 27) (va_Pc [.ref (ad 53), .int (xI (b : Int))] (xM D cA n ad en sz)) (va_Qi (fun r u => (200 < (m9 : Int) - ((m9 : Int) - (m9 : Int)) + (k9 : Int) ∧ r = xI (-1007) ∧ u = en) ∨ ((m9 : Int) - ((m9 : Int) - (m9 : Int)) + (k9 : Int) ≤ 200 ∧ ∃ (z : Int) (F : Nat → Int), r = xI z ∧ z = (m9 : Int) - ((m9 : Int) - (m9 : Int)) + (k9 : Int) ∧ (∀ j : Nat, j < m9 - (m9 - m9) + k9 → F (200 * b + j) = sp_ed (fun q => M.built (200 * b + q)) m9 m9 M.row 0 k9 j) ∧ (∀ j : Nat, j < 200 * b ∨ 200 * b + 200 ≤ j → F j = M.built j) ∧ MW cA ad u (mO F (sp_up M.builtMany b z) M.told M.toldMany M.row M.rowMany M.figures M.partText M.partFrom M.partMany M.parts M.cut M.cutMany M.isCut M.cutGives M.cutAt M.h) ∧ xO 53 68 en u)) (xE D n ad) (xA n ad sz)) 0 0 (xA n ad sz) := by
  refine xmet (by decide) (Nat.le_of_ble_eq_true rfl) (fun p e s mm args below meth c ls hx hb hrt hml hown hts hlocks hname hB hl => ?_)
  obtain ⟨⟨hP, hK, hN⟩, hsz, hDt⟩ := hB
  have hD : xD (xA n ad sz) n ad := xD_self hDt sz
  have hA : ∀ q : Nat, s.heap.size ≤ q → xA n ad sz q := fun q h => Or.inr (by rw [← hsz]; exact h)
  have hS : va_S (xA n ad sz) s.heap s.heap [] := va_S.rf
  have hown : s.vm.findClass RX5 = some mm.cls := hown
  have hl : lv_has ls 2 [(0, .ref (ad 53)), (1, .int (xI (b : Int)))] := hl
  have ho : xO 53 68 en en := xO.rf
  refine lv_aload_n hx hb dX5_append_0 rfl (lv_at hl 0 rfl) ?_
  refine lv_iload_n hx hb dX5_append_1 rfl (lv_at hl 1 rfl) ?_
  refine lv_aload_n hx hb dX5_append_2 rfl (lv_at hl 0 rfl) ?_
  refine x_get (T := TX5) (N := 17) hx hb hts uX5 hown hK hP (i := 53) (by omega) hM.1 rfl 1 (by decide) u_fl_RX5_13 rfl dX5_append_3 ?_
  refine lv_iload_n hx hb dX5_append_6 rfl (lv_at hl 1 rfl) ?_
  refine x_ild hx hb hK hP (i := 55) (by omega) hM.2.2.1 (x := M.builtMany b) (by omega) (rfl) dX5_append_7 ?_
  refine x_to ((m9 : Int)) (hm) ?_
  refine lv_aload_n hx hb dX5_append_8 rfl (lv_at hl 0 rfl) ?_
  refine x_get (T := TX5) (N := 17) hx hb hts uX5 hown hK hP (i := 53) (by omega) hM.1 rfl 1 (by decide) u_fl_RX5_13 rfl dX5_append_9 ?_
  refine lv_iload_n hx hb dX5_append_12 rfl (lv_at hl 1 rfl) ?_
  refine x_ild hx hb hK hP (i := 55) (by omega) hM.2.2.1 (x := M.builtMany b) (by omega) (rfl) dX5_append_13 ?_
  refine x_to ((m9 : Int)) (hm) ?_
  refine xm_i (i := 53) (As := [.int (xI (b : Int)), .int (xI (m9 : Int)), .int (xI (m9 : Int))]) (rest := []) ⟨hx, hb, hml, hown, hts⟩ hl.1 (c_X5_edit l D cA n ad en _ hn hM b hb4 m9 m9 m9 hm hm2 (Nat.le_refl _) (Nat.le_refl _) k9 hk hk2) k_X5_edit u_ml_RX5_66 hK hN hP (by omega) hM.1 rfl rfl rfl rfl (Nat.le_of_ble_eq_true rfl) ⟨Nat.le_of_ble_eq_true rfl, Nat.le_of_ble_eq_true rfl⟩ ⟨Nat.le_of_ble_eq_true rfl, Nat.le_of_ble_eq_true rfl⟩ dX5_append_14 hD hS hA (fun r1 en1 H locs hp1 hP hS => ?_)
  rcases hp1 with ⟨hfu, hrv, hu⟩ | ⟨hfu, z9, F9, hrv, hz9, hF9, hG9, hM, ho2⟩
  · subst hrv
    rw [hu] at hP
    exact xe_i hx hb hrt hlocks hP hS (Or.inl ⟨hfu, rfl, rfl⟩) dX5_append_17
  · subst hrv
    have ho := ho.tr ho2
    exact xe_i hx hb hrt hlocks hP hS (Or.inr ⟨hfu, z9, F9, rfl, hz9, hF9, hG9, hM, ho⟩) dX5_append_17

set_option maxRecDepth 20000 in
theorem c_X5_stands (l : Launch) (D : va_G) (cA : Nat → ClassId) (n : Nat) (ad : Nat → Nat) (en : Nat → va_E) (hn : 68 ≤ n) {M : MO} (hM : MW cA ad en M) {q0 L9 : Nat} {g9 : Nat → Int} (hq0 : q0 < n) (hqe : en q0 = .inl (cA 0, L9, .inl (fun k => xI (g9 k)))) (bg m9 : Nat) (hL : bg + m9 ≤ L9) (hL2 : L9 ≤ 1600) {f h : Nat → Int} (hf : ∀ k : Nat, k < m9 → g9 (bg + k) = f k) (hfb : ∀ k : Nat, k < m9 → 0 ≤ f k ∧ f k ≤ 255) (hm2 : m9 ≤ 200) (k9 : Nat) (hk : M.rowMany = (k9 : Int)) (hk2 : k9 ≤ 200) (hh : ∀ k : Nat, k < k9 → M.row k = h k) (hhb : ∀ k : Nat, k < k9 → 0 ≤ h k ∧ h k ≤ 255) (z1 : Int) (hz1 : -2147483648 ≤ z1 ∧ z1 ≤ 2147483647) : Met l yX5_stands (Cond.code yX5_stands cX5_stands 7 (some .boolean) :: xU) (xrm 1 25) (va_Pc [.ref (ad 53), .ref (ad q0), .int (xI (bg : Int)), .int (xI (m9 : Int)), .int (xI z1)] (xB D cA n ad en)) (vp_Si (fun z => z = xb (sp_st f m9 h k9 z1))) 0 0 (fun _ => False) := by
  refine xmet (by decide) (Nat.le_of_ble_eq_true rfl) (fun p e s mm args below meth c ls hx hb hrt hml hown hts hlocks hname hB hl => ?_)
  obtain ⟨hP, hK, hN⟩ := hB
  have hl : lv_has ls 7 [(0, .ref (ad 53)), (1, .ref (ad q0)), (2, .int (xI (bg : Int))), (3, .int (xI (m9 : Int))), (4, .int (xI z1))] := hl
  refine lv_iload hx hb dX5_stands_0 (lv_at hl 4 rfl) ?_
  refine x_i2l hx hb dX5_stands_2 (by omega) ?_
  refine lv_lconst (v := xL 0) hx hb dX5_stands_3 (by decide +kernel) ?_
  refine lv_iload_n hx hb dX5_stands_4 rfl (lv_at hl 3 rfl) ?_
  refine lv_aload_n hx hb dX5_stands_5 rfl (lv_at hl 0 rfl) ?_
  refine x_get (T := TX5) (N := 17) hx hb hts uX5 hown hK hP (i := 53) (by omega) hM.1 rfl 5 (by decide) u_fl_RX5_62 rfl dX5_stands_6 ?_
  refine x_isub hx hb dX5_stands_9 ?_
  refine x_i2l hx hb dX5_stands_10 (by omega) ?_
  refine xt_i (As := [.long (xL z1), .long (xL 0), .long (xL ((m9 : Int) - M.rowMany))]) (rest := []) ⟨hx, hb, hml, hown, hts⟩ hl.1 (c_X5_in l z1 0 ((m9 : Int) - M.rowMany) (by omega) (by omega) (by omega)) k_X5_in u_ml_RX5_54 rfl rfl (Nat.le_of_ble_eq_true rfl) ⟨Nat.le_of_ble_eq_true rfl, Nat.le_of_ble_eq_true rfl⟩ ⟨Nat.le_of_ble_eq_true rfl, Nat.le_of_ble_eq_true rfl⟩ dX5_stands_11 ?_
  refine lv_istore (lv' := [(5, .int (xb (0 ≤ z1 ∧ z1 ≤ ((m9 : Int) - M.rowMany)))), (0, .ref (ad 53)), (1, .ref (ad q0)), (2, .int (xI (bg : Int))), (3, .int (xI (m9 : Int))), (4, .int (xI z1))]) hx hb dX5_stands_14 hl (by decide) rfl (fun ls hl => ?_)
  refine x_iconst hx hb dX5_stands_16 ?_
  refine lv_istore (lv' := [(6, .int (xI 0)), (5, .int (xb (0 ≤ z1 ∧ z1 ≤ ((m9 : Int) - M.rowMany)))), (0, .ref (ad 53)), (1, .ref (ad q0)), (2, .int (xI (bg : Int))), (3, .int (xI (m9 : Int))), (4, .int (xI z1))]) hx hb dX5_stands_17 hl (by decide) rfl (fun ls hl => ?_)
  have L19 : ∀ (nn : Nat) (K : Nat) (p9 : Prop), (K ≤ k9) → (p9 ↔ (0 ≤ z1 ∧ z1 + (k9 : Int) ≤ (m9 : Int) ∧ ∀ t : Nat, t < K → f (Int.toNat z1 + t) = h t)) → (k9 - K) < nn → ∀ ls : Array Slot, lv_has ls 7 [(0, .ref (ad 53)), (1, .ref (ad q0)), (2, .int (xI (bg : Int))), (3, .int (xI (m9 : Int))), (4, .int (xI z1)), (5, .int (xb p9)), (6, .int (xI (K : Int)))] → W p l e (xrm 1 25) s mm args below meth c s.heap [] 0 0 (MQ below (vp_Si (fun z => z = xb (sp_st f m9 h k9 z1))) args s 0 0 (fun _ => False)) (F0 mm 19 ls []) := by
    intro nn
    induction nn with
    | zero =>
      intro K p9  hk8 hp hmm  ls hl
      exact absurd hmm (Nat.not_lt_zero _)
    | succ nn ih =>
      intro K p9  hk8 hp hmm  ls hl
      refine lv_iload hx hb dX5_stands_19 (lv_at hl 6 rfl) ?_
      refine lv_aload_n hx hb dX5_stands_21 rfl (lv_at hl 0 rfl) ?_
      refine x_get (T := TX5) (N := 17) hx hb hts uX5 hown hK hP (i := 53) (by omega) hM.1 rfl 5 (by decide) u_fl_RX5_62 rfl dX5_stands_22 ?_
      refine x_icmp_ge (tgt := 65) hx hb dX5_stands_25 (by decide) (by omega) (fun c_25 => ?_) (fun c_25 => ?_)
      · refine lv_iload hx hb dX5_stands_65 (lv_at hl 5 rfl) ?_
        exact xr_z hx hb hrt hlocks (xb_iff (hp.trans ⟨fun q => ⟨q.1, q.2.1, fun t ht => q.2.2 t (by omega)⟩, fun q => ⟨q.1, q.2.1, fun t ht => q.2.2 t (by omega)⟩⟩)) dX5_stands_67
      · refine lv_iload hx hb dX5_stands_28 (lv_at hl 5 rfl) ?_
        refine x_ifb_eq (tgt := 65) hx hb dX5_stands_30 (by decide)  (fun c_30 => ?_) (fun c_30 => ?_)
        · refine lv_iload hx hb dX5_stands_65 (lv_at hl 5 rfl) ?_
          exact xr_z hx hb hrt hlocks (xb_iff ⟨fun q => absurd q c_30, fun q => absurd (hp.mpr ⟨q.1, q.2.1, fun t ht => q.2.2 t (by omega)⟩) c_30⟩) dX5_stands_67
        · have hpp := hp.mp c_30
          have hfx := hfb (Int.toNat z1 + K) (by omega)
          have hhx := hhb K (by omega)
          refine lv_aload_n hx hb dX5_stands_33 rfl (lv_at hl 1 rfl) ?_
          refine lv_iload_n hx hb dX5_stands_34 rfl (lv_at hl 2 rfl) ?_
          refine lv_iload hx hb dX5_stands_35 (lv_at hl 4 rfl) ?_
          refine x_iadd hx hb dX5_stands_37 ?_
          refine lv_iload hx hb dX5_stands_38 (lv_at hl 6 rfl) ?_
          refine x_iadd hx hb dX5_stands_40 ?_
          refine x_ild hx hb hK hP (i := q0) (by omega) hqe (x := g9 (Int.toNat (((bg : Int) + z1) + (K : Int)))) (by omega) (rfl) dX5_stands_41 ?_
          refine x_to (f (Int.toNat z1 + K)) (by rw [show Int.toNat (((bg : Int) + z1) + (K : Int)) = bg + (Int.toNat z1 + K) by omega]; exact hf _ (by omega)) ?_
          refine lv_aload_n hx hb dX5_stands_42 rfl (lv_at hl 0 rfl) ?_
          refine x_get (T := TX5) (N := 17) hx hb hts uX5 hown hK hP (i := 53) (by omega) hM.1 rfl 4 (by decide) u_fl_RX5_22 rfl dX5_stands_43 ?_
          refine lv_iload hx hb dX5_stands_46 (lv_at hl 6 rfl) ?_
          refine x_ild hx hb hK hP (i := 58) (by omega) hM.2.2.2.2.2.1 (x := M.row K) (by omega) (rfl) dX5_stands_48 ?_
          refine x_to (h K) (hh K (by omega)) ?_
          refine x_icmp_ne (tgt := 56) hx hb dX5_stands_49 (by decide) (by omega) (fun c_49 => ?_) (fun c_49 => ?_)
          · refine x_iconst hx hb dX5_stands_56 ?_
            refine x_tov (congrArg Value.int (show xI 0 = xb (0 ≤ z1 ∧ z1 + (k9 : Int) ≤ (m9 : Int) ∧ ∀ t : Nat, t < K + 1 → f (Int.toNat z1 + t) = h t) from xb_0 (fun w => c_49 (w.2.2 K (by omega))))) ?_
            refine lv_istore (lv' := [(5, .int (xb (0 ≤ z1 ∧ z1 + (k9 : Int) ≤ (m9 : Int) ∧ ∀ t : Nat, t < K + 1 → f (Int.toNat z1 + t) = h t))), (0, .ref (ad 53)), (1, .ref (ad q0)), (2, .int (xI (bg : Int))), (3, .int (xI (m9 : Int))), (4, .int (xI z1)), (6, .int (xI (K : Int)))]) hx hb dX5_stands_57 hl (by decide) rfl (fun ls hl => ?_)
            refine x_iinc (lv' := [(6, .int (xI ((K : Int) + 1))), (5, .int (xb (0 ≤ z1 ∧ z1 + (k9 : Int) ≤ (m9 : Int) ∧ ∀ t : Nat, t < K + 1 → f (Int.toNat z1 + t) = h t))), (0, .ref (ad 53)), (1, .ref (ad q0)), (2, .int (xI (bg : Int))), (3, .int (xI (m9 : Int))), (4, .int (xI z1))]) (k := 6) hx hb dX5_stands_59 hl rfl (by decide) rfl (fun ls hl => ?_)
            refine lv_goto (tgt := 19) hx hb dX5_stands_62 (by decide) ?_
            exact ih (K + 1) _ (by omega) Iff.rfl (by omega)  ls (lv_sub hl [2, 3, 4, 5, 6, 1, 0] rfl)
          · refine x_iconst hx hb dX5_stands_52 ?_
            refine lv_goto (tgt := 57) hx hb dX5_stands_53 (by decide) ?_
            refine x_tov (congrArg Value.int (show xI 1 = xb (0 ≤ z1 ∧ z1 + (k9 : Int) ≤ (m9 : Int) ∧ ∀ t : Nat, t < K + 1 → f (Int.toNat z1 + t) = h t) from xb_1 (⟨hpp.1, hpp.2.1, fun t ht => by
      by_cases q : t = K
      · rw [q]; exact c_49
      · exact hpp.2.2 t (by omega)⟩))) ?_
            refine lv_istore (lv' := [(5, .int (xb (0 ≤ z1 ∧ z1 + (k9 : Int) ≤ (m9 : Int) ∧ ∀ t : Nat, t < K + 1 → f (Int.toNat z1 + t) = h t))), (0, .ref (ad 53)), (1, .ref (ad q0)), (2, .int (xI (bg : Int))), (3, .int (xI (m9 : Int))), (4, .int (xI z1)), (6, .int (xI (K : Int)))]) hx hb dX5_stands_57 hl (by decide) rfl (fun ls hl => ?_)
            refine x_iinc (lv' := [(6, .int (xI ((K : Int) + 1))), (5, .int (xb (0 ≤ z1 ∧ z1 + (k9 : Int) ≤ (m9 : Int) ∧ ∀ t : Nat, t < K + 1 → f (Int.toNat z1 + t) = h t))), (0, .ref (ad 53)), (1, .ref (ad q0)), (2, .int (xI (bg : Int))), (3, .int (xI (m9 : Int))), (4, .int (xI z1))]) (k := 6) hx hb dX5_stands_59 hl rfl (by decide) rfl (fun ls hl => ?_)
            refine lv_goto (tgt := 19) hx hb dX5_stands_62 (by decide) ?_
            exact ih (K + 1) _ (by omega) Iff.rfl (by omega)  ls (lv_sub hl [2, 3, 4, 5, 6, 1, 0] rfl)
  exact L19 _ 0 _ (Nat.zero_le _) (⟨fun q => ⟨by omega, by omega, fun t ht => absurd ht (Nat.not_lt_zero _)⟩, fun q => by omega⟩) (Nat.lt_succ_self _)  ls (lv_sub hl [2, 3, 4, 5, 6, 1, 0] rfl)

set_option maxRecDepth 20000 in
theorem c_X5_firstOf (l : Launch) (D : va_G) (cA : Nat → ClassId) (n : Nat) (ad : Nat → Nat) (en : Nat → va_E) (hn : 68 ≤ n) {M : MO} (hM : MW cA ad en M) {q0 L9 : Nat} {g9 : Nat → Int} (hq0 : q0 < n) (hqe : en q0 = .inl (cA 0, L9, .inl (fun k => xI (g9 k)))) (bg m9 : Nat) (hL : bg + m9 ≤ L9) (hL2 : L9 ≤ 1600) {f h : Nat → Int} (hf : ∀ k : Nat, k < m9 → g9 (bg + k) = f k) (hfb : ∀ k : Nat, k < m9 → 0 ≤ f k ∧ f k ≤ 255) (hm2 : m9 ≤ 200) (k9 : Nat) (hk : M.rowMany = (k9 : Int)) (hk2 : k9 ≤ 200) (hh : ∀ k : Nat, k < k9 → M.row k = h k) (hhb : ∀ k : Nat, k < k9 → 0 ≤ h k ∧ h k ≤ 255) (z1 : Int) (hz1 : -2147483648 ≤ z1 ∧ z1 ≤ 2147483647) : Met l yX5_firstOf (Cond.code yX5_firstOf cX5_firstOf 7 (some .int) :: xU) (xrm 2 51) (va_Pc [.ref (ad 53), .ref (ad q0), .int (xI (bg : Int)), .int (xI (m9 : Int)), .int (xI z1)] (xB D cA n ad en)) (vp_Si (fun z => z = xI (sp_find (sp_st f m9 h k9) (max 0 (min z1 (m9 : Int))) ((m9 : Int) + 1)))) 0 0 (fun _ => False) := by
  refine xmet (by decide) (Nat.le_of_ble_eq_true rfl) (fun p e s mm args below meth c ls hx hb hrt hml hown hts hlocks hname hB hl => ?_)
  obtain ⟨hP, hK, hN⟩ := hB
  have hl : lv_has ls 7 [(0, .ref (ad 53)), (1, .ref (ad q0)), (2, .int (xI (bg : Int))), (3, .int (xI (m9 : Int))), (4, .int (xI z1))] := hl
  refine lv_iload hx hb dX5_firstOf_0 (lv_at hl 4 rfl) ?_
  refine x_if_ge (tgt := 9) hx hb dX5_firstOf_2 (by decide) (by omega) (fun c_2 => ?_) (fun c_2 => ?_)
  · refine lv_iload hx hb dX5_firstOf_9 (lv_at hl 4 rfl) ?_
    refine lv_iload_n hx hb dX5_firstOf_11 rfl (lv_at hl 3 rfl) ?_
    refine x_icmp_le (tgt := 19) hx hb dX5_firstOf_12 (by decide) (by omega) (fun c_12 => ?_) (fun c_12 => ?_)
    · refine lv_iload hx hb dX5_firstOf_19 (lv_at hl 4 rfl) ?_
      refine x_to (max 0 (min z1 (m9 : Int))) (by omega) ?_
      refine lv_istore (lv' := [(5, .int (xI (max 0 (min z1 (m9 : Int))))), (0, .ref (ad 53)), (1, .ref (ad q0)), (2, .int (xI (bg : Int))), (3, .int (xI (m9 : Int))), (4, .int (xI z1))]) hx hb dX5_firstOf_21 hl (by decide) rfl (fun ls hl => ?_)
      refine lv_iload hx hb dX5_firstOf_23 (lv_at hl 0 rfl) ?_
      refine lv_istore (lv' := [(6, .int (xI (max 0 (min z1 (m9 : Int))))), (5, .int (xI (max 0 (min z1 (m9 : Int))))), (0, .ref (ad 53)), (1, .ref (ad q0)), (2, .int (xI (bg : Int))), (3, .int (xI (m9 : Int))), (4, .int (xI z1))]) hx hb dX5_firstOf_25 hl (by decide) rfl (fun ls hl => ?_)
      have L27 : ∀ (nn : Nat) (K : Int), (0 ≤ K ∧ K ≤ (m9 : Int) + 1) → (sp_find (sp_st f m9 h k9) K ((m9 : Int) + 1) = sp_find (sp_st f m9 h k9) (max 0 (min z1 (m9 : Int))) ((m9 : Int) + 1)) → (((m9 : Int) + 1 - K).toNat) < nn → ∀ ls : Array Slot, lv_has ls 7 [(0, .ref (ad 53)), (1, .ref (ad q0)), (2, .int (xI (bg : Int))), (3, .int (xI (m9 : Int))), (6, .int (xI K))] → W p l e (xrm 2 51) s mm args below meth c s.heap [] 0 0 (MQ below (vp_Si (fun z => z = xI (sp_find (sp_st f m9 h k9) (max 0 (min z1 (m9 : Int))) ((m9 : Int) + 1)))) args s 0 0 (fun _ => False)) (F0 mm 27 ls []) := by
        intro nn
        induction nn with
        | zero =>
          intro K  hk8 hF hmm  ls hl
          exact absurd hmm (Nat.not_lt_zero _)
        | succ nn ih =>
          intro K  hk8 hF hmm  ls hl
          refine lv_iload hx hb dX5_firstOf_27 (lv_at hl 4 rfl) ?_
          refine lv_iload_n hx hb dX5_firstOf_29 rfl (lv_at hl 3 rfl) ?_
          refine x_icmp_gt (tgt := 54) hx hb dX5_firstOf_30 (by decide) (by omega) (fun c_30 => ?_) (fun c_30 => ?_)
          · refine x_iconst hx hb dX5_firstOf_54 ?_
            exact xr_i hx hb hrt hlocks (by rw [← hF, sp_find_e (by omega)]) dX5_firstOf_55
          · refine lv_aload_n hx hb dX5_firstOf_33 rfl (lv_at hl 0 rfl) ?_
            refine lv_aload_n hx hb dX5_firstOf_34 rfl (lv_at hl 1 rfl) ?_
            refine lv_iload_n hx hb dX5_firstOf_35 rfl (lv_at hl 2 rfl) ?_
            refine lv_iload_n hx hb dX5_firstOf_36 rfl (lv_at hl 3 rfl) ?_
            refine lv_iload hx hb dX5_firstOf_37 (lv_at hl 4 rfl) ?_
            refine xv_i (i := 53) (As := [.ref (ad q0), .int (xI (bg : Int)), .int (xI (m9 : Int)), .int (xI K)]) (rest := []) ⟨hx, hb, hml, hown, hts⟩ hl.1 (c_X5_stands l D cA n ad en hn hM hq0 hqe bg m9 hL hL2 hf hfb hm2 k9 hk hk2 hh hhb K (by omega)) k_X5_stands u_ml_RX5_107 hK hN hP (by omega) hM.1 rfl rfl rfl rfl (Nat.le_of_ble_eq_true rfl) ⟨Nat.le_of_ble_eq_true rfl, Nat.le_of_ble_eq_true rfl⟩ ⟨Nat.le_of_ble_eq_true rfl, Nat.le_of_ble_eq_true rfl⟩ dX5_firstOf_39 ?_
            refine x_ifb_eq (tgt := 48) hx hb dX5_firstOf_42 (by decide)  (fun c_42 => ?_) (fun c_42 => ?_)
            · refine x_iinc (lv' := [(6, .int (xI (K + 1))), (0, .ref (ad 53)), (1, .ref (ad q0)), (2, .int (xI (bg : Int))), (3, .int (xI (m9 : Int)))]) (k := 4) hx hb dX5_firstOf_48 hl rfl (by decide) rfl (fun ls hl => ?_)
              refine lv_goto (tgt := 27) hx hb dX5_firstOf_51 (by decide) ?_
              exact ih (K + 1) (by omega) ((sp_find_f (P := (sp_st f m9 h k9)) (by omega) c_42).symm.trans hF) (by omega)  ls (lv_sub hl [1, 2, 3, 4, 0] rfl)
            · refine lv_iload hx hb dX5_firstOf_45 (lv_at hl 4 rfl) ?_
              exact xr_i hx hb hrt hlocks (by rw [← hF, sp_find_t (P := (sp_st f m9 h k9)) (by omega) c_42]) dX5_firstOf_47
      exact L27 _ _ (by omega) rfl (Nat.lt_succ_self _)  ls (lv_sub hl [2, 3, 4, 5, 0] rfl)
    · refine lv_iload_n hx hb dX5_firstOf_15 rfl (lv_at hl 3 rfl) ?_
      refine lv_goto (tgt := 21) hx hb dX5_firstOf_16 (by decide) ?_
      refine x_to (max 0 (min z1 (m9 : Int))) (by omega) ?_
      refine lv_istore (lv' := [(5, .int (xI (max 0 (min z1 (m9 : Int))))), (0, .ref (ad 53)), (1, .ref (ad q0)), (2, .int (xI (bg : Int))), (3, .int (xI (m9 : Int))), (4, .int (xI z1))]) hx hb dX5_firstOf_21 hl (by decide) rfl (fun ls hl => ?_)
      refine lv_iload hx hb dX5_firstOf_23 (lv_at hl 0 rfl) ?_
      refine lv_istore (lv' := [(6, .int (xI (max 0 (min z1 (m9 : Int))))), (5, .int (xI (max 0 (min z1 (m9 : Int))))), (0, .ref (ad 53)), (1, .ref (ad q0)), (2, .int (xI (bg : Int))), (3, .int (xI (m9 : Int))), (4, .int (xI z1))]) hx hb dX5_firstOf_25 hl (by decide) rfl (fun ls hl => ?_)
      have L27 : ∀ (nn : Nat) (K : Int), (0 ≤ K ∧ K ≤ (m9 : Int) + 1) → (sp_find (sp_st f m9 h k9) K ((m9 : Int) + 1) = sp_find (sp_st f m9 h k9) (max 0 (min z1 (m9 : Int))) ((m9 : Int) + 1)) → (((m9 : Int) + 1 - K).toNat) < nn → ∀ ls : Array Slot, lv_has ls 7 [(0, .ref (ad 53)), (1, .ref (ad q0)), (2, .int (xI (bg : Int))), (3, .int (xI (m9 : Int))), (6, .int (xI K))] → W p l e (xrm 2 51) s mm args below meth c s.heap [] 0 0 (MQ below (vp_Si (fun z => z = xI (sp_find (sp_st f m9 h k9) (max 0 (min z1 (m9 : Int))) ((m9 : Int) + 1)))) args s 0 0 (fun _ => False)) (F0 mm 27 ls []) := by
        intro nn
        induction nn with
        | zero =>
          intro K  hk8 hF hmm  ls hl
          exact absurd hmm (Nat.not_lt_zero _)
        | succ nn ih =>
          intro K  hk8 hF hmm  ls hl
          refine lv_iload hx hb dX5_firstOf_27 (lv_at hl 4 rfl) ?_
          refine lv_iload_n hx hb dX5_firstOf_29 rfl (lv_at hl 3 rfl) ?_
          refine x_icmp_gt (tgt := 54) hx hb dX5_firstOf_30 (by decide) (by omega) (fun c_30 => ?_) (fun c_30 => ?_)
          · refine x_iconst hx hb dX5_firstOf_54 ?_
            exact xr_i hx hb hrt hlocks (by rw [← hF, sp_find_e (by omega)]) dX5_firstOf_55
          · refine lv_aload_n hx hb dX5_firstOf_33 rfl (lv_at hl 0 rfl) ?_
            refine lv_aload_n hx hb dX5_firstOf_34 rfl (lv_at hl 1 rfl) ?_
            refine lv_iload_n hx hb dX5_firstOf_35 rfl (lv_at hl 2 rfl) ?_
            refine lv_iload_n hx hb dX5_firstOf_36 rfl (lv_at hl 3 rfl) ?_
            refine lv_iload hx hb dX5_firstOf_37 (lv_at hl 4 rfl) ?_
            refine xv_i (i := 53) (As := [.ref (ad q0), .int (xI (bg : Int)), .int (xI (m9 : Int)), .int (xI K)]) (rest := []) ⟨hx, hb, hml, hown, hts⟩ hl.1 (c_X5_stands l D cA n ad en hn hM hq0 hqe bg m9 hL hL2 hf hfb hm2 k9 hk hk2 hh hhb K (by omega)) k_X5_stands u_ml_RX5_107 hK hN hP (by omega) hM.1 rfl rfl rfl rfl (Nat.le_of_ble_eq_true rfl) ⟨Nat.le_of_ble_eq_true rfl, Nat.le_of_ble_eq_true rfl⟩ ⟨Nat.le_of_ble_eq_true rfl, Nat.le_of_ble_eq_true rfl⟩ dX5_firstOf_39 ?_
            refine x_ifb_eq (tgt := 48) hx hb dX5_firstOf_42 (by decide)  (fun c_42 => ?_) (fun c_42 => ?_)
            · refine x_iinc (lv' := [(6, .int (xI (K + 1))), (0, .ref (ad 53)), (1, .ref (ad q0)), (2, .int (xI (bg : Int))), (3, .int (xI (m9 : Int)))]) (k := 4) hx hb dX5_firstOf_48 hl rfl (by decide) rfl (fun ls hl => ?_)
              refine lv_goto (tgt := 27) hx hb dX5_firstOf_51 (by decide) ?_
              exact ih (K + 1) (by omega) ((sp_find_f (P := (sp_st f m9 h k9)) (by omega) c_42).symm.trans hF) (by omega)  ls (lv_sub hl [1, 2, 3, 4, 0] rfl)
            · refine lv_iload hx hb dX5_firstOf_45 (lv_at hl 4 rfl) ?_
              exact xr_i hx hb hrt hlocks (by rw [← hF, sp_find_t (P := (sp_st f m9 h k9)) (by omega) c_42]) dX5_firstOf_47
      exact L27 _ _ (by omega) rfl (Nat.lt_succ_self _)  ls (lv_sub hl [2, 3, 4, 5, 0] rfl)
  · refine x_iconst hx hb dX5_firstOf_5 ?_
    refine lv_goto (tgt := 21) hx hb dX5_firstOf_6 (by decide) ?_
    refine x_to (max 0 (min z1 (m9 : Int))) (by omega) ?_
    refine lv_istore (lv' := [(5, .int (xI (max 0 (min z1 (m9 : Int))))), (0, .ref (ad 53)), (1, .ref (ad q0)), (2, .int (xI (bg : Int))), (3, .int (xI (m9 : Int))), (4, .int (xI z1))]) hx hb dX5_firstOf_21 hl (by decide) rfl (fun ls hl => ?_)
    refine lv_iload hx hb dX5_firstOf_23 (lv_at hl 0 rfl) ?_
    refine lv_istore (lv' := [(6, .int (xI (max 0 (min z1 (m9 : Int))))), (5, .int (xI (max 0 (min z1 (m9 : Int))))), (0, .ref (ad 53)), (1, .ref (ad q0)), (2, .int (xI (bg : Int))), (3, .int (xI (m9 : Int))), (4, .int (xI z1))]) hx hb dX5_firstOf_25 hl (by decide) rfl (fun ls hl => ?_)
    have L27 : ∀ (nn : Nat) (K : Int), (0 ≤ K ∧ K ≤ (m9 : Int) + 1) → (sp_find (sp_st f m9 h k9) K ((m9 : Int) + 1) = sp_find (sp_st f m9 h k9) (max 0 (min z1 (m9 : Int))) ((m9 : Int) + 1)) → (((m9 : Int) + 1 - K).toNat) < nn → ∀ ls : Array Slot, lv_has ls 7 [(0, .ref (ad 53)), (1, .ref (ad q0)), (2, .int (xI (bg : Int))), (3, .int (xI (m9 : Int))), (6, .int (xI K))] → W p l e (xrm 2 51) s mm args below meth c s.heap [] 0 0 (MQ below (vp_Si (fun z => z = xI (sp_find (sp_st f m9 h k9) (max 0 (min z1 (m9 : Int))) ((m9 : Int) + 1)))) args s 0 0 (fun _ => False)) (F0 mm 27 ls []) := by
      intro nn
      induction nn with
      | zero =>
        intro K  hk8 hF hmm  ls hl
        exact absurd hmm (Nat.not_lt_zero _)
      | succ nn ih =>
        intro K  hk8 hF hmm  ls hl
        refine lv_iload hx hb dX5_firstOf_27 (lv_at hl 4 rfl) ?_
        refine lv_iload_n hx hb dX5_firstOf_29 rfl (lv_at hl 3 rfl) ?_
        refine x_icmp_gt (tgt := 54) hx hb dX5_firstOf_30 (by decide) (by omega) (fun c_30 => ?_) (fun c_30 => ?_)
        · refine x_iconst hx hb dX5_firstOf_54 ?_
          exact xr_i hx hb hrt hlocks (by rw [← hF, sp_find_e (by omega)]) dX5_firstOf_55
        · refine lv_aload_n hx hb dX5_firstOf_33 rfl (lv_at hl 0 rfl) ?_
          refine lv_aload_n hx hb dX5_firstOf_34 rfl (lv_at hl 1 rfl) ?_
          refine lv_iload_n hx hb dX5_firstOf_35 rfl (lv_at hl 2 rfl) ?_
          refine lv_iload_n hx hb dX5_firstOf_36 rfl (lv_at hl 3 rfl) ?_
          refine lv_iload hx hb dX5_firstOf_37 (lv_at hl 4 rfl) ?_
          refine xv_i (i := 53) (As := [.ref (ad q0), .int (xI (bg : Int)), .int (xI (m9 : Int)), .int (xI K)]) (rest := []) ⟨hx, hb, hml, hown, hts⟩ hl.1 (c_X5_stands l D cA n ad en hn hM hq0 hqe bg m9 hL hL2 hf hfb hm2 k9 hk hk2 hh hhb K (by omega)) k_X5_stands u_ml_RX5_107 hK hN hP (by omega) hM.1 rfl rfl rfl rfl (Nat.le_of_ble_eq_true rfl) ⟨Nat.le_of_ble_eq_true rfl, Nat.le_of_ble_eq_true rfl⟩ ⟨Nat.le_of_ble_eq_true rfl, Nat.le_of_ble_eq_true rfl⟩ dX5_firstOf_39 ?_
          refine x_ifb_eq (tgt := 48) hx hb dX5_firstOf_42 (by decide)  (fun c_42 => ?_) (fun c_42 => ?_)
          · refine x_iinc (lv' := [(6, .int (xI (K + 1))), (0, .ref (ad 53)), (1, .ref (ad q0)), (2, .int (xI (bg : Int))), (3, .int (xI (m9 : Int)))]) (k := 4) hx hb dX5_firstOf_48 hl rfl (by decide) rfl (fun ls hl => ?_)
            refine lv_goto (tgt := 27) hx hb dX5_firstOf_51 (by decide) ?_
            exact ih (K + 1) (by omega) ((sp_find_f (P := (sp_st f m9 h k9)) (by omega) c_42).symm.trans hF) (by omega)  ls (lv_sub hl [1, 2, 3, 4, 0] rfl)
          · refine lv_iload hx hb dX5_firstOf_45 (lv_at hl 4 rfl) ?_
            exact xr_i hx hb hrt hlocks (by rw [← hF, sp_find_t (P := (sp_st f m9 h k9)) (by omega) c_42]) dX5_firstOf_47
    exact L27 _ _ (by omega) rfl (Nat.lt_succ_self _)  ls (lv_sub hl [2, 3, 4, 5, 0] rfl)

set_option maxRecDepth 20000 in
theorem c_X5_lastOf (l : Launch) (D : va_G) (cA : Nat → ClassId) (n : Nat) (ad : Nat → Nat) (en : Nat → va_E) (hn : 68 ≤ n) {M : MO} (hM : MW cA ad en M) {q0 L9 : Nat} {g9 : Nat → Int} (hq0 : q0 < n) (hqe : en q0 = .inl (cA 0, L9, .inl (fun k => xI (g9 k)))) (bg m9 : Nat) (hL : bg + m9 ≤ L9) (hL2 : L9 ≤ 1600) {f h : Nat → Int} (hf : ∀ k : Nat, k < m9 → g9 (bg + k) = f k) (hfb : ∀ k : Nat, k < m9 → 0 ≤ f k ∧ f k ≤ 255) (hm2 : m9 ≤ 200) (k9 : Nat) (hk : M.rowMany = (k9 : Int)) (hk2 : k9 ≤ 200) (hh : ∀ k : Nat, k < k9 → M.row k = h k) (hhb : ∀ k : Nat, k < k9 → 0 ≤ h k ∧ h k ≤ 255) (z1 : Int) (hz1 : -2147483648 ≤ z1 ∧ z1 ≤ 2147483647) : Met l yX5_lastOf (Cond.code yX5_lastOf cX5_lastOf 6 (some .int) :: xU) (xrm 2 51) (va_Pc [.ref (ad 53), .ref (ad q0), .int (xI (bg : Int)), .int (xI (m9 : Int)), .int (xI z1)] (xB D cA n ad en)) (vp_Si (fun z => z = xI (sp_rfind (sp_st f m9 h k9) (min z1 (m9 : Int))))) 0 0 (fun _ => False) := by
  refine xmet (by decide) (Nat.le_of_ble_eq_true rfl) (fun p e s mm args below meth c ls hx hb hrt hml hown hts hlocks hname hB hl => ?_)
  obtain ⟨hP, hK, hN⟩ := hB
  have hl : lv_has ls 6 [(0, .ref (ad 53)), (1, .ref (ad q0)), (2, .int (xI (bg : Int))), (3, .int (xI (m9 : Int))), (4, .int (xI z1))] := hl
  refine lv_iload hx hb dX5_lastOf_0 (lv_at hl 4 rfl) ?_
  refine lv_iload_n hx hb dX5_lastOf_2 rfl (lv_at hl 3 rfl) ?_
  refine x_icmp_le (tgt := 10) hx hb dX5_lastOf_3 (by decide) (by omega) (fun c_3 => ?_) (fun c_3 => ?_)
  · refine lv_iload hx hb dX5_lastOf_10 (lv_at hl 4 rfl) ?_
    refine x_to (min z1 (m9 : Int)) (by omega) ?_
    refine lv_istore (lv' := [(5, .int (xI (min z1 (m9 : Int)))), (0, .ref (ad 53)), (1, .ref (ad q0)), (2, .int (xI (bg : Int))), (3, .int (xI (m9 : Int))), (4, .int (xI z1))]) hx hb dX5_lastOf_12 hl (by decide) rfl (fun ls hl => ?_)
    have L14 : ∀ (nn : Nat) (K : Int), (-2147483648 ≤ K ∧ K ≤ (m9 : Int)) → (sp_rfind (sp_st f m9 h k9) K = sp_rfind (sp_st f m9 h k9) (min z1 (m9 : Int))) → ((K + 1).toNat) < nn → ∀ ls : Array Slot, lv_has ls 6 [(0, .ref (ad 53)), (1, .ref (ad q0)), (2, .int (xI (bg : Int))), (3, .int (xI (m9 : Int))), (5, .int (xI K))] → W p l e (xrm 2 51) s mm args below meth c s.heap [] 0 0 (MQ below (vp_Si (fun z => z = xI (sp_rfind (sp_st f m9 h k9) (min z1 (m9 : Int))))) args s 0 0 (fun _ => False)) (F0 mm 14 ls []) := by
      intro nn
      induction nn with
      | zero =>
        intro K  hk8 hF hmm  ls hl
        exact absurd hmm (Nat.not_lt_zero _)
      | succ nn ih =>
        intro K  hk8 hF hmm  ls hl
        refine lv_iload hx hb dX5_lastOf_14 (lv_at hl 4 rfl) ?_
        refine x_if_lt (tgt := 40) hx hb dX5_lastOf_16 (by decide) (by omega) (fun c_16 => ?_) (fun c_16 => ?_)
        · refine x_iconst hx hb dX5_lastOf_40 ?_
          exact xr_i hx hb hrt hlocks (by rw [← hF, sp_rfind_e (by omega)]) dX5_lastOf_41
        · refine lv_aload_n hx hb dX5_lastOf_19 rfl (lv_at hl 0 rfl) ?_
          refine lv_aload_n hx hb dX5_lastOf_20 rfl (lv_at hl 1 rfl) ?_
          refine lv_iload_n hx hb dX5_lastOf_21 rfl (lv_at hl 2 rfl) ?_
          refine lv_iload_n hx hb dX5_lastOf_22 rfl (lv_at hl 3 rfl) ?_
          refine lv_iload hx hb dX5_lastOf_23 (lv_at hl 4 rfl) ?_
          refine xv_i (i := 53) (As := [.ref (ad q0), .int (xI (bg : Int)), .int (xI (m9 : Int)), .int (xI K)]) (rest := []) ⟨hx, hb, hml, hown, hts⟩ hl.1 (c_X5_stands l D cA n ad en hn hM hq0 hqe bg m9 hL hL2 hf hfb hm2 k9 hk hk2 hh hhb K (by omega)) k_X5_stands u_ml_RX5_107 hK hN hP (by omega) hM.1 rfl rfl rfl rfl (Nat.le_of_ble_eq_true rfl) ⟨Nat.le_of_ble_eq_true rfl, Nat.le_of_ble_eq_true rfl⟩ ⟨Nat.le_of_ble_eq_true rfl, Nat.le_of_ble_eq_true rfl⟩ dX5_lastOf_25 ?_
          refine x_ifb_eq (tgt := 34) hx hb dX5_lastOf_28 (by decide)  (fun c_28 => ?_) (fun c_28 => ?_)
          · refine x_iinc (lv' := [(5, .int (xI (K + (-1)))), (0, .ref (ad 53)), (1, .ref (ad q0)), (2, .int (xI (bg : Int))), (3, .int (xI (m9 : Int)))]) (k := 4) hx hb dX5_lastOf_34 hl rfl (by decide) rfl (fun ls hl => ?_)
            refine lv_goto (tgt := 14) hx hb dX5_lastOf_37 (by decide) ?_
            exact ih (K - 1) (by omega) ((sp_rfind_f (P := (sp_st f m9 h k9)) (by omega) c_28).symm.trans hF) (by omega)  ls (lv_sub hl [1, 2, 3, 4, 0] rfl)
          · refine lv_iload hx hb dX5_lastOf_31 (lv_at hl 4 rfl) ?_
            exact xr_i hx hb hrt hlocks (by rw [← hF, sp_rfind_t (P := (sp_st f m9 h k9)) (by omega) c_28]) dX5_lastOf_33
    exact L14 _ _ (by omega) rfl (Nat.lt_succ_self _)  ls (lv_sub hl [1, 2, 3, 4, 0] rfl)
  · refine lv_iload_n hx hb dX5_lastOf_6 rfl (lv_at hl 3 rfl) ?_
    refine lv_goto (tgt := 12) hx hb dX5_lastOf_7 (by decide) ?_
    refine x_to (min z1 (m9 : Int)) (by omega) ?_
    refine lv_istore (lv' := [(5, .int (xI (min z1 (m9 : Int)))), (0, .ref (ad 53)), (1, .ref (ad q0)), (2, .int (xI (bg : Int))), (3, .int (xI (m9 : Int))), (4, .int (xI z1))]) hx hb dX5_lastOf_12 hl (by decide) rfl (fun ls hl => ?_)
    have L14 : ∀ (nn : Nat) (K : Int), (-2147483648 ≤ K ∧ K ≤ (m9 : Int)) → (sp_rfind (sp_st f m9 h k9) K = sp_rfind (sp_st f m9 h k9) (min z1 (m9 : Int))) → ((K + 1).toNat) < nn → ∀ ls : Array Slot, lv_has ls 6 [(0, .ref (ad 53)), (1, .ref (ad q0)), (2, .int (xI (bg : Int))), (3, .int (xI (m9 : Int))), (5, .int (xI K))] → W p l e (xrm 2 51) s mm args below meth c s.heap [] 0 0 (MQ below (vp_Si (fun z => z = xI (sp_rfind (sp_st f m9 h k9) (min z1 (m9 : Int))))) args s 0 0 (fun _ => False)) (F0 mm 14 ls []) := by
      intro nn
      induction nn with
      | zero =>
        intro K  hk8 hF hmm  ls hl
        exact absurd hmm (Nat.not_lt_zero _)
      | succ nn ih =>
        intro K  hk8 hF hmm  ls hl
        refine lv_iload hx hb dX5_lastOf_14 (lv_at hl 4 rfl) ?_
        refine x_if_lt (tgt := 40) hx hb dX5_lastOf_16 (by decide) (by omega) (fun c_16 => ?_) (fun c_16 => ?_)
        · refine x_iconst hx hb dX5_lastOf_40 ?_
          exact xr_i hx hb hrt hlocks (by rw [← hF, sp_rfind_e (by omega)]) dX5_lastOf_41
        · refine lv_aload_n hx hb dX5_lastOf_19 rfl (lv_at hl 0 rfl) ?_
          refine lv_aload_n hx hb dX5_lastOf_20 rfl (lv_at hl 1 rfl) ?_
          refine lv_iload_n hx hb dX5_lastOf_21 rfl (lv_at hl 2 rfl) ?_
          refine lv_iload_n hx hb dX5_lastOf_22 rfl (lv_at hl 3 rfl) ?_
          refine lv_iload hx hb dX5_lastOf_23 (lv_at hl 4 rfl) ?_
          refine xv_i (i := 53) (As := [.ref (ad q0), .int (xI (bg : Int)), .int (xI (m9 : Int)), .int (xI K)]) (rest := []) ⟨hx, hb, hml, hown, hts⟩ hl.1 (c_X5_stands l D cA n ad en hn hM hq0 hqe bg m9 hL hL2 hf hfb hm2 k9 hk hk2 hh hhb K (by omega)) k_X5_stands u_ml_RX5_107 hK hN hP (by omega) hM.1 rfl rfl rfl rfl (Nat.le_of_ble_eq_true rfl) ⟨Nat.le_of_ble_eq_true rfl, Nat.le_of_ble_eq_true rfl⟩ ⟨Nat.le_of_ble_eq_true rfl, Nat.le_of_ble_eq_true rfl⟩ dX5_lastOf_25 ?_
          refine x_ifb_eq (tgt := 34) hx hb dX5_lastOf_28 (by decide)  (fun c_28 => ?_) (fun c_28 => ?_)
          · refine x_iinc (lv' := [(5, .int (xI (K + (-1)))), (0, .ref (ad 53)), (1, .ref (ad q0)), (2, .int (xI (bg : Int))), (3, .int (xI (m9 : Int)))]) (k := 4) hx hb dX5_lastOf_34 hl rfl (by decide) rfl (fun ls hl => ?_)
            refine lv_goto (tgt := 14) hx hb dX5_lastOf_37 (by decide) ?_
            exact ih (K - 1) (by omega) ((sp_rfind_f (P := (sp_st f m9 h k9)) (by omega) c_28).symm.trans hF) (by omega)  ls (lv_sub hl [1, 2, 3, 4, 0] rfl)
          · refine lv_iload hx hb dX5_lastOf_31 (lv_at hl 4 rfl) ?_
            exact xr_i hx hb hrt hlocks (by rw [← hF, sp_rfind_t (P := (sp_st f m9 h k9)) (by omega) c_28]) dX5_lastOf_33
    exact L14 _ _ (by omega) rfl (Nat.lt_succ_self _)  ls (lv_sub hl [1, 2, 3, 4, 0] rfl)

set_option maxRecDepth 20000 in
theorem c_X5_orderOf (l : Launch) (D : va_G) (cA : Nat → ClassId) (n : Nat) (ad : Nat → Nat) (en : Nat → va_E) (hn : 68 ≤ n) {q0 L9 : Nat} {g9 : Nat → Int} (hq0 : q0 < n) (hqe : en q0 = .inl (cA 0, L9, .inl (fun k => xI (g9 k)))) (bg m9 bg2 k9 : Nat) (hL : bg + m9 ≤ L9) (hL3 : bg2 + k9 ≤ L9) (hL2 : L9 ≤ 1600) {f h : Nat → Int} (hf : ∀ k : Nat, k < m9 → g9 (bg + k) = f k) (hfb : ∀ k : Nat, k < m9 → 0 ≤ f k ∧ f k ≤ 255) (hf2 : ∀ k : Nat, k < k9 → g9 (bg2 + k) = h k) (hhb : ∀ k : Nat, k < k9 → 0 ≤ h k ∧ h k ≤ 255) (hm2 : m9 ≤ 200) (hk2 : k9 ≤ 200) : Met l yX5_orderOf (Cond.code yX5_orderOf cX5_orderOf 6 (some .int) :: xU) (xrm 0 0) (va_Pc [.ref (ad q0), .int (xI (bg : Int)), .int (xI (m9 : Int)), .int (xI (bg2 : Int)), .int (xI (k9 : Int))] (xB D cA n ad en)) (vp_Si (fun z => z = xI (sp_ord f h ((m9 : Int) - (k9 : Int)) 0 (min (m9 : Int) (k9 : Int))))) 0 0 (fun _ => False) := by
  refine xmet (by decide) (Nat.le_of_ble_eq_true rfl) (fun p e s mm args below meth c ls hx hb hrt hml hown hts hlocks hname hB hl => ?_)
  obtain ⟨hP, hK, hN⟩ := hB
  have hl : lv_has ls 6 [(0, .ref (ad q0)), (1, .int (xI (bg : Int))), (2, .int (xI (m9 : Int))), (3, .int (xI (bg2 : Int))), (4, .int (xI (k9 : Int)))] := hl
  refine x_iconst hx hb dX5_orderOf_0 ?_
  refine lv_istore (lv' := [(5, .int (xI 0)), (0, .ref (ad q0)), (1, .int (xI (bg : Int))), (2, .int (xI (m9 : Int))), (3, .int (xI (bg2 : Int))), (4, .int (xI (k9 : Int)))]) hx hb dX5_orderOf_1 hl (by decide) rfl (fun ls hl => ?_)
  have L3 : ∀ (nn : Nat) (K : Nat), (K ≤ m9 ∧ K ≤ k9) → (sp_ord f h ((m9 : Int) - (k9 : Int)) (K : Int) (min (m9 : Int) (k9 : Int)) = sp_ord f h ((m9 : Int) - (k9 : Int)) 0 (min (m9 : Int) (k9 : Int))) → (m9 - K) < nn → ∀ ls : Array Slot, lv_has ls 6 [(0, .ref (ad q0)), (1, .int (xI (bg : Int))), (2, .int (xI (m9 : Int))), (3, .int (xI (bg2 : Int))), (4, .int (xI (k9 : Int))), (5, .int (xI (K : Int)))] → W p l e (xrm 0 0) s mm args below meth c s.heap [] 0 0 (MQ below (vp_Si (fun z => z = xI (sp_ord f h ((m9 : Int) - (k9 : Int)) 0 (min (m9 : Int) (k9 : Int))))) args s 0 0 (fun _ => False)) (F0 mm 3 ls []) := by
    intro nn
    induction nn with
    | zero =>
      intro K  hk8 hF hmm  ls hl
      exact absurd hmm (Nat.not_lt_zero _)
    | succ nn ih =>
      intro K  hk8 hF hmm  ls hl
      refine lv_iload hx hb dX5_orderOf_3 (lv_at hl 5 rfl) ?_
      refine lv_iload_n hx hb dX5_orderOf_5 rfl (lv_at hl 2 rfl) ?_
      refine x_icmp_ge (tgt := 51) hx hb dX5_orderOf_6 (by decide) (by omega) (fun c_6 => ?_) (fun c_6 => ?_)
      · refine lv_iload_n hx hb dX5_orderOf_51 rfl (lv_at hl 2 rfl) ?_
        refine lv_iload hx hb dX5_orderOf_52 (lv_at hl 4 rfl) ?_
        refine x_isub hx hb dX5_orderOf_54 ?_
        exact xr_i hx hb hrt hlocks (by rw [← hF, sp_ord_e (by omega)]) dX5_orderOf_55
      · refine lv_iload hx hb dX5_orderOf_9 (lv_at hl 5 rfl) ?_
        refine lv_iload hx hb dX5_orderOf_11 (lv_at hl 4 rfl) ?_
        refine x_icmp_ge (tgt := 51) hx hb dX5_orderOf_13 (by decide) (by omega) (fun c_13 => ?_) (fun c_13 => ?_)
        · refine lv_iload_n hx hb dX5_orderOf_51 rfl (lv_at hl 2 rfl) ?_
          refine lv_iload hx hb dX5_orderOf_52 (lv_at hl 4 rfl) ?_
          refine x_isub hx hb dX5_orderOf_54 ?_
          exact xr_i hx hb hrt hlocks (by rw [← hF, sp_ord_e (by omega)]) dX5_orderOf_55
        · have hfx := hfb K (by omega)
          have hhx := hhb K (by omega)
          refine lv_aload_n hx hb dX5_orderOf_16 rfl (lv_at hl 0 rfl) ?_
          refine lv_iload_n hx hb dX5_orderOf_17 rfl (lv_at hl 1 rfl) ?_
          refine lv_iload hx hb dX5_orderOf_18 (lv_at hl 5 rfl) ?_
          refine x_iadd hx hb dX5_orderOf_20 ?_
          refine x_ild hx hb hK hP (i := q0) (by omega) hqe (x := g9 (Int.toNat ((bg : Int) + (K : Int)))) (by omega) (rfl) dX5_orderOf_21 ?_
          refine x_to (f K) (by rw [show Int.toNat ((bg : Int) + (K : Int)) = bg + K by omega]; exact hf K (by omega)) ?_
          refine lv_aload_n hx hb dX5_orderOf_22 rfl (lv_at hl 0 rfl) ?_
          refine lv_iload_n hx hb dX5_orderOf_23 rfl (lv_at hl 3 rfl) ?_
          refine lv_iload hx hb dX5_orderOf_24 (lv_at hl 5 rfl) ?_
          refine x_iadd hx hb dX5_orderOf_26 ?_
          refine x_ild hx hb hK hP (i := q0) (by omega) hqe (x := g9 (Int.toNat ((bg2 : Int) + (K : Int)))) (by omega) (rfl) dX5_orderOf_27 ?_
          refine x_to (h K) (by rw [show Int.toNat ((bg2 : Int) + (K : Int)) = bg2 + K by omega]; exact hf2 K (by omega)) ?_
          refine x_icmp_eq (tgt := 45) hx hb dX5_orderOf_28 (by decide) (by omega) (fun c_28 => ?_) (fun c_28 => ?_)
          · refine x_iinc (lv' := [(5, .int (xI ((K : Int) + 1))), (0, .ref (ad q0)), (1, .int (xI (bg : Int))), (2, .int (xI (m9 : Int))), (3, .int (xI (bg2 : Int))), (4, .int (xI (k9 : Int)))]) (k := 5) hx hb dX5_orderOf_45 hl rfl (by decide) rfl (fun ls hl => ?_)
            refine lv_goto (tgt := 3) hx hb dX5_orderOf_48 (by decide) ?_
            exact ih (K + 1) (by omega) ((sp_ord_t (a := (K : Int)) (by omega) (by omega) (by rw [Int.toNat_natCast]; exact c_28)).symm.trans hF) (by omega)  ls (lv_sub hl [1, 2, 3, 4, 5, 0] rfl)
          · refine lv_aload_n hx hb dX5_orderOf_31 rfl (lv_at hl 0 rfl) ?_
            refine lv_iload_n hx hb dX5_orderOf_32 rfl (lv_at hl 1 rfl) ?_
            refine lv_iload hx hb dX5_orderOf_33 (lv_at hl 5 rfl) ?_
            refine x_iadd hx hb dX5_orderOf_35 ?_
            refine x_ild hx hb hK hP (i := q0) (by omega) hqe (x := g9 (Int.toNat ((bg : Int) + (K : Int)))) (by omega) (rfl) dX5_orderOf_36 ?_
            refine x_to (f K) (by rw [show Int.toNat ((bg : Int) + (K : Int)) = bg + K by omega]; exact hf K (by omega)) ?_
            refine lv_aload_n hx hb dX5_orderOf_37 rfl (lv_at hl 0 rfl) ?_
            refine lv_iload_n hx hb dX5_orderOf_38 rfl (lv_at hl 3 rfl) ?_
            refine lv_iload hx hb dX5_orderOf_39 (lv_at hl 5 rfl) ?_
            refine x_iadd hx hb dX5_orderOf_41 ?_
            refine x_ild hx hb hK hP (i := q0) (by omega) hqe (x := g9 (Int.toNat ((bg2 : Int) + (K : Int)))) (by omega) (rfl) dX5_orderOf_42 ?_
            refine x_to (h K) (by rw [show Int.toNat ((bg2 : Int) + (K : Int)) = bg2 + K by omega]; exact hf2 K (by omega)) ?_
            refine x_isub hx hb dX5_orderOf_43 ?_
            exact xr_i hx hb hrt hlocks (by rw [← hF, sp_ord_f (a := (K : Int)) (by omega) (by rw [Int.toNat_natCast]; exact c_28), Int.toNat_natCast]) dX5_orderOf_44
  exact L3 _ 0 (by omega) rfl (Nat.lt_succ_self _)  ls (lv_sub hl [1, 2, 3, 4, 5, 0] rfl)

set_option maxRecDepth 20000 in
theorem c_X5_bars (l : Launch) (D : va_G) (cA : Nat → ClassId) (n : Nat) (ad : Nat → Nat) (en : Nat → va_E) (hn : 68 ≤ n) {M : MO} (hM : MW cA ad en M) (z1 z2 v9 : Int) (hz1 : -2147483648 ≤ z1 ∧ z1 ≤ 2147483647) (hz2 : -2147483648 ≤ z2 ∧ z2 ≤ 2147483647) (ht1 : 0 ≤ z1 ∧ z1 < 8 → -1 ≤ M.toldMany (Int.toNat z1) ∧ M.toldMany (Int.toNat z1) ≤ 200) (hv : (¬ (0 ≤ z1 ∧ z1 < 8) ∧ v9 = -1001) ∨ ((0 ≤ z1 ∧ z1 < 8) ∧ ¬ (0 ≤ z2 ∧ z2 < 256) ∧ v9 = -1002) ∨ ((0 ≤ z1 ∧ z1 < 8) ∧ (0 ≤ z2 ∧ z2 < 256) ∧ M.toldMany (Int.toNat z1) < 0 ∧ v9 = -1003) ∨ ((0 ≤ z1 ∧ z1 < 8) ∧ (0 ≤ z2 ∧ z2 < 256) ∧ 0 ≤ M.toldMany (Int.toNat z1) ∧ v9 = 0)) : Met l yX5_bars (Cond.code yX5_bars cX5_bars 3 (some .int) :: xU) (xrm 2 45) (va_Pc [.ref (ad 53), .int (xI z1), .int (xI z2)] (xB D cA n ad en)) (vp_Si (fun z => z = xI v9)) 0 0 (fun _ => False) := by
  refine xmet (by decide) (Nat.le_of_ble_eq_true rfl) (fun p e s mm args below meth c ls hx hb hrt hml hown hts hlocks hname hB hl => ?_)
  obtain ⟨hP, hK, hN⟩ := hB
  have hl : lv_has ls 3 [(0, .ref (ad 53)), (1, .int (xI z1)), (2, .int (xI z2))] := hl
  refine lv_iload_n hx hb dX5_bars_0 rfl (lv_at hl 1 rfl) ?_
  refine xt_i (As := [.int (xI z1)]) (rest := []) ⟨hx, hb, hml, hown, hts⟩ hl.1 (c_X5_isText l z1 (by omega)) k_X5_isText u_ml_RX5_87 rfl rfl (Nat.le_of_ble_eq_true rfl) ⟨Nat.le_of_ble_eq_true rfl, Nat.le_of_ble_eq_true rfl⟩ ⟨Nat.le_of_ble_eq_true rfl, Nat.le_of_ble_eq_true rfl⟩ dX5_bars_1 ?_
  refine x_ifb_ne (tgt := 13) hx hb dX5_bars_4 (by decide)  (fun c_4 => ?_) (fun c_4 => ?_)
  · refine lv_iload_n hx hb dX5_bars_13 rfl (lv_at hl 2 rfl) ?_
    refine xt_i (As := [.int (xI z2)]) (rest := []) ⟨hx, hb, hml, hown, hts⟩ hl.1 (c_X5_isSign l z2 (by omega)) k_X5_isSign u_ml_RX5_74 rfl rfl (Nat.le_of_ble_eq_true rfl) ⟨Nat.le_of_ble_eq_true rfl, Nat.le_of_ble_eq_true rfl⟩ ⟨Nat.le_of_ble_eq_true rfl, Nat.le_of_ble_eq_true rfl⟩ dX5_bars_14 ?_
    refine x_ifb_ne (tgt := 26) hx hb dX5_bars_17 (by decide)  (fun c_17 => ?_) (fun c_17 => ?_)
    · refine lv_aload_n hx hb dX5_bars_26 rfl (lv_at hl 0 rfl) ?_
      refine x_get (T := TX5) (N := 17) hx hb hts uX5 hown hK hP (i := 53) (by omega) hM.1 rfl 3 (by decide) u_fl_RX5_19 rfl dX5_bars_27 ?_
      refine lv_iload_n hx hb dX5_bars_30 rfl (lv_at hl 1 rfl) ?_
      refine x_ild hx hb hK hP (i := 57) (by omega) hM.2.2.2.2.1 (x := M.toldMany (Int.toNat z1)) (by omega) (rfl) dX5_bars_31 ?_
      refine x_if_ge (tgt := 41) hx hb dX5_bars_32 (by decide) (by omega) (fun c_32 => ?_) (fun c_32 => ?_)
      · refine x_iconst hx hb dX5_bars_41 ?_
        exact xr_i hx hb hrt hlocks (congrArg xI (by omega)) dX5_bars_42
      · refine x_sipush hx hb dX5_bars_35 (by decide +kernel) ?_
        refine lv_goto (tgt := 42) hx hb dX5_bars_38 (by decide) ?_
        exact xr_i hx hb hrt hlocks (congrArg xI (by omega)) dX5_bars_42
    · refine x_sipush hx hb dX5_bars_20 (by decide +kernel) ?_
      refine lv_goto (tgt := 42) hx hb dX5_bars_23 (by decide) ?_
      exact xr_i hx hb hrt hlocks (congrArg xI (by omega)) dX5_bars_42
  · refine x_sipush hx hb dX5_bars_7 (by decide +kernel) ?_
    refine lv_goto (tgt := 42) hx hb dX5_bars_10 (by decide) ?_
    exact xr_i hx hb hrt hlocks (congrArg xI (by omega)) dX5_bars_42

set_option maxRecDepth 20000 in
theorem c_X5_barsTwo (l : Launch) (D : va_G) (cA : Nat → ClassId) (n : Nat) (ad : Nat → Nat) (en : Nat → va_E) (hn : 68 ≤ n) {M : MO} (hM : MW cA ad en M) (z1 z2 v9 : Int) (hz1 : -2147483648 ≤ z1 ∧ z1 ≤ 2147483647) (hz2 : -2147483648 ≤ z2 ∧ z2 ≤ 2147483647) (ht1 : 0 ≤ z1 ∧ z1 < 8 → -1 ≤ M.toldMany (Int.toNat z1) ∧ M.toldMany (Int.toNat z1) ≤ 200) (ht2 : 0 ≤ z2 ∧ z2 < 8 → -1 ≤ M.toldMany (Int.toNat z2) ∧ M.toldMany (Int.toNat z2) ≤ 200) (hv : (¬ ((0 ≤ z1 ∧ z1 < 8) ∧ (0 ≤ z2 ∧ z2 < 8)) ∧ v9 = -1001) ∨ (((0 ≤ z1 ∧ z1 < 8) ∧ (0 ≤ z2 ∧ z2 < 8)) ∧ (M.toldMany (Int.toNat z1) < 0 ∨ M.toldMany (Int.toNat z2) < 0) ∧ v9 = -1003) ∨ (((0 ≤ z1 ∧ z1 < 8) ∧ (0 ≤ z2 ∧ z2 < 8)) ∧ (0 ≤ M.toldMany (Int.toNat z1) ∧ 0 ≤ M.toldMany (Int.toNat z2)) ∧ v9 = 0)) : Met l yX5_barsTwo (Cond.code yX5_barsTwo cX5_barsTwo 3 (some .int) :: xU) (xrm 2 45) (va_Pc [.ref (ad 53), .int (xI z1), .int (xI z2)] (xB D cA n ad en)) (vp_Si (fun z => z = xI v9)) 0 0 (fun _ => False) := by
  refine xmet (by decide) (Nat.le_of_ble_eq_true rfl) (fun p e s mm args below meth c ls hx hb hrt hml hown hts hlocks hname hB hl => ?_)
  obtain ⟨hP, hK, hN⟩ := hB
  have hl : lv_has ls 3 [(0, .ref (ad 53)), (1, .int (xI z1)), (2, .int (xI z2))] := hl
  refine lv_iload_n hx hb dX5_barsTwo_0 rfl (lv_at hl 1 rfl) ?_
  refine xt_i (As := [.int (xI z1)]) (rest := []) ⟨hx, hb, hml, hown, hts⟩ hl.1 (c_X5_isText l z1 (by omega)) k_X5_isText u_ml_RX5_87 rfl rfl (Nat.le_of_ble_eq_true rfl) ⟨Nat.le_of_ble_eq_true rfl, Nat.le_of_ble_eq_true rfl⟩ ⟨Nat.le_of_ble_eq_true rfl, Nat.le_of_ble_eq_true rfl⟩ dX5_barsTwo_1 ?_
  refine x_ifb_eq (tgt := 14) hx hb dX5_barsTwo_4 (by decide)  (fun c_4 => ?_) (fun c_4 => ?_)
  · refine x_sipush hx hb dX5_barsTwo_14 (by decide +kernel) ?_
    refine lv_goto (tgt := 45) hx hb dX5_barsTwo_17 (by decide) ?_
    exact xr_i hx hb hrt hlocks (congrArg xI (by omega)) dX5_barsTwo_45
  · refine lv_iload_n hx hb dX5_barsTwo_7 rfl (lv_at hl 2 rfl) ?_
    refine xt_i (As := [.int (xI z2)]) (rest := []) ⟨hx, hb, hml, hown, hts⟩ hl.1 (c_X5_isText l z2 (by omega)) k_X5_isText u_ml_RX5_87 rfl rfl (Nat.le_of_ble_eq_true rfl) ⟨Nat.le_of_ble_eq_true rfl, Nat.le_of_ble_eq_true rfl⟩ ⟨Nat.le_of_ble_eq_true rfl, Nat.le_of_ble_eq_true rfl⟩ dX5_barsTwo_8 ?_
    refine x_ifb_ne (tgt := 20) hx hb dX5_barsTwo_11 (by decide)  (fun c_11 => ?_) (fun c_11 => ?_)
    · refine lv_aload_n hx hb dX5_barsTwo_20 rfl (lv_at hl 0 rfl) ?_
      refine x_get (T := TX5) (N := 17) hx hb hts uX5 hown hK hP (i := 53) (by omega) hM.1 rfl 3 (by decide) u_fl_RX5_19 rfl dX5_barsTwo_21 ?_
      refine lv_iload_n hx hb dX5_barsTwo_24 rfl (lv_at hl 1 rfl) ?_
      refine x_ild hx hb hK hP (i := 57) (by omega) hM.2.2.2.2.1 (x := M.toldMany (Int.toNat z1)) (by omega) (rfl) dX5_barsTwo_25 ?_
      refine x_if_lt (tgt := 38) hx hb dX5_barsTwo_26 (by decide) (by omega) (fun c_26 => ?_) (fun c_26 => ?_)
      · refine x_sipush hx hb dX5_barsTwo_38 (by decide +kernel) ?_
        refine lv_goto (tgt := 45) hx hb dX5_barsTwo_41 (by decide) ?_
        exact xr_i hx hb hrt hlocks (congrArg xI (by omega)) dX5_barsTwo_45
      · refine lv_aload_n hx hb dX5_barsTwo_29 rfl (lv_at hl 0 rfl) ?_
        refine x_get (T := TX5) (N := 17) hx hb hts uX5 hown hK hP (i := 53) (by omega) hM.1 rfl 3 (by decide) u_fl_RX5_19 rfl dX5_barsTwo_30 ?_
        refine lv_iload_n hx hb dX5_barsTwo_33 rfl (lv_at hl 2 rfl) ?_
        refine x_ild hx hb hK hP (i := 57) (by omega) hM.2.2.2.2.1 (x := M.toldMany (Int.toNat z2)) (by omega) (rfl) dX5_barsTwo_34 ?_
        refine x_if_ge (tgt := 44) hx hb dX5_barsTwo_35 (by decide) (by omega) (fun c_35 => ?_) (fun c_35 => ?_)
        · refine x_iconst hx hb dX5_barsTwo_44 ?_
          exact xr_i hx hb hrt hlocks (congrArg xI (by omega)) dX5_barsTwo_45
        · refine x_sipush hx hb dX5_barsTwo_38 (by decide +kernel) ?_
          refine lv_goto (tgt := 45) hx hb dX5_barsTwo_41 (by decide) ?_
          exact xr_i hx hb hrt hlocks (congrArg xI (by omega)) dX5_barsTwo_45
    · refine x_sipush hx hb dX5_barsTwo_14 (by decide +kernel) ?_
      refine lv_goto (tgt := 45) hx hb dX5_barsTwo_17 (by decide) ?_
      exact xr_i hx hb hrt hlocks (congrArg xI (by omega)) dX5_barsTwo_45

set_option maxRecDepth 20000 in
theorem c_X5_barsOne (l : Launch) (D : va_G) (cA : Nat → ClassId) (n : Nat) (ad : Nat → Nat) (en : Nat → va_E) (hn : 68 ≤ n) {M : MO} (hM : MW cA ad en M) (z1 z2 v9 : Int) (hz1 : -2147483648 ≤ z1 ∧ z1 ≤ 2147483647) (hz2 : -2147483648 ≤ z2 ∧ z2 ≤ 2147483647) (ht1 : 0 ≤ z1 ∧ z1 < 8 → -1 ≤ M.toldMany (Int.toNat z1) ∧ M.toldMany (Int.toNat z1) ≤ 200) (hv : (¬ ((0 ≤ z1 ∧ z1 < 8) ∧ (0 ≤ z2 ∧ z2 < 8)) ∧ v9 = -1001) ∨ (((0 ≤ z1 ∧ z1 < 8) ∧ (0 ≤ z2 ∧ z2 < 8)) ∧ M.toldMany (Int.toNat z1) < 0 ∧ v9 = -1003) ∨ (((0 ≤ z1 ∧ z1 < 8) ∧ (0 ≤ z2 ∧ z2 < 8)) ∧ 0 ≤ M.toldMany (Int.toNat z1) ∧ v9 = 0)) : Met l yX5_barsOne (Cond.code yX5_barsOne cX5_barsOne 3 (some .int) :: xU) (xrm 2 45) (va_Pc [.ref (ad 53), .int (xI z1), .int (xI z2)] (xB D cA n ad en)) (vp_Si (fun z => z = xI v9)) 0 0 (fun _ => False) := by
  refine xmet (by decide) (Nat.le_of_ble_eq_true rfl) (fun p e s mm args below meth c ls hx hb hrt hml hown hts hlocks hname hB hl => ?_)
  obtain ⟨hP, hK, hN⟩ := hB
  have hl : lv_has ls 3 [(0, .ref (ad 53)), (1, .int (xI z1)), (2, .int (xI z2))] := hl
  refine lv_iload_n hx hb dX5_barsOne_0 rfl (lv_at hl 1 rfl) ?_
  refine xt_i (As := [.int (xI z1)]) (rest := []) ⟨hx, hb, hml, hown, hts⟩ hl.1 (c_X5_isText l z1 (by omega)) k_X5_isText u_ml_RX5_87 rfl rfl (Nat.le_of_ble_eq_true rfl) ⟨Nat.le_of_ble_eq_true rfl, Nat.le_of_ble_eq_true rfl⟩ ⟨Nat.le_of_ble_eq_true rfl, Nat.le_of_ble_eq_true rfl⟩ dX5_barsOne_1 ?_
  refine x_ifb_eq (tgt := 14) hx hb dX5_barsOne_4 (by decide)  (fun c_4 => ?_) (fun c_4 => ?_)
  · refine x_sipush hx hb dX5_barsOne_14 (by decide +kernel) ?_
    refine lv_goto (tgt := 36) hx hb dX5_barsOne_17 (by decide) ?_
    exact xr_i hx hb hrt hlocks (congrArg xI (by omega)) dX5_barsOne_36
  · refine lv_iload_n hx hb dX5_barsOne_7 rfl (lv_at hl 2 rfl) ?_
    refine xt_i (As := [.int (xI z2)]) (rest := []) ⟨hx, hb, hml, hown, hts⟩ hl.1 (c_X5_isText l z2 (by omega)) k_X5_isText u_ml_RX5_87 rfl rfl (Nat.le_of_ble_eq_true rfl) ⟨Nat.le_of_ble_eq_true rfl, Nat.le_of_ble_eq_true rfl⟩ ⟨Nat.le_of_ble_eq_true rfl, Nat.le_of_ble_eq_true rfl⟩ dX5_barsOne_8 ?_
    refine x_ifb_ne (tgt := 20) hx hb dX5_barsOne_11 (by decide)  (fun c_11 => ?_) (fun c_11 => ?_)
    · refine lv_aload_n hx hb dX5_barsOne_20 rfl (lv_at hl 0 rfl) ?_
      refine x_get (T := TX5) (N := 17) hx hb hts uX5 hown hK hP (i := 53) (by omega) hM.1 rfl 3 (by decide) u_fl_RX5_19 rfl dX5_barsOne_21 ?_
      refine lv_iload_n hx hb dX5_barsOne_24 rfl (lv_at hl 1 rfl) ?_
      refine x_ild hx hb hK hP (i := 57) (by omega) hM.2.2.2.2.1 (x := M.toldMany (Int.toNat z1)) (by omega) (rfl) dX5_barsOne_25 ?_
      refine x_if_ge (tgt := 35) hx hb dX5_barsOne_26 (by decide) (by omega) (fun c_26 => ?_) (fun c_26 => ?_)
      · refine x_iconst hx hb dX5_barsOne_35 ?_
        exact xr_i hx hb hrt hlocks (congrArg xI (by omega)) dX5_barsOne_36
      · refine x_sipush hx hb dX5_barsOne_29 (by decide +kernel) ?_
        refine lv_goto (tgt := 36) hx hb dX5_barsOne_32 (by decide) ?_
        exact xr_i hx hb hrt hlocks (congrArg xI (by omega)) dX5_barsOne_36
    · refine x_sipush hx hb dX5_barsOne_14 (by decide +kernel) ?_
      refine lv_goto (tgt := 36) hx hb dX5_barsOne_17 (by decide) ?_
      exact xr_i hx hb hrt hlocks (congrArg xI (by omega)) dX5_barsOne_36
