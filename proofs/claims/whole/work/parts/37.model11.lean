theorem m_drop_t {ps pe : Nat → Nat} {w : Nat} (h : 0 < w) (hp : pe (w - 1) = ps (w - 1)) : sp_drop ps pe w = sp_drop ps pe (w - 1) := by
  obtain ⟨k, rfl⟩ : ∃ k, w = k + 1 := ⟨w - 1, by omega⟩
  rw [Nat.add_sub_cancel] at hp ⊢
  rw [sp_drop]
  exact if_pos (by omega)
theorem m_drop_f {ps pe : Nat → Nat} {w : Nat} (h : 0 < w) (hp : ¬ pe (w - 1) = ps (w - 1)) : sp_drop ps pe w = w := by
  obtain ⟨k, rfl⟩ : ∃ k, w = k + 1 := ⟨w - 1, by omega⟩
  rw [Nat.add_sub_cancel] at hp
  rw [sp_drop]
  exact if_neg (by omega)

set_option maxRecDepth 20000 in
theorem c_X5_split (l : Launch) (D : va_G) (cA : Nat → ClassId) (n : Nat) (ad : Nat → Nat) (en : Nat → va_E) (sz : Nat) (hn : 68 ≤ n) {M : MO} (hM : MW cA ad en M) {S : xSt} (hW : WF S) (hR : MR S M) (z1 : Int) (hz1 : -2147483648 ≤ z1 ∧ z1 ≤ 2147483647) (z2 : Int) (hz2 : -2147483648 ≤ z2 ∧ z2 ≤ 2147483647) (z3 : Int) (hz3 : -2147483648 ≤ z3 ∧ z3 ≤ 2147483647) : Met l yX5_split (Cond.code yX5_split cX5_split 6 (some .int) :: xU) (xrm 3 66) (va_Pc [.ref (ad 53), .int (xI z1), .int (xI z2), .int (xI z3)] (xM D cA n ad en sz)) (va_Qi (fun r u => r = xI (am_split S z1 z2 z3).1 ∧ ∃ M' : MO, MW cA ad u M' ∧ MR (am_split S z1 z2 z3).2 M' ∧ xO 53 68 en u) (xE D n ad) (xA n ad sz)) 0 0 (xA n ad sz) := by
  refine xmet (by decide) (Nat.le_of_ble_eq_true rfl) (fun p e s mm args below meth c ls hx hb hrt hml hown hts hlocks hname hB hl => ?_)
  obtain ⟨⟨hP, hK, hN⟩, hsz, hDt⟩ := hB
  have hD : xD (xA n ad sz) n ad := xD_self hDt sz
  have hA : ∀ q : Nat, s.heap.size ≤ q → xA n ad sz q := fun q h => Or.inr (by rw [← hsz]; exact h)
  have hS : va_S (xA n ad sz) s.heap s.heap [] := va_S.rf
  have hown : s.vm.findClass RX5 = some mm.cls := hown
  have hl : lv_has ls 6 [(0, .ref (ad 53)), (1, .int (xI z1)), (2, .int (xI z2)), (3, .int (xI z3))] := hl
  have ho : xO 53 68 en en := xO.rf
  rcases Classical.em (0 ≤ z1 ∧ z1 < 8) with hx_z1 | hx_z1
  · obtain ⟨t1, rfl⟩ : ∃ q : Nat, z1 = (q : Int) := ⟨z1.toNat, by omega⟩
    have h_t1 : t1 < 8 := by omega
    rcases hS_t1 : S.2.1 t1 with _ | r_t1
    · have hz_t1 : M.toldMany t1 = -1 := by have q := hR.2.1 t1 h_t1; rw [hS_t1] at q; exact q
      refine lv_iload_n hx hb dX5_split_0 rfl (lv_at hl 1 rfl) ?_
      refine xt_i (As := [.int (xI (t1 : Int))]) (rest := []) ⟨hx, hb, hml, hown, hts⟩ hl.1 (c_X5_isText l (t1 : Int) (by omega)) k_X5_isText u_ml_RX5_87 rfl rfl (Nat.le_of_ble_eq_true rfl) ⟨Nat.le_of_ble_eq_true rfl, Nat.le_of_ble_eq_true rfl⟩ ⟨Nat.le_of_ble_eq_true rfl, Nat.le_of_ble_eq_true rfl⟩ dX5_split_1 ?_
      refine x_top (q1 := True) ⟨fun _ => trivial, fun _ => by omega⟩ ?_
      refine x_ifb_ne (tgt := 11) hx hb dX5_split_4 (by decide)  (fun c_4 => ?_) (fun c_4 => absurd trivial c_4)
      refine lv_iload_n hx hb dX5_split_11 rfl (lv_at hl 2 rfl) ?_
      refine xt_i (As := [.int (xI z2)]) (rest := []) ⟨hx, hb, hml, hown, hts⟩ hl.1 (c_X5_isSeparator l z2 (by omega)) k_X5_isSeparator u_ml_RX5_151 rfl rfl (Nat.le_of_ble_eq_true rfl) ⟨Nat.le_of_ble_eq_true rfl, Nat.le_of_ble_eq_true rfl⟩ ⟨Nat.le_of_ble_eq_true rfl, Nat.le_of_ble_eq_true rfl⟩ dX5_split_12 ?_
      refine x_ifb_ne (tgt := 22) hx hb dX5_split_15 (by decide)  (fun c_15 => ?_) (fun c_15 => ?_)
      · refine lv_aload_n hx hb dX5_split_22 rfl (lv_at hl 0 rfl) ?_
        refine x_get (T := TX5) (N := 17) hx hb hts uX5 hown hK hP (i := 53) (by omega) hM.1 rfl 3 (by decide) u_fl_RX5_19 rfl dX5_split_23 ?_
        refine lv_iload_n hx hb dX5_split_26 rfl (lv_at hl 1 rfl) ?_
        refine x_ild hx hb hK hP (i := 57) (by omega) hM.2.2.2.2.1 (x := -1) (by omega) (congrArg xI hz_t1) dX5_split_27 ?_
        refine x_if_ge (tgt := 35) hx hb dX5_split_28 (by decide) (by omega) (fun c_28 => absurd c_28 (by omega)) (fun c_28 => ?_)
        refine x_sipush hx hb dX5_split_31 (by decide +kernel) ?_
        exact xe_i hx hb hrt hlocks hP hS ((by unfold am_split; simp only [Int.toNat_natCast]; rw [sp_if_f (by omega), sp_if_f (fun q => q c_15), sp_if_t (by simp [hS_t1])]; exact ⟨rfl, _, hM, hR, ho⟩)) dX5_split_34
      · refine x_sipush hx hb dX5_split_18 (by decide +kernel) ?_
        exact xe_i hx hb hrt hlocks hP hS ((by unfold am_split; simp only [Int.toNat_natCast]; rw [sp_if_f (by omega), sp_if_t c_15]; exact ⟨rfl, _, hM, hR, ho⟩)) dX5_split_21
    · have hT_t1 : M.toldMany t1 = (r_t1.1 : Int) ∧ ∀ k : Nat, k < r_t1.1 → M.told (200 * t1 + k) = r_t1.2 k := by have q := hR.2.1 t1 h_t1; rw [hS_t1] at q; exact q
      have hz_t1 := hT_t1.1
      have hm_t1 := (hW.2.1 t1 r_t1 h_t1 hS_t1).1
      have hfb_t1 := (hW.2.1 t1 r_t1 h_t1 hS_t1).2
      refine lv_iload_n hx hb dX5_split_0 rfl (lv_at hl 1 rfl) ?_
      refine xt_i (As := [.int (xI (t1 : Int))]) (rest := []) ⟨hx, hb, hml, hown, hts⟩ hl.1 (c_X5_isText l (t1 : Int) (by omega)) k_X5_isText u_ml_RX5_87 rfl rfl (Nat.le_of_ble_eq_true rfl) ⟨Nat.le_of_ble_eq_true rfl, Nat.le_of_ble_eq_true rfl⟩ ⟨Nat.le_of_ble_eq_true rfl, Nat.le_of_ble_eq_true rfl⟩ dX5_split_1 ?_
      refine x_top (q1 := True) ⟨fun _ => trivial, fun _ => by omega⟩ ?_
      refine x_ifb_ne (tgt := 11) hx hb dX5_split_4 (by decide)  (fun c_4 => ?_) (fun c_4 => absurd trivial c_4)
      refine lv_iload_n hx hb dX5_split_11 rfl (lv_at hl 2 rfl) ?_
      refine xt_i (As := [.int (xI z2)]) (rest := []) ⟨hx, hb, hml, hown, hts⟩ hl.1 (c_X5_isSeparator l z2 (by omega)) k_X5_isSeparator u_ml_RX5_151 rfl rfl (Nat.le_of_ble_eq_true rfl) ⟨Nat.le_of_ble_eq_true rfl, Nat.le_of_ble_eq_true rfl⟩ ⟨Nat.le_of_ble_eq_true rfl, Nat.le_of_ble_eq_true rfl⟩ dX5_split_12 ?_
      refine x_ifb_ne (tgt := 22) hx hb dX5_split_15 (by decide)  (fun c_15 => ?_) (fun c_15 => ?_)
      · refine lv_aload_n hx hb dX5_split_22 rfl (lv_at hl 0 rfl) ?_
        refine x_get (T := TX5) (N := 17) hx hb hts uX5 hown hK hP (i := 53) (by omega) hM.1 rfl 3 (by decide) u_fl_RX5_19 rfl dX5_split_23 ?_
        refine lv_iload_n hx hb dX5_split_26 rfl (lv_at hl 1 rfl) ?_
        refine x_ild hx hb hK hP (i := 57) (by omega) hM.2.2.2.2.1 (x := (r_t1.1 : Int)) (by omega) (congrArg xI hz_t1) dX5_split_27 ?_
        refine x_if_ge (tgt := 35) hx hb dX5_split_28 (by decide) (by omega) (fun c_28 => ?_) (fun c_28 => absurd c_28 (by omega))
        refine lv_aload_n hx hb dX5_split_35 rfl (lv_at hl 0 rfl) ?_
        refine x_iconst hx hb dX5_split_36 ?_
        refine x_put (T := TX5) (N := 17) (ty := .int) hx hb hts uX5 tyX5 tyX5_ok nmX5 hown hK hP hD hS (i := 53) (by omega) hM.1 rfl 10 (by decide) u_fl_RX5_148 rfl (by decide +kernel) rfl rfl (by show 10 < 17; decide) dX5_split_37 (fun H locs hP hS => ?_)
        obtain ⟨en1, he1⟩ : ∃ z, z = va_up en 53 (.inr (5, [.ref (ad 54), .ref (ad 55), .ref (ad 56), .ref (ad 57), .ref (ad 58), .int (xI M.rowMany), .ref (ad 59), .ref (ad 60), .ref (ad 61), .ref (ad 62), .int (xI 0), .ref (ad 63), .ref (ad 64), .ref (ad 65), .ref (ad 66), .ref (ad 67), .long M.h])) := ⟨_, rfl⟩
        have hP : va_P D vwCl (xw n ad en1) H := by rw [he1]; exact hP
        have hM : MW cA ad en1 (mO M.built M.builtMany M.told M.toldMany M.row M.rowMany M.figures M.partText M.partFrom M.partMany 0 M.cut M.cutMany M.isCut M.cutGives M.cutAt M.h) := by rw [he1]; exact hM.s_parts 0
        have ho : xO 53 68 en en1 := by rw [he1]; exact ho.up (by omega) (by omega)
        refine x_iconst hx hb dX5_split_40 ?_
        refine lv_istore (lv' := [(4, .int (xI 0)), (0, .ref (ad 53)), (1, .int (xI (t1 : Int))), (2, .int (xI z2)), (3, .int (xI z3))]) hx hb dX5_split_41 hl (by decide) rfl (fun ls hl => ?_)
        refine x_iconst hx hb dX5_split_43 ?_
        refine lv_istore (lv' := [(5, .int (xI 0)), (4, .int (xI 0)), (0, .ref (ad 53)), (1, .int (xI (t1 : Int))), (2, .int (xI z2)), (3, .int (xI z3))]) hx hb dX5_split_44 hl (by decide) rfl (fun ls hl => ?_)
        have L46 : ∀ (nn : Nat) (K : Nat) (fr : Nat) (pn : Nat) (ps : Nat → Nat) (pe : Nat → Nat) (T : Nat → Int) (A : Nat → Int) (C : Nat → Int) (ew46 : Nat → va_E) (H : Heap) (locs : List Loc), (K ≤ r_t1.1) → (sp_spl r_t1.2 z2 z3 K = (pn, fr, ps, pe)) → (∀ j : Nat, j < K → T j = r_t1.2 j) → (∀ i : Nat, i < pn → A i = ((ps i : Nat) : Int) ∧ C i = ((pe i : Nat) : Int) - ((ps i : Nat) : Int)) → (r_t1.1 - K) < nn → (MW cA ad ew46 (mO M.built M.builtMany M.told M.toldMany M.row M.rowMany M.figures T A C (pn : Int) M.cut M.cutMany M.isCut M.cutGives M.cutAt M.h)) → (xO 53 68 en ew46) → va_P D vwCl (xw n ad ew46) H → va_S (xA n ad sz) s.heap H locs → ∀ ls : Array Slot, lv_has ls 6 [(0, .ref (ad 53)), (1, .int (xI (t1 : Int))), (2, .int (xI z2)), (3, .int (xI z3)), (4, .int (xI (fr : Int))), (5, .int (xI (K : Int)))] → W p l e (xrm 3 66) s mm args below meth c H locs 0 0 (MQ below (va_Qi (fun r u => r = xI (am_split S (t1 : Int) z2 z3).1 ∧ ∃ M' : MO, MW cA ad u M' ∧ MR (am_split S (t1 : Int) z2 z3).2 M' ∧ xO 53 68 en u) (xE D n ad) (xA n ad sz)) args s 0 0 (xA n ad sz)) (F0 mm 46 ls []) := by
          intro nn
          induction nn with
          | zero =>
            intro K fr pn ps pe T A C ew46 H locs hk8 hsp hT hAC hmm hM ho hP hS ls hl
            exact absurd hmm (Nat.not_lt_zero _)
          | succ nn ih =>
            intro K fr pn ps pe T A C ew46 H locs hk8 hsp hT hAC hmm hM ho hP hS ls hl
            have hI := sp_spl_ok hsp
            have hI1 := hI.1
            have hI2 := hI.2.1
            refine lv_iload hx hb dX5_split_46 (lv_at hl 5 rfl) ?_
            refine lv_aload_n hx hb dX5_split_48 rfl (lv_at hl 0 rfl) ?_
            refine x_get (T := TX5) (N := 17) hx hb hts uX5 hown hK hP (i := 53) (by omega) (show ew46 53 = .inr (5, [.ref (ad 54), .ref (ad 55), .ref (ad 56), .ref (ad 57), .ref (ad 58), .int (xI M.rowMany), .ref (ad 59), .ref (ad 60), .ref (ad 61), .ref (ad 62), .int (xI (pn : Int)), .ref (ad 63), .ref (ad 64), .ref (ad 65), .ref (ad 66), .ref (ad 67), .long M.h]) from hM.1) rfl 3 (by decide) u_fl_RX5_19 rfl dX5_split_49 ?_
            refine lv_iload_n hx hb dX5_split_52 rfl (lv_at hl 1 rfl) ?_
            refine x_ild hx hb hK hP (i := 57) (by omega) hM.2.2.2.2.1 (x := (r_t1.1 : Int)) (by omega) (congrArg xI hz_t1) dX5_split_53 ?_
            refine x_icmp_ge (tgt := 122) hx hb dX5_split_54 (by decide) (by omega) (fun c_54 => ?_) (fun c_54 => ?_)
            · refine lv_aload_n hx hb dX5_split_122 rfl (lv_at hl 0 rfl) ?_
              refine x_get (T := TX5) (N := 17) hx hb hts uX5 hown hK hP (i := 53) (by omega) (show ew46 53 = .inr (5, [.ref (ad 54), .ref (ad 55), .ref (ad 56), .ref (ad 57), .ref (ad 58), .int (xI M.rowMany), .ref (ad 59), .ref (ad 60), .ref (ad 61), .ref (ad 62), .int (xI (pn : Int)), .ref (ad 63), .ref (ad 64), .ref (ad 65), .ref (ad 66), .ref (ad 67), .long M.h]) from hM.1) rfl 10 (by decide) u_fl_RX5_148 rfl dX5_split_123 ?_
              refine x_if_ne (tgt := 133) hx hb dX5_split_126 (by decide) (by omega) (fun c_126 => ?_) (fun c_126 => ?_)
              · refine x_iconst hx hb dX5_split_133 ?_
                refine lv_istore (lv' := [(5, .int (xI 0)), (0, .ref (ad 53)), (1, .int (xI (t1 : Int))), (2, .int (xI z2)), (3, .int (xI z3)), (4, .int (xI (fr : Int)))]) hx hb dX5_split_134 hl (by decide) rfl (fun ls hl => ?_)
                have hKe : K = r_t1.1 := by omega
                rw [hKe] at hsp hT
                have hACx : ∀ i : Nat, i < (pn + 1) → (sp_up A pn (fr : Int)) i = (((sp_up ps pn fr) i : Nat) : Int) ∧ (sp_up C pn ((r_t1.1 : Int) - (fr : Int))) i = (((sp_up pe pn r_t1.1) i : Nat) : Int) - (((sp_up ps pn fr) i : Nat) : Int) := fun i hi => by
                  by_cases q : i = pn
                  · rw [q, sp_up_s, sp_up_s, sp_up_s, sp_up_s]; exact ⟨rfl, rfl⟩
                  · rw [sp_up_n _ _ q, sp_up_n _ _ q, sp_up_n _ _ q, sp_up_n _ _ q]; exact hAC i (by omega)
                have hbn : ∀ i : Nat, i < pn + 1 → (sp_up ps pn fr) i ≤ (sp_up pe pn r_t1.1) i ∧ (sp_up pe pn r_t1.1) i ≤ r_t1.1 := fun i hi => by
                  by_cases q : i = pn
                  · rw [q, sp_up_s, sp_up_s]; omega
                  · rw [sp_up_n _ _ q, sp_up_n _ _ q]; have q5 := hI.2.2.2.2.1 i (by omega); omega
                have hsq : sp_split r_t1.2 r_t1.1 z2 z3 = sp_fin r_t1.2 r_t1.1 z3 (pn, fr, ps, pe) := by unfold sp_split; rw [hsp]
                have hok := sp_split_ok r_t1.2 r_t1.1 z2 z3
                refine lv_aload_n hx hb dX5_split_136 rfl (lv_at hl 1 rfl) ?_
                refine lv_iload hx hb dX5_split_137 (lv_at hl 5 rfl) ?_
                refine lv_aload_n hx hb dX5_split_139 rfl (lv_at hl 1 rfl) ?_
                refine x_get (T := TX5) (N := 17) hx hb hts uX5 hown hK hP (i := 53) (by omega) (show ew46 53 = .inr (5, [.ref (ad 54), .ref (ad 55), .ref (ad 56), .ref (ad 57), .ref (ad 58), .int (xI M.rowMany), .ref (ad 59), .ref (ad 60), .ref (ad 61), .ref (ad 62), .int (xI (pn : Int)), .ref (ad 63), .ref (ad 64), .ref (ad 65), .ref (ad 66), .ref (ad 67), .long M.h]) from hM.1) rfl 3 (by decide) u_fl_RX5_19 rfl dX5_split_140 ?_
                refine lv_iload_n hx hb dX5_split_143 rfl (lv_at hl 2 rfl) ?_
                refine x_ild hx hb hK hP (i := 57) (by omega) hM.2.2.2.2.1 (x := (r_t1.1 : Int)) (by omega) (congrArg xI hz_t1) dX5_split_144 ?_
                refine xm_v (i := 53) (As := [.int (xI (fr : Int)), .int (xI (r_t1.1 : Int))]) (rest := []) ⟨hx, hb, hml, hown, hts⟩ hl.1 (c_X5_layPart l D cA n ad ew46 _ hn hM (show 0 ≤ (pn : Int) ∧ (pn : Int) < 202 from by omega) (fr : Int) (r_t1.1 : Int)) k_X5_layPart u_ml_RX5_154 hK hN hP (by omega) (show ew46 53 = .inr (5, [.ref (ad 54), .ref (ad 55), .ref (ad 56), .ref (ad 57), .ref (ad 58), .int (xI M.rowMany), .ref (ad 59), .ref (ad 60), .ref (ad 61), .ref (ad 62), .int (xI (pn : Int)), .ref (ad 63), .ref (ad 64), .ref (ad 65), .ref (ad 66), .ref (ad 67), .long M.h]) from hM.1) rfl rfl rfl rfl (Nat.le_of_ble_eq_true rfl) ⟨Nat.le_of_ble_eq_true rfl, Nat.le_of_ble_eq_true rfl⟩ ⟨Nat.le_of_ble_eq_true rfl, Nat.le_of_ble_eq_true rfl⟩ dX5_split_145 hD hS hA (fun en2 H locs hp2 hP hS => ?_)
                obtain ⟨hM, ho2⟩ := hp2
                have hM : MW cA ad en2 (mO M.built M.builtMany M.told M.toldMany M.row M.rowMany M.figures T (sp_up A pn (fr : Int)) (sp_up C pn ((r_t1.1 : Int) - (fr : Int))) ((pn + 1 : Nat) : Int) M.cut M.cutMany M.isCut M.cutGives M.cutAt M.h) := hM
                have ho := ho.tr ho2
                have L148 : ∀ (nn : Nat) (w : Nat) (ew148 : Nat → va_E) (H : Heap) (locs : List Loc), (w ≤ pn + 1) → ((z3 = 0 ∧ 0 < pn → sp_drop (sp_up ps pn fr) (sp_up pe pn r_t1.1) w = sp_drop (sp_up ps pn fr) (sp_up pe pn r_t1.1) (pn + 1)) ∧ (¬ (z3 = 0 ∧ 0 < pn) → w = pn + 1)) → (w) < nn → (MW cA ad ew148 (mO M.built M.builtMany M.told M.toldMany M.row M.rowMany M.figures T (sp_up A pn (fr : Int)) (sp_up C pn ((r_t1.1 : Int) - (fr : Int))) (w : Int) M.cut M.cutMany M.isCut M.cutGives M.cutAt M.h)) → (xO 53 68 en ew148) → va_P D vwCl (xw n ad ew148) H → va_S (xA n ad sz) s.heap H locs → ∀ ls : Array Slot, lv_has ls 6 [(0, .ref (ad 53)), (1, .int (xI (t1 : Int))), (2, .int (xI z2)), (3, .int (xI z3)), (4, .int (xI (fr : Int))), (5, .int (xI 0))] → W p l e (xrm 3 66) s mm args below meth c H locs 0 0 (MQ below (va_Qi (fun r u => r = xI (am_split S (t1 : Int) z2 z3).1 ∧ ∃ M' : MO, MW cA ad u M' ∧ MR (am_split S (t1 : Int) z2 z3).2 M' ∧ xO 53 68 en u) (xE D n ad) (xA n ad sz)) args s 0 0 (xA n ad sz)) (F0 mm 148 ls []) := by
                  intro nn
                  induction nn with
                  | zero =>
                    intro w ew148 H locs hw hw2 hmm hM ho hP hS ls hl
                    exact absurd hmm (Nat.not_lt_zero _)
                  | succ nn ih =>
                    intro w ew148 H locs hw hw2 hmm hM ho hP hS ls hl
                    refine lv_iload_n hx hb dX5_split_148 rfl (lv_at hl 3 rfl) ?_
                    refine x_if_ne (tgt := 191) hx hb dX5_split_149 (by decide) (by omega) (fun c_149 => ?_) (fun c_149 => ?_)
                    · refine lv_aload_n hx hb dX5_split_191 rfl (lv_at hl 0 rfl) ?_
                      refine x_get (T := TX5) (N := 17) hx hb hts uX5 hown hK hP (i := 53) (by omega) (show ew148 53 = .inr (5, [.ref (ad 54), .ref (ad 55), .ref (ad 56), .ref (ad 57), .ref (ad 58), .int (xI M.rowMany), .ref (ad 59), .ref (ad 60), .ref (ad 61), .ref (ad 62), .int (xI (w : Int)), .ref (ad 63), .ref (ad 64), .ref (ad 65), .ref (ad 66), .ref (ad 67), .long M.h]) from hM.1) rfl 10 (by decide) u_fl_RX5_148 rfl dX5_split_192 ?_
                      exact xe_i hx hb hrt hlocks hP hS ((by unfold am_split; simp only [Int.toNat_natCast]; simp only [sp_get_s hS_t1]; rw [sp_if_f (by omega), sp_if_f (fun q => q c_15), sp_if_f (by simp [hS_t1])]; have hcn : w = (sp_fin r_t1.2 r_t1.1 z3 (pn, fr, ps, pe)).1 := (by show w = if z3 = 0 ∧ 0 < pn then sp_drop (sp_up ps pn fr) (sp_up pe pn r_t1.1) (pn + 1) else pn + 1; rw [if_neg (by omega)]; exact hw2.2 (by omega)); rw [hsq] at hok ⊢; have q9 := hR.pts (P := sp_fin r_t1.2 r_t1.1 z3 (pn, fr, ps, pe)) (z := (w : Int)) (a := (sp_up A pn (fr : Int))) (c := (sp_up C pn ((r_t1.1 : Int) - (fr : Int)))) (f := T) ⟨congrArg _ hcn, fun k hk => ⟨(hACx k (by omega)).1, (hACx k (by omega)).2, fun i h1 h2 => hT i (by have h3 := (hok.2.1 k hk).2; omega)⟩⟩; exact ⟨congrArg xI (congrArg _ hcn), _, hM, q9, ho⟩)) dX5_split_195
                    · refine lv_iload hx hb dX5_split_152 (lv_at hl 5 rfl) ?_
                      refine x_if_ne (tgt := 191) hx hb dX5_split_154 (by decide) (by omega) (fun c_154 => absurd c_154 (by omega)) (fun c_154 => ?_)
                      refine lv_aload_n hx hb dX5_split_157 rfl (lv_at hl 0 rfl) ?_
                      refine x_get (T := TX5) (N := 17) hx hb hts uX5 hown hK hP (i := 53) (by omega) (show ew148 53 = .inr (5, [.ref (ad 54), .ref (ad 55), .ref (ad 56), .ref (ad 57), .ref (ad 58), .int (xI M.rowMany), .ref (ad 59), .ref (ad 60), .ref (ad 61), .ref (ad 62), .int (xI (w : Int)), .ref (ad 63), .ref (ad 64), .ref (ad 65), .ref (ad 66), .ref (ad 67), .long M.h]) from hM.1) rfl 10 (by decide) u_fl_RX5_148 rfl dX5_split_158 ?_
                      refine x_if_le (tgt := 191) hx hb dX5_split_161 (by decide) (by omega) (fun c_161 => ?_) (fun c_161 => ?_)
                      · refine lv_aload_n hx hb dX5_split_191 rfl (lv_at hl 0 rfl) ?_
                        refine x_get (T := TX5) (N := 17) hx hb hts uX5 hown hK hP (i := 53) (by omega) (show ew148 53 = .inr (5, [.ref (ad 54), .ref (ad 55), .ref (ad 56), .ref (ad 57), .ref (ad 58), .int (xI M.rowMany), .ref (ad 59), .ref (ad 60), .ref (ad 61), .ref (ad 62), .int (xI (w : Int)), .ref (ad 63), .ref (ad 64), .ref (ad 65), .ref (ad 66), .ref (ad 67), .long M.h]) from hM.1) rfl 10 (by decide) u_fl_RX5_148 rfl dX5_split_192 ?_
                        exact xe_i hx hb hrt hlocks hP hS ((by unfold am_split; simp only [Int.toNat_natCast]; simp only [sp_get_s hS_t1]; rw [sp_if_f (by omega), sp_if_f (fun q => q c_15), sp_if_f (by simp [hS_t1])]; have hcn : w = (sp_fin r_t1.2 r_t1.1 z3 (pn, fr, ps, pe)).1 := (by show w = if z3 = 0 ∧ 0 < pn then sp_drop (sp_up ps pn fr) (sp_up pe pn r_t1.1) (pn + 1) else pn + 1; rw [if_pos (by omega), ← hw2.1 (by omega), show w = 0 by omega]; rfl); rw [hsq] at hok ⊢; have q9 := hR.pts (P := sp_fin r_t1.2 r_t1.1 z3 (pn, fr, ps, pe)) (z := (w : Int)) (a := (sp_up A pn (fr : Int))) (c := (sp_up C pn ((r_t1.1 : Int) - (fr : Int)))) (f := T) ⟨congrArg _ hcn, fun k hk => ⟨(hACx k (by omega)).1, (hACx k (by omega)).2, fun i h1 h2 => hT i (by have h3 := (hok.2.1 k hk).2; omega)⟩⟩; exact ⟨congrArg xI (congrArg _ hcn), _, hM, q9, ho⟩)) dX5_split_195
                      · refine lv_aload_n hx hb dX5_split_164 rfl (lv_at hl 0 rfl) ?_
                        refine x_get (T := TX5) (N := 17) hx hb hts uX5 hown hK hP (i := 53) (by omega) (show ew148 53 = .inr (5, [.ref (ad 54), .ref (ad 55), .ref (ad 56), .ref (ad 57), .ref (ad 58), .int (xI M.rowMany), .ref (ad 59), .ref (ad 60), .ref (ad 61), .ref (ad 62), .int (xI (w : Int)), .ref (ad 63), .ref (ad 64), .ref (ad 65), .ref (ad 66), .ref (ad 67), .long M.h]) from hM.1) rfl 9 (by decide) u_fl_RX5_34 rfl dX5_split_165 ?_
                        refine lv_aload_n hx hb dX5_split_168 rfl (lv_at hl 0 rfl) ?_
                        refine x_get (T := TX5) (N := 17) hx hb hts uX5 hown hK hP (i := 53) (by omega) (show ew148 53 = .inr (5, [.ref (ad 54), .ref (ad 55), .ref (ad 56), .ref (ad 57), .ref (ad 58), .int (xI M.rowMany), .ref (ad 59), .ref (ad 60), .ref (ad 61), .ref (ad 62), .int (xI (w : Int)), .ref (ad 63), .ref (ad 64), .ref (ad 65), .ref (ad 66), .ref (ad 67), .long M.h]) from hM.1) rfl 10 (by decide) u_fl_RX5_148 rfl dX5_split_169 ?_
                        refine x_iconst hx hb dX5_split_172 ?_
                        refine x_isub hx hb dX5_split_173 ?_
                        refine x_ild hx hb hK hP (i := 62) (by omega) hM.2.2.2.2.2.2.2.2.2.1 (x := (sp_up C pn ((r_t1.1 : Int) - (fr : Int))) (Int.toNat ((w : Int) - 1))) (by omega) (rfl) dX5_split_174 ?_
                        have hbw := hbn (w - 1) (by omega)
                        refine x_to ((((sp_up pe pn r_t1.1) (w - 1) : Nat) : Int) - (((sp_up ps pn fr) (w - 1) : Nat) : Int)) (by rw [show Int.toNat ((w : Int) - 1) = w - 1 by omega]; exact (hACx (w - 1) (by omega)).2) ?_
                        refine x_if_ne (tgt := 191) hx hb dX5_split_175 (by decide) (by omega) (fun c_175 => ?_) (fun c_175 => ?_)
                        · refine lv_aload_n hx hb dX5_split_191 rfl (lv_at hl 0 rfl) ?_
                          refine x_get (T := TX5) (N := 17) hx hb hts uX5 hown hK hP (i := 53) (by omega) (show ew148 53 = .inr (5, [.ref (ad 54), .ref (ad 55), .ref (ad 56), .ref (ad 57), .ref (ad 58), .int (xI M.rowMany), .ref (ad 59), .ref (ad 60), .ref (ad 61), .ref (ad 62), .int (xI (w : Int)), .ref (ad 63), .ref (ad 64), .ref (ad 65), .ref (ad 66), .ref (ad 67), .long M.h]) from hM.1) rfl 10 (by decide) u_fl_RX5_148 rfl dX5_split_192 ?_
                          exact xe_i hx hb hrt hlocks hP hS ((by unfold am_split; simp only [Int.toNat_natCast]; simp only [sp_get_s hS_t1]; rw [sp_if_f (by omega), sp_if_f (fun q => q c_15), sp_if_f (by simp [hS_t1])]; have hcn : w = (sp_fin r_t1.2 r_t1.1 z3 (pn, fr, ps, pe)).1 := (by show w = if z3 = 0 ∧ 0 < pn then sp_drop (sp_up ps pn fr) (sp_up pe pn r_t1.1) (pn + 1) else pn + 1; rw [if_pos (by omega), ← hw2.1 (by omega)]; exact (m_drop_f (by omega) (by omega)).symm); rw [hsq] at hok ⊢; have q9 := hR.pts (P := sp_fin r_t1.2 r_t1.1 z3 (pn, fr, ps, pe)) (z := (w : Int)) (a := (sp_up A pn (fr : Int))) (c := (sp_up C pn ((r_t1.1 : Int) - (fr : Int)))) (f := T) ⟨congrArg _ hcn, fun k hk => ⟨(hACx k (by omega)).1, (hACx k (by omega)).2, fun i h1 h2 => hT i (by have h3 := (hok.2.1 k hk).2; omega)⟩⟩; exact ⟨congrArg xI (congrArg _ hcn), _, hM, q9, ho⟩)) dX5_split_195
                        · refine lv_aload_n hx hb dX5_split_178 rfl (lv_at hl 0 rfl) ?_
                          refine lv_dup hx hb dX5_split_179 rfl ?_
                          refine x_get (T := TX5) (N := 17) hx hb hts uX5 hown hK hP (i := 53) (by omega) (show ew148 53 = .inr (5, [.ref (ad 54), .ref (ad 55), .ref (ad 56), .ref (ad 57), .ref (ad 58), .int (xI M.rowMany), .ref (ad 59), .ref (ad 60), .ref (ad 61), .ref (ad 62), .int (xI (w : Int)), .ref (ad 63), .ref (ad 64), .ref (ad 65), .ref (ad 66), .ref (ad 67), .long M.h]) from hM.1) rfl 10 (by decide) u_fl_RX5_148 rfl dX5_split_180 ?_
                          refine x_iconst hx hb dX5_split_183 ?_
                          refine x_isub hx hb dX5_split_184 ?_
                          refine x_put (T := TX5) (N := 17) (ty := .int) hx hb hts uX5 tyX5 tyX5_ok nmX5 hown hK hP hD hS (i := 53) (by omega) (show ew148 53 = .inr (5, [.ref (ad 54), .ref (ad 55), .ref (ad 56), .ref (ad 57), .ref (ad 58), .int (xI M.rowMany), .ref (ad 59), .ref (ad 60), .ref (ad 61), .ref (ad 62), .int (xI (w : Int)), .ref (ad 63), .ref (ad 64), .ref (ad 65), .ref (ad 66), .ref (ad 67), .long M.h]) from hM.1) rfl 10 (by decide) u_fl_RX5_148 rfl (by decide +kernel) rfl rfl (by show 10 < 17; decide) dX5_split_185 (fun H locs hP hS => ?_)
                          obtain ⟨en3, he3⟩ : ∃ z, z = va_up ew148 53 (.inr (5, [.ref (ad 54), .ref (ad 55), .ref (ad 56), .ref (ad 57), .ref (ad 58), .int (xI M.rowMany), .ref (ad 59), .ref (ad 60), .ref (ad 61), .ref (ad 62), .int (xI ((w : Int) - 1)), .ref (ad 63), .ref (ad 64), .ref (ad 65), .ref (ad 66), .ref (ad 67), .long M.h])) := ⟨_, rfl⟩
                          have hP : va_P D vwCl (xw n ad en3) H := by rw [he3]; exact hP
                          have hM : MW cA ad en3 (mO M.built M.builtMany M.told M.toldMany M.row M.rowMany M.figures T (sp_up A pn (fr : Int)) (sp_up C pn ((r_t1.1 : Int) - (fr : Int))) ((w : Int) - 1) M.cut M.cutMany M.isCut M.cutGives M.cutAt M.h) := by rw [he3]; exact hM.s_parts ((w : Int) - 1)
                          have ho : xO 53 68 en en3 := by rw [he3]; exact ho.up (by omega) (by omega)
                          refine lv_goto (tgt := 148) hx hb dX5_split_188 (by decide) ?_
                          exact ih (w - 1) en3 _ _ (by omega) (⟨fun h => (m_drop_t (by omega) (by omega)).symm.trans (hw2.1 h), fun h => absurd ⟨c_149, by omega⟩ h⟩) (by omega) (by rw [show ((w - 1 : Nat) : Int) = (w : Int) - 1 by omega]; exact hM) ho hP hS ls (lv_sub hl [0, 1, 2, 3, 4, 5] rfl)
                exact L148 _ (pn + 1) en2 _ _ (Nat.le_refl _) (⟨fun _ => rfl, fun _ => rfl⟩) (Nat.lt_succ_self _) hM ho hP hS ls (lv_sub hl [1, 2, 3, 4, 5, 0] rfl)
              · refine x_iconst hx hb dX5_split_129 ?_
                refine lv_goto (tgt := 134) hx hb dX5_split_130 (by decide) ?_
                refine lv_istore (lv' := [(5, .int (xI 1)), (0, .ref (ad 53)), (1, .int (xI (t1 : Int))), (2, .int (xI z2)), (3, .int (xI z3)), (4, .int (xI (fr : Int)))]) hx hb dX5_split_134 hl (by decide) rfl (fun ls hl => ?_)
                have hKe : K = r_t1.1 := by omega
                rw [hKe] at hsp hT
                have hACx : ∀ i : Nat, i < (pn + 1) → (sp_up A pn (fr : Int)) i = (((sp_up ps pn fr) i : Nat) : Int) ∧ (sp_up C pn ((r_t1.1 : Int) - (fr : Int))) i = (((sp_up pe pn r_t1.1) i : Nat) : Int) - (((sp_up ps pn fr) i : Nat) : Int) := fun i hi => by
                  by_cases q : i = pn
                  · rw [q, sp_up_s, sp_up_s, sp_up_s, sp_up_s]; exact ⟨rfl, rfl⟩
                  · rw [sp_up_n _ _ q, sp_up_n _ _ q, sp_up_n _ _ q, sp_up_n _ _ q]; exact hAC i (by omega)
                have hbn : ∀ i : Nat, i < pn + 1 → (sp_up ps pn fr) i ≤ (sp_up pe pn r_t1.1) i ∧ (sp_up pe pn r_t1.1) i ≤ r_t1.1 := fun i hi => by
                  by_cases q : i = pn
                  · rw [q, sp_up_s, sp_up_s]; omega
                  · rw [sp_up_n _ _ q, sp_up_n _ _ q]; have q5 := hI.2.2.2.2.1 i (by omega); omega
                have hsq : sp_split r_t1.2 r_t1.1 z2 z3 = sp_fin r_t1.2 r_t1.1 z3 (pn, fr, ps, pe) := by unfold sp_split; rw [hsp]
                have hok := sp_split_ok r_t1.2 r_t1.1 z2 z3
                refine lv_aload_n hx hb dX5_split_136 rfl (lv_at hl 1 rfl) ?_
                refine lv_iload hx hb dX5_split_137 (lv_at hl 5 rfl) ?_
                refine lv_aload_n hx hb dX5_split_139 rfl (lv_at hl 1 rfl) ?_
                refine x_get (T := TX5) (N := 17) hx hb hts uX5 hown hK hP (i := 53) (by omega) (show ew46 53 = .inr (5, [.ref (ad 54), .ref (ad 55), .ref (ad 56), .ref (ad 57), .ref (ad 58), .int (xI M.rowMany), .ref (ad 59), .ref (ad 60), .ref (ad 61), .ref (ad 62), .int (xI (pn : Int)), .ref (ad 63), .ref (ad 64), .ref (ad 65), .ref (ad 66), .ref (ad 67), .long M.h]) from hM.1) rfl 3 (by decide) u_fl_RX5_19 rfl dX5_split_140 ?_
                refine lv_iload_n hx hb dX5_split_143 rfl (lv_at hl 2 rfl) ?_
                refine x_ild hx hb hK hP (i := 57) (by omega) hM.2.2.2.2.1 (x := (r_t1.1 : Int)) (by omega) (congrArg xI hz_t1) dX5_split_144 ?_
                refine xm_v (i := 53) (As := [.int (xI (fr : Int)), .int (xI (r_t1.1 : Int))]) (rest := []) ⟨hx, hb, hml, hown, hts⟩ hl.1 (c_X5_layPart l D cA n ad ew46 _ hn hM (show 0 ≤ (pn : Int) ∧ (pn : Int) < 202 from by omega) (fr : Int) (r_t1.1 : Int)) k_X5_layPart u_ml_RX5_154 hK hN hP (by omega) (show ew46 53 = .inr (5, [.ref (ad 54), .ref (ad 55), .ref (ad 56), .ref (ad 57), .ref (ad 58), .int (xI M.rowMany), .ref (ad 59), .ref (ad 60), .ref (ad 61), .ref (ad 62), .int (xI (pn : Int)), .ref (ad 63), .ref (ad 64), .ref (ad 65), .ref (ad 66), .ref (ad 67), .long M.h]) from hM.1) rfl rfl rfl rfl (Nat.le_of_ble_eq_true rfl) ⟨Nat.le_of_ble_eq_true rfl, Nat.le_of_ble_eq_true rfl⟩ ⟨Nat.le_of_ble_eq_true rfl, Nat.le_of_ble_eq_true rfl⟩ dX5_split_145 hD hS hA (fun en4 H locs hp4 hP hS => ?_)
                obtain ⟨hM, ho2⟩ := hp4
                have hM : MW cA ad en4 (mO M.built M.builtMany M.told M.toldMany M.row M.rowMany M.figures T (sp_up A pn (fr : Int)) (sp_up C pn ((r_t1.1 : Int) - (fr : Int))) ((pn + 1 : Nat) : Int) M.cut M.cutMany M.isCut M.cutGives M.cutAt M.h) := hM
                have ho := ho.tr ho2
                have L148 : ∀ (nn : Nat) (w : Nat) (ew148 : Nat → va_E) (H : Heap) (locs : List Loc), (w ≤ pn + 1) → ((z3 = 0 ∧ 0 < pn → sp_drop (sp_up ps pn fr) (sp_up pe pn r_t1.1) w = sp_drop (sp_up ps pn fr) (sp_up pe pn r_t1.1) (pn + 1)) ∧ (¬ (z3 = 0 ∧ 0 < pn) → w = pn + 1)) → (w) < nn → (MW cA ad ew148 (mO M.built M.builtMany M.told M.toldMany M.row M.rowMany M.figures T (sp_up A pn (fr : Int)) (sp_up C pn ((r_t1.1 : Int) - (fr : Int))) (w : Int) M.cut M.cutMany M.isCut M.cutGives M.cutAt M.h)) → (xO 53 68 en ew148) → va_P D vwCl (xw n ad ew148) H → va_S (xA n ad sz) s.heap H locs → ∀ ls : Array Slot, lv_has ls 6 [(0, .ref (ad 53)), (1, .int (xI (t1 : Int))), (2, .int (xI z2)), (3, .int (xI z3)), (4, .int (xI (fr : Int))), (5, .int (xI 1))] → W p l e (xrm 3 66) s mm args below meth c H locs 0 0 (MQ below (va_Qi (fun r u => r = xI (am_split S (t1 : Int) z2 z3).1 ∧ ∃ M' : MO, MW cA ad u M' ∧ MR (am_split S (t1 : Int) z2 z3).2 M' ∧ xO 53 68 en u) (xE D n ad) (xA n ad sz)) args s 0 0 (xA n ad sz)) (F0 mm 148 ls []) := by
                  intro nn
                  induction nn with
                  | zero =>
                    intro w ew148 H locs hw hw2 hmm hM ho hP hS ls hl
                    exact absurd hmm (Nat.not_lt_zero _)
                  | succ nn ih =>
                    intro w ew148 H locs hw hw2 hmm hM ho hP hS ls hl
                    refine lv_iload_n hx hb dX5_split_148 rfl (lv_at hl 3 rfl) ?_
                    refine x_if_ne (tgt := 191) hx hb dX5_split_149 (by decide) (by omega) (fun c_149 => ?_) (fun c_149 => ?_)
                    · refine lv_aload_n hx hb dX5_split_191 rfl (lv_at hl 0 rfl) ?_
                      refine x_get (T := TX5) (N := 17) hx hb hts uX5 hown hK hP (i := 53) (by omega) (show ew148 53 = .inr (5, [.ref (ad 54), .ref (ad 55), .ref (ad 56), .ref (ad 57), .ref (ad 58), .int (xI M.rowMany), .ref (ad 59), .ref (ad 60), .ref (ad 61), .ref (ad 62), .int (xI (w : Int)), .ref (ad 63), .ref (ad 64), .ref (ad 65), .ref (ad 66), .ref (ad 67), .long M.h]) from hM.1) rfl 10 (by decide) u_fl_RX5_148 rfl dX5_split_192 ?_
                      exact xe_i hx hb hrt hlocks hP hS ((by unfold am_split; simp only [Int.toNat_natCast]; simp only [sp_get_s hS_t1]; rw [sp_if_f (by omega), sp_if_f (fun q => q c_15), sp_if_f (by simp [hS_t1])]; have hcn : w = (sp_fin r_t1.2 r_t1.1 z3 (pn, fr, ps, pe)).1 := (by show w = if z3 = 0 ∧ 0 < pn then sp_drop (sp_up ps pn fr) (sp_up pe pn r_t1.1) (pn + 1) else pn + 1; rw [if_neg (by omega)]; exact hw2.2 (by omega)); rw [hsq] at hok ⊢; have q9 := hR.pts (P := sp_fin r_t1.2 r_t1.1 z3 (pn, fr, ps, pe)) (z := (w : Int)) (a := (sp_up A pn (fr : Int))) (c := (sp_up C pn ((r_t1.1 : Int) - (fr : Int)))) (f := T) ⟨congrArg _ hcn, fun k hk => ⟨(hACx k (by omega)).1, (hACx k (by omega)).2, fun i h1 h2 => hT i (by have h3 := (hok.2.1 k hk).2; omega)⟩⟩; exact ⟨congrArg xI (congrArg _ hcn), _, hM, q9, ho⟩)) dX5_split_195
                    · refine lv_iload hx hb dX5_split_152 (lv_at hl 5 rfl) ?_
                      refine x_if_ne (tgt := 191) hx hb dX5_split_154 (by decide) (by omega) (fun c_154 => ?_) (fun c_154 => absurd c_154 (by omega))
                      refine lv_aload_n hx hb dX5_split_191 rfl (lv_at hl 0 rfl) ?_
                      refine x_get (T := TX5) (N := 17) hx hb hts uX5 hown hK hP (i := 53) (by omega) (show ew148 53 = .inr (5, [.ref (ad 54), .ref (ad 55), .ref (ad 56), .ref (ad 57), .ref (ad 58), .int (xI M.rowMany), .ref (ad 59), .ref (ad 60), .ref (ad 61), .ref (ad 62), .int (xI (w : Int)), .ref (ad 63), .ref (ad 64), .ref (ad 65), .ref (ad 66), .ref (ad 67), .long M.h]) from hM.1) rfl 10 (by decide) u_fl_RX5_148 rfl dX5_split_192 ?_
                      exact xe_i hx hb hrt hlocks hP hS ((by unfold am_split; simp only [Int.toNat_natCast]; simp only [sp_get_s hS_t1]; rw [sp_if_f (by omega), sp_if_f (fun q => q c_15), sp_if_f (by simp [hS_t1])]; have hcn : w = (sp_fin r_t1.2 r_t1.1 z3 (pn, fr, ps, pe)).1 := (by show w = if z3 = 0 ∧ 0 < pn then sp_drop (sp_up ps pn fr) (sp_up pe pn r_t1.1) (pn + 1) else pn + 1; rw [if_neg (by omega)]; exact hw2.2 (by omega)); rw [hsq] at hok ⊢; have q9 := hR.pts (P := sp_fin r_t1.2 r_t1.1 z3 (pn, fr, ps, pe)) (z := (w : Int)) (a := (sp_up A pn (fr : Int))) (c := (sp_up C pn ((r_t1.1 : Int) - (fr : Int)))) (f := T) ⟨congrArg _ hcn, fun k hk => ⟨(hACx k (by omega)).1, (hACx k (by omega)).2, fun i h1 h2 => hT i (by have h3 := (hok.2.1 k hk).2; omega)⟩⟩; exact ⟨congrArg xI (congrArg _ hcn), _, hM, q9, ho⟩)) dX5_split_195
                exact L148 _ (pn + 1) en4 _ _ (Nat.le_refl _) (⟨fun _ => rfl, fun _ => rfl⟩) (Nat.lt_succ_self _) hM ho hP hS ls (lv_sub hl [1, 2, 3, 4, 5, 0] rfl)
            · refine lv_aload_n hx hb dX5_split_57 rfl (lv_at hl 0 rfl) ?_
              refine x_get (T := TX5) (N := 17) hx hb hts uX5 hown hK hP (i := 53) (by omega) (show ew46 53 = .inr (5, [.ref (ad 54), .ref (ad 55), .ref (ad 56), .ref (ad 57), .ref (ad 58), .int (xI M.rowMany), .ref (ad 59), .ref (ad 60), .ref (ad 61), .ref (ad 62), .int (xI (pn : Int)), .ref (ad 63), .ref (ad 64), .ref (ad 65), .ref (ad 66), .ref (ad 67), .long M.h]) from hM.1) rfl 7 (by decide) u_fl_RX5_28 rfl dX5_split_58 ?_
              refine lv_iload hx hb dX5_split_61 (lv_at hl 5 rfl) ?_
              refine lv_aload_n hx hb dX5_split_63 rfl (lv_at hl 0 rfl) ?_
              refine x_get (T := TX5) (N := 17) hx hb hts uX5 hown hK hP (i := 53) (by omega) (show ew46 53 = .inr (5, [.ref (ad 54), .ref (ad 55), .ref (ad 56), .ref (ad 57), .ref (ad 58), .int (xI M.rowMany), .ref (ad 59), .ref (ad 60), .ref (ad 61), .ref (ad 62), .int (xI (pn : Int)), .ref (ad 63), .ref (ad 64), .ref (ad 65), .ref (ad 66), .ref (ad 67), .long M.h]) from hM.1) rfl 2 (by decide) u_fl_RX5_16 rfl dX5_split_64 ?_
              refine x_sipush hx hb dX5_split_67 (by decide +kernel) ?_
              refine lv_iload_n hx hb dX5_split_70 rfl (lv_at hl 1 rfl) ?_
              refine x_imul hx hb dX5_split_71 ?_
              refine lv_iload hx hb dX5_split_72 (lv_at hl 5 rfl) ?_
              refine x_iadd hx hb dX5_split_74 ?_
              refine x_ild hx hb hK hP (i := 56) (by omega) hM.2.2.2.1 (x := M.told ((200 * t1) + K)) (by omega) (congrArg (fun q => xI (M.told q)) (show Int.toNat ((200 * (t1 : Int)) + (K : Int)) = (200 * t1) + K by omega)) dX5_split_75 ?_
              refine x_to (r_t1.2 K) (hT_t1.2 K (by omega)) ?_
              refine x_ist hx hb hK hP hD hS (i := 60) (by omega) hM.2.2.2.2.2.2.2.1 (by omega) dX5_split_76 (fun H locs hP hS => ?_)
              obtain ⟨en5, he5⟩ : ∃ z, z = va_up ew46 60 (.inl (cA 0, 200, .inl (upd (fun k => xI (T k)) K (xI (r_t1.2 K))))) := ⟨_, rfl⟩
              have hP : va_P D vwCl (xw n ad en5) H := by rw [he5]; exact hP
              have hM : MW cA ad en5 (mO M.built M.builtMany M.told M.toldMany M.row M.rowMany M.figures (sp_up T K (r_t1.2 K)) A C (pn : Int) M.cut M.cutMany M.isCut M.cutGives M.cutAt M.h) := by rw [he5]; exact hM.u_partText K (r_t1.2 K)
              have ho : xO 53 68 en en5 := by rw [he5]; exact ho.up (by omega) (by omega)
              refine lv_aload_n hx hb dX5_split_77 rfl (lv_at hl 0 rfl) ?_
              refine x_get (T := TX5) (N := 17) hx hb hts uX5 hown hK hP (i := 53) (by omega) (show en5 53 = .inr (5, [.ref (ad 54), .ref (ad 55), .ref (ad 56), .ref (ad 57), .ref (ad 58), .int (xI M.rowMany), .ref (ad 59), .ref (ad 60), .ref (ad 61), .ref (ad 62), .int (xI (pn : Int)), .ref (ad 63), .ref (ad 64), .ref (ad 65), .ref (ad 66), .ref (ad 67), .long M.h]) from hM.1) rfl 7 (by decide) u_fl_RX5_28 rfl dX5_split_78 ?_
              refine lv_iload hx hb dX5_split_81 (lv_at hl 5 rfl) ?_
              refine x_ild hx hb hK hP (i := 60) (by omega) hM.2.2.2.2.2.2.2.1 (x := (sp_up T K (r_t1.2 K)) K) (by omega) (rfl) dX5_split_83 ?_
              have hfx := hfb_t1 K (by omega)
              refine x_to (r_t1.2 K) (sp_up_s _ _ _) ?_
              refine lv_iload_n hx hb dX5_split_84 rfl (lv_at hl 2 rfl) ?_
              refine x_icmp_ne (tgt := 116) hx hb dX5_split_85 (by decide) (by omega) (fun c_85 => ?_) (fun c_85 => ?_)
              · refine x_iinc (lv' := [(5, .int (xI ((K : Int) + 1))), (0, .ref (ad 53)), (1, .int (xI (t1 : Int))), (2, .int (xI z2)), (3, .int (xI z3)), (4, .int (xI (fr : Int)))]) (k := 5) hx hb dX5_split_116 hl rfl (by decide) rfl (fun ls hl => ?_)
                refine lv_goto (tgt := 46) hx hb dX5_split_119 (by decide) ?_
                exact ih (K + 1) fr pn ps pe (sp_up T K (r_t1.2 K)) A C en5 _ _ (by omega) (sp_spl_f hsp (by omega)) (fun j hj => by
      by_cases q : j = K
      · rw [q, sp_up_s]
      · rw [sp_up_n _ _ q]; exact hT j (by omega)) hAC (by omega) hM ho hP hS ls (lv_sub hl [1, 2, 3, 4, 5, 0] rfl)
              · refine lv_iload_n hx hb dX5_split_88 rfl (lv_at hl 3 rfl) ?_
                refine x_if_le (tgt := 102) hx hb dX5_split_89 (by decide) (by omega) (fun c_89 => ?_) (fun c_89 => ?_)
                · refine lv_aload_n hx hb dX5_split_102 rfl (lv_at hl 0 rfl) ?_
                  refine lv_iload hx hb dX5_split_103 (lv_at hl 4 rfl) ?_
                  refine lv_iload hx hb dX5_split_105 (lv_at hl 5 rfl) ?_
                  refine xm_v (i := 53) (As := [.int (xI (fr : Int)), .int (xI (K : Int))]) (rest := []) ⟨hx, hb, hml, hown, hts⟩ hl.1 (c_X5_layPart l D cA n ad en5 _ hn hM (show 0 ≤ (pn : Int) ∧ (pn : Int) < 202 from by omega) (fr : Int) (K : Int)) k_X5_layPart u_ml_RX5_154 hK hN hP (by omega) (show en5 53 = .inr (5, [.ref (ad 54), .ref (ad 55), .ref (ad 56), .ref (ad 57), .ref (ad 58), .int (xI M.rowMany), .ref (ad 59), .ref (ad 60), .ref (ad 61), .ref (ad 62), .int (xI (pn : Int)), .ref (ad 63), .ref (ad 64), .ref (ad 65), .ref (ad 66), .ref (ad 67), .long M.h]) from hM.1) rfl rfl rfl rfl (Nat.le_of_ble_eq_true rfl) ⟨Nat.le_of_ble_eq_true rfl, Nat.le_of_ble_eq_true rfl⟩ ⟨Nat.le_of_ble_eq_true rfl, Nat.le_of_ble_eq_true rfl⟩ dX5_split_107 hD hS hA (fun en6 H locs hp6 hP hS => ?_)
                  obtain ⟨hM, ho2⟩ := hp6
                  have hM : MW cA ad en6 (mO M.built M.builtMany M.told M.toldMany M.row M.rowMany M.figures (sp_up T K (r_t1.2 K)) (sp_up A pn (fr : Int)) (sp_up C pn ((K : Int) - (fr : Int))) ((pn + 1 : Nat) : Int) M.cut M.cutMany M.isCut M.cutGives M.cutAt M.h) := hM
                  have ho := ho.tr ho2
                  refine lv_iload hx hb dX5_split_110 (lv_at hl 5 rfl) ?_
                  refine x_iconst hx hb dX5_split_112 ?_
                  refine x_iadd hx hb dX5_split_113 ?_
                  refine lv_istore (lv' := [(4, .int (xI ((K : Int) + 1))), (0, .ref (ad 53)), (1, .int (xI (t1 : Int))), (2, .int (xI z2)), (3, .int (xI z3)), (5, .int (xI (K : Int)))]) hx hb dX5_split_114 hl (by decide) rfl (fun ls hl => ?_)
                  refine x_iinc (lv' := [(5, .int (xI ((K : Int) + 1))), (4, .int (xI ((K : Int) + 1))), (0, .ref (ad 53)), (1, .int (xI (t1 : Int))), (2, .int (xI z2)), (3, .int (xI z3))]) (k := 5) hx hb dX5_split_116 hl rfl (by decide) rfl (fun ls hl => ?_)
                  refine lv_goto (tgt := 46) hx hb dX5_split_119 (by decide) ?_
                  exact ih (K + 1) (K + 1) (pn + 1) (sp_up ps pn fr) (sp_up pe pn K) (sp_up T K (r_t1.2 K)) (sp_up A pn (fr : Int)) (sp_up C pn ((K : Int) - (fr : Int))) en6 _ _ (by omega) (sp_spl_t hsp c_85 (Or.inl c_89)) (fun j hj => by
      by_cases q : j = K
      · rw [q, sp_up_s]
      · rw [sp_up_n _ _ q]; exact hT j (by omega)) (fun i hi => by
      by_cases q : i = pn
      · rw [q, sp_up_s, sp_up_s, sp_up_s, sp_up_s]; exact ⟨rfl, rfl⟩
      · rw [sp_up_n _ _ q, sp_up_n _ _ q, sp_up_n _ _ q, sp_up_n _ _ q]; exact hAC i (by omega)) (by omega) hM ho hP hS ls (lv_sub hl [2, 3, 4, 5, 1, 0] rfl)
                · refine lv_aload_n hx hb dX5_split_92 rfl (lv_at hl 0 rfl) ?_
                  refine x_get (T := TX5) (N := 17) hx hb hts uX5 hown hK hP (i := 53) (by omega) (show en5 53 = .inr (5, [.ref (ad 54), .ref (ad 55), .ref (ad 56), .ref (ad 57), .ref (ad 58), .int (xI M.rowMany), .ref (ad 59), .ref (ad 60), .ref (ad 61), .ref (ad 62), .int (xI (pn : Int)), .ref (ad 63), .ref (ad 64), .ref (ad 65), .ref (ad 66), .ref (ad 67), .long M.h]) from hM.1) rfl 10 (by decide) u_fl_RX5_148 rfl dX5_split_93 ?_
                  refine lv_iload_n hx hb dX5_split_96 rfl (lv_at hl 3 rfl) ?_
                  refine x_iconst hx hb dX5_split_97 ?_
                  refine x_isub hx hb dX5_split_98 ?_
                  refine x_icmp_ge (tgt := 116) hx hb dX5_split_99 (by decide) (by omega) (fun c_99 => ?_) (fun c_99 => ?_)
                  · refine x_iinc (lv' := [(5, .int (xI ((K : Int) + 1))), (0, .ref (ad 53)), (1, .int (xI (t1 : Int))), (2, .int (xI z2)), (3, .int (xI z3)), (4, .int (xI (fr : Int)))]) (k := 5) hx hb dX5_split_116 hl rfl (by decide) rfl (fun ls hl => ?_)
                    refine lv_goto (tgt := 46) hx hb dX5_split_119 (by decide) ?_
                    exact ih (K + 1) fr pn ps pe (sp_up T K (r_t1.2 K)) A C en5 _ _ (by omega) (sp_spl_f hsp (by omega)) (fun j hj => by
      by_cases q : j = K
      · rw [q, sp_up_s]
      · rw [sp_up_n _ _ q]; exact hT j (by omega)) hAC (by omega) hM ho hP hS ls (lv_sub hl [1, 2, 3, 4, 5, 0] rfl)
                  · refine lv_aload_n hx hb dX5_split_102 rfl (lv_at hl 0 rfl) ?_
                    refine lv_iload hx hb dX5_split_103 (lv_at hl 4 rfl) ?_
                    refine lv_iload hx hb dX5_split_105 (lv_at hl 5 rfl) ?_
                    refine xm_v (i := 53) (As := [.int (xI (fr : Int)), .int (xI (K : Int))]) (rest := []) ⟨hx, hb, hml, hown, hts⟩ hl.1 (c_X5_layPart l D cA n ad en5 _ hn hM (show 0 ≤ (pn : Int) ∧ (pn : Int) < 202 from by omega) (fr : Int) (K : Int)) k_X5_layPart u_ml_RX5_154 hK hN hP (by omega) (show en5 53 = .inr (5, [.ref (ad 54), .ref (ad 55), .ref (ad 56), .ref (ad 57), .ref (ad 58), .int (xI M.rowMany), .ref (ad 59), .ref (ad 60), .ref (ad 61), .ref (ad 62), .int (xI (pn : Int)), .ref (ad 63), .ref (ad 64), .ref (ad 65), .ref (ad 66), .ref (ad 67), .long M.h]) from hM.1) rfl rfl rfl rfl (Nat.le_of_ble_eq_true rfl) ⟨Nat.le_of_ble_eq_true rfl, Nat.le_of_ble_eq_true rfl⟩ ⟨Nat.le_of_ble_eq_true rfl, Nat.le_of_ble_eq_true rfl⟩ dX5_split_107 hD hS hA (fun en7 H locs hp7 hP hS => ?_)
                    obtain ⟨hM, ho2⟩ := hp7
                    have hM : MW cA ad en7 (mO M.built M.builtMany M.told M.toldMany M.row M.rowMany M.figures (sp_up T K (r_t1.2 K)) (sp_up A pn (fr : Int)) (sp_up C pn ((K : Int) - (fr : Int))) ((pn + 1 : Nat) : Int) M.cut M.cutMany M.isCut M.cutGives M.cutAt M.h) := hM
                    have ho := ho.tr ho2
                    refine lv_iload hx hb dX5_split_110 (lv_at hl 5 rfl) ?_
                    refine x_iconst hx hb dX5_split_112 ?_
                    refine x_iadd hx hb dX5_split_113 ?_
                    refine lv_istore (lv' := [(4, .int (xI ((K : Int) + 1))), (0, .ref (ad 53)), (1, .int (xI (t1 : Int))), (2, .int (xI z2)), (3, .int (xI z3)), (5, .int (xI (K : Int)))]) hx hb dX5_split_114 hl (by decide) rfl (fun ls hl => ?_)
                    refine x_iinc (lv' := [(5, .int (xI ((K : Int) + 1))), (4, .int (xI ((K : Int) + 1))), (0, .ref (ad 53)), (1, .int (xI (t1 : Int))), (2, .int (xI z2)), (3, .int (xI z3))]) (k := 5) hx hb dX5_split_116 hl rfl (by decide) rfl (fun ls hl => ?_)
                    refine lv_goto (tgt := 46) hx hb dX5_split_119 (by decide) ?_
                    exact ih (K + 1) (K + 1) (pn + 1) (sp_up ps pn fr) (sp_up pe pn K) (sp_up T K (r_t1.2 K)) (sp_up A pn (fr : Int)) (sp_up C pn ((K : Int) - (fr : Int))) en7 _ _ (by omega) (sp_spl_t hsp c_85 (Or.inr c_99)) (fun j hj => by
      by_cases q : j = K
      · rw [q, sp_up_s]
      · rw [sp_up_n _ _ q]; exact hT j (by omega)) (fun i hi => by
      by_cases q : i = pn
      · rw [q, sp_up_s, sp_up_s, sp_up_s, sp_up_s]; exact ⟨rfl, rfl⟩
      · rw [sp_up_n _ _ q, sp_up_n _ _ q, sp_up_n _ _ q, sp_up_n _ _ q]; exact hAC i (by omega)) (by omega) hM ho hP hS ls (lv_sub hl [2, 3, 4, 5, 1, 0] rfl)
        exact L46 _ 0 0 0 (fun _ => 0) (fun _ => 0) M.partText M.partFrom M.partMany en1 _ _ (Nat.zero_le _) (by rw [sp_spl]) (fun j hj => absurd hj (Nat.not_lt_zero _)) (fun i hi => absurd hi (Nat.not_lt_zero _)) (Nat.lt_succ_self _) hM ho hP hS ls (lv_sub hl [2, 3, 4, 5, 1, 0] rfl)
      · refine x_sipush hx hb dX5_split_18 (by decide +kernel) ?_
        exact xe_i hx hb hrt hlocks hP hS ((by unfold am_split; simp only [Int.toNat_natCast]; simp only [sp_get_s hS_t1]; rw [sp_if_f (by omega), sp_if_t c_15]; exact ⟨rfl, _, hM, hR, ho⟩)) dX5_split_21
  · refine lv_iload_n hx hb dX5_split_0 rfl (lv_at hl 1 rfl) ?_
    refine xt_i (As := [.int (xI z1)]) (rest := []) ⟨hx, hb, hml, hown, hts⟩ hl.1 (c_X5_isText l z1 (by omega)) k_X5_isText u_ml_RX5_87 rfl rfl (Nat.le_of_ble_eq_true rfl) ⟨Nat.le_of_ble_eq_true rfl, Nat.le_of_ble_eq_true rfl⟩ ⟨Nat.le_of_ble_eq_true rfl, Nat.le_of_ble_eq_true rfl⟩ dX5_split_1 ?_
    refine x_top (q1 := False) ⟨fun h => absurd h (by omega), False.elim⟩ ?_
    refine x_ifb_ne (tgt := 11) hx hb dX5_split_4 (by decide)  (fun c_4 => absurd c_4 id) (fun c_4 => ?_)
    refine x_sipush hx hb dX5_split_7 (by decide +kernel) ?_
    exact xe_i hx hb hrt hlocks hP hS ((by unfold am_split; rw [sp_if_t (by omega)]; exact ⟨rfl, _, hM, hR, ho⟩)) dX5_split_10
