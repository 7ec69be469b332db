set_option maxRecDepth 20000 in
theorem c_X5_swap (l : Launch) (D : va_G) (cA : Nat → ClassId) (n : Nat) (ad : Nat → Nat) (en : Nat → va_E) (sz : Nat) (hn : 68 ≤ n) {M : MO} (hM : MW cA ad en M) {S : xSt} (hW : WF S) (hR : MR S M) (z1 : Int) (hz1 : -2147483648 ≤ z1 ∧ z1 ≤ 2147483647) (z2 : Int) (hz2 : -2147483648 ≤ z2 ∧ z2 ≤ 2147483647) (z3 : Int) (hz3 : -2147483648 ≤ z3 ∧ z3 ≤ 2147483647) (z4 : Int) (hz4 : -2147483648 ≤ z4 ∧ z4 ≤ 2147483647) : Met l yX5_swap (Cond.code yX5_swap cX5_swap 6 (some .int) :: xU) (xrm 2 45) (va_Pc [.ref (ad 53), .int (xI z1), .int (xI z2), .int (xI z3), .int (xI z4)] (xM D cA n ad en sz)) (va_Qi (fun r u => r = xI (am_swap S z1 z2 z3 z4).1 ∧ ∃ M' : MO, MW cA ad u M' ∧ MR (am_swap S z1 z2 z3 z4).2 M' ∧ xO 53 68 en u) (xE D n ad) (xA n ad sz)) 0 0 (xA n ad sz) := by
  refine xmet (by decide) (Nat.le_of_ble_eq_true rfl) (fun p e s mm args below meth c ls hx hb hrt hml hown hts hlocks hname hB hl => ?_)
  obtain ⟨⟨hP, hK, hN⟩, hsz, hDt⟩ := hB
  have hD : xD (xA n ad sz) n ad := xD_self hDt sz
  have hA : ∀ q : Nat, s.heap.size ≤ q → xA n ad sz q := fun q h => Or.inr (by rw [← hsz]; exact h)
  have hS : va_S (xA n ad sz) s.heap s.heap [] := va_S.rf
  have hown : s.vm.findClass RX5 = some mm.cls := hown
  have hl : lv_has ls 6 [(0, .ref (ad 53)), (1, .int (xI z1)), (2, .int (xI z2)), (3, .int (xI z3)), (4, .int (xI z4))] := hl
  have ho : xO 53 68 en en := xO.rf
  rcases Classical.em (0 ≤ z1 ∧ z1 < 8) with hx_z1 | hx_z1
  · obtain ⟨t1, rfl⟩ : ∃ q : Nat, z1 = (q : Int) := ⟨z1.toNat, by omega⟩
    have h_t1 : t1 < 8 := by omega
    rcases hS_t1 : S.2.1 t1 with _ | r_t1
    · rcases Classical.em (0 ≤ z4 ∧ z4 < 8) with hx_z4 | hx_z4
      · obtain ⟨t4, rfl⟩ : ∃ q : Nat, z4 = (q : Int) := ⟨z4.toNat, by omega⟩
        have h_t4 : t4 < 8 := by omega
        have hz_t1 : M.toldMany t1 = -1 := by have q := hR.2.1 t1 h_t1; rw [hS_t1] at q; exact q
        refine lv_iload_n hx hb dX5_swap_0 rfl (lv_at hl 1 rfl) ?_
        refine xt_i (As := [.int (xI (t1 : Int))]) (rest := []) ⟨hx, hb, hml, hown, hts⟩ hl.1 (c_X5_isText l (t1 : Int) (by omega)) k_X5_isText u_ml_RX5_87 rfl rfl (Nat.le_of_ble_eq_true rfl) ⟨Nat.le_of_ble_eq_true rfl, Nat.le_of_ble_eq_true rfl⟩ ⟨Nat.le_of_ble_eq_true rfl, Nat.le_of_ble_eq_true rfl⟩ dX5_swap_1 ?_
        refine x_top (q1 := True) ⟨fun _ => trivial, fun _ => by omega⟩ ?_
        refine x_ifb_eq (tgt := 15) hx hb dX5_swap_4 (by decide)  (fun c_4 => absurd trivial c_4) (fun c_4 => ?_)
        refine lv_iload hx hb dX5_swap_7 (lv_at hl 4 rfl) ?_
        refine xt_i (As := [.int (xI (t4 : Int))]) (rest := []) ⟨hx, hb, hml, hown, hts⟩ hl.1 (c_X5_isText l (t4 : Int) (by omega)) k_X5_isText u_ml_RX5_87 rfl rfl (Nat.le_of_ble_eq_true rfl) ⟨Nat.le_of_ble_eq_true rfl, Nat.le_of_ble_eq_true rfl⟩ ⟨Nat.le_of_ble_eq_true rfl, Nat.le_of_ble_eq_true rfl⟩ dX5_swap_9 ?_
        refine x_top (q1 := True) ⟨fun _ => trivial, fun _ => by omega⟩ ?_
        refine x_ifb_ne (tgt := 19) hx hb dX5_swap_12 (by decide)  (fun c_12 => ?_) (fun c_12 => absurd trivial c_12)
        refine lv_iload_n hx hb dX5_swap_19 rfl (lv_at hl 2 rfl) ?_
        refine xt_i (As := [.int (xI z2)]) (rest := []) ⟨hx, hb, hml, hown, hts⟩ hl.1 (c_X5_isSign l z2 (by omega)) k_X5_isSign u_ml_RX5_74 rfl rfl (Nat.le_of_ble_eq_true rfl) ⟨Nat.le_of_ble_eq_true rfl, Nat.le_of_ble_eq_true rfl⟩ ⟨Nat.le_of_ble_eq_true rfl, Nat.le_of_ble_eq_true rfl⟩ dX5_swap_20 ?_
        refine x_ifb_eq (tgt := 33) hx hb dX5_swap_23 (by decide)  (fun c_23 => ?_) (fun c_23 => ?_)
        · refine x_sipush hx hb dX5_swap_33 (by decide +kernel) ?_
          exact xe_i hx hb hrt hlocks hP hS ((by unfold am_swap; simp only [Int.toNat_natCast]; rw [sp_if_f (by omega), sp_if_t (by omega)]; exact ⟨rfl, _, hM, hR, ho⟩)) dX5_swap_36
        · refine lv_iload_n hx hb dX5_swap_26 rfl (lv_at hl 3 rfl) ?_
          refine xt_i (As := [.int (xI z3)]) (rest := []) ⟨hx, hb, hml, hown, hts⟩ hl.1 (c_X5_isSign l z3 (by omega)) k_X5_isSign u_ml_RX5_74 rfl rfl (Nat.le_of_ble_eq_true rfl) ⟨Nat.le_of_ble_eq_true rfl, Nat.le_of_ble_eq_true rfl⟩ ⟨Nat.le_of_ble_eq_true rfl, Nat.le_of_ble_eq_true rfl⟩ dX5_swap_27 ?_
          refine x_ifb_ne (tgt := 37) hx hb dX5_swap_30 (by decide)  (fun c_30 => ?_) (fun c_30 => ?_)
          · refine lv_aload_n hx hb dX5_swap_37 rfl (lv_at hl 0 rfl) ?_
            refine x_get (T := TX5) (N := 17) hx hb hts uX5 hown hK hP (i := 53) (by omega) hM.1 rfl 3 (by decide) u_fl_RX5_19 rfl dX5_swap_38 ?_
            refine lv_iload_n hx hb dX5_swap_41 rfl (lv_at hl 1 rfl) ?_
            refine x_ild hx hb hK hP (i := 57) (by omega) hM.2.2.2.2.1 (x := -1) (by omega) (congrArg xI hz_t1) dX5_swap_42 ?_
            refine x_if_ge (tgt := 50) hx hb dX5_swap_43 (by decide) (by omega) (fun c_43 => absurd c_43 (by omega)) (fun c_43 => ?_)
            refine x_sipush hx hb dX5_swap_46 (by decide +kernel) ?_
            exact xe_i hx hb hrt hlocks hP hS ((by unfold am_swap; simp only [Int.toNat_natCast]; rw [sp_if_f (by omega), sp_if_f (by omega), sp_if_t (by simp [hS_t1])]; exact ⟨rfl, _, hM, hR, ho⟩)) dX5_swap_49
          · refine x_sipush hx hb dX5_swap_33 (by decide +kernel) ?_
            exact xe_i hx hb hrt hlocks hP hS ((by unfold am_swap; simp only [Int.toNat_natCast]; rw [sp_if_f (by omega), sp_if_t (by omega)]; exact ⟨rfl, _, hM, hR, ho⟩)) dX5_swap_36
      · have hz_t1 : M.toldMany t1 = -1 := by have q := hR.2.1 t1 h_t1; rw [hS_t1] at q; exact q
        refine lv_iload_n hx hb dX5_swap_0 rfl (lv_at hl 1 rfl) ?_
        refine xt_i (As := [.int (xI (t1 : Int))]) (rest := []) ⟨hx, hb, hml, hown, hts⟩ hl.1 (c_X5_isText l (t1 : Int) (by omega)) k_X5_isText u_ml_RX5_87 rfl rfl (Nat.le_of_ble_eq_true rfl) ⟨Nat.le_of_ble_eq_true rfl, Nat.le_of_ble_eq_true rfl⟩ ⟨Nat.le_of_ble_eq_true rfl, Nat.le_of_ble_eq_true rfl⟩ dX5_swap_1 ?_
        refine x_top (q1 := True) ⟨fun _ => trivial, fun _ => by omega⟩ ?_
        refine x_ifb_eq (tgt := 15) hx hb dX5_swap_4 (by decide)  (fun c_4 => absurd trivial c_4) (fun c_4 => ?_)
        refine lv_iload hx hb dX5_swap_7 (lv_at hl 4 rfl) ?_
        refine xt_i (As := [.int (xI z4)]) (rest := []) ⟨hx, hb, hml, hown, hts⟩ hl.1 (c_X5_isText l z4 (by omega)) k_X5_isText u_ml_RX5_87 rfl rfl (Nat.le_of_ble_eq_true rfl) ⟨Nat.le_of_ble_eq_true rfl, Nat.le_of_ble_eq_true rfl⟩ ⟨Nat.le_of_ble_eq_true rfl, Nat.le_of_ble_eq_true rfl⟩ dX5_swap_9 ?_
        refine x_top (q1 := False) ⟨fun h => absurd h (by omega), False.elim⟩ ?_
        refine x_ifb_ne (tgt := 19) hx hb dX5_swap_12 (by decide)  (fun c_12 => absurd c_12 id) (fun c_12 => ?_)
        refine x_sipush hx hb dX5_swap_15 (by decide +kernel) ?_
        exact xe_i hx hb hrt hlocks hP hS ((by unfold am_swap; simp only [Int.toNat_natCast]; rw [sp_if_t (by omega)]; exact ⟨rfl, _, hM, hR, ho⟩)) dX5_swap_18
    · rcases Classical.em (0 ≤ z4 ∧ z4 < 8) with hx_z4 | hx_z4
      · obtain ⟨t4, rfl⟩ : ∃ q : Nat, z4 = (q : Int) := ⟨z4.toNat, by omega⟩
        have h_t4 : t4 < 8 := by omega
        have hT_t1 : M.toldMany t1 = (r_t1.1 : Int) ∧ ∀ k : Nat, k < r_t1.1 → M.told (200 * t1 + k) = r_t1.2 k := by have q := hR.2.1 t1 h_t1; rw [hS_t1] at q; exact q
        have hz_t1 := hT_t1.1
        have hm_t1 := (hW.2.1 t1 r_t1 h_t1 hS_t1).1
        have hfb_t1 := (hW.2.1 t1 r_t1 h_t1 hS_t1).2
        refine lv_iload_n hx hb dX5_swap_0 rfl (lv_at hl 1 rfl) ?_
        refine xt_i (As := [.int (xI (t1 : Int))]) (rest := []) ⟨hx, hb, hml, hown, hts⟩ hl.1 (c_X5_isText l (t1 : Int) (by omega)) k_X5_isText u_ml_RX5_87 rfl rfl (Nat.le_of_ble_eq_true rfl) ⟨Nat.le_of_ble_eq_true rfl, Nat.le_of_ble_eq_true rfl⟩ ⟨Nat.le_of_ble_eq_true rfl, Nat.le_of_ble_eq_true rfl⟩ dX5_swap_1 ?_
        refine x_top (q1 := True) ⟨fun _ => trivial, fun _ => by omega⟩ ?_
        refine x_ifb_eq (tgt := 15) hx hb dX5_swap_4 (by decide)  (fun c_4 => absurd trivial c_4) (fun c_4 => ?_)
        refine lv_iload hx hb dX5_swap_7 (lv_at hl 4 rfl) ?_
        refine xt_i (As := [.int (xI (t4 : Int))]) (rest := []) ⟨hx, hb, hml, hown, hts⟩ hl.1 (c_X5_isText l (t4 : Int) (by omega)) k_X5_isText u_ml_RX5_87 rfl rfl (Nat.le_of_ble_eq_true rfl) ⟨Nat.le_of_ble_eq_true rfl, Nat.le_of_ble_eq_true rfl⟩ ⟨Nat.le_of_ble_eq_true rfl, Nat.le_of_ble_eq_true rfl⟩ dX5_swap_9 ?_
        refine x_top (q1 := True) ⟨fun _ => trivial, fun _ => by omega⟩ ?_
        refine x_ifb_ne (tgt := 19) hx hb dX5_swap_12 (by decide)  (fun c_12 => ?_) (fun c_12 => absurd trivial c_12)
        refine lv_iload_n hx hb dX5_swap_19 rfl (lv_at hl 2 rfl) ?_
        refine xt_i (As := [.int (xI z2)]) (rest := []) ⟨hx, hb, hml, hown, hts⟩ hl.1 (c_X5_isSign l z2 (by omega)) k_X5_isSign u_ml_RX5_74 rfl rfl (Nat.le_of_ble_eq_true rfl) ⟨Nat.le_of_ble_eq_true rfl, Nat.le_of_ble_eq_true rfl⟩ ⟨Nat.le_of_ble_eq_true rfl, Nat.le_of_ble_eq_true rfl⟩ dX5_swap_20 ?_
        refine x_ifb_eq (tgt := 33) hx hb dX5_swap_23 (by decide)  (fun c_23 => ?_) (fun c_23 => ?_)
        · refine x_sipush hx hb dX5_swap_33 (by decide +kernel) ?_
          exact xe_i hx hb hrt hlocks hP hS ((by unfold am_swap; simp only [Int.toNat_natCast]; simp only [sp_get_s hS_t1]; rw [sp_if_f (by omega), sp_if_t (by omega)]; exact ⟨rfl, _, hM, hR, ho⟩)) dX5_swap_36
        · refine lv_iload_n hx hb dX5_swap_26 rfl (lv_at hl 3 rfl) ?_
          refine xt_i (As := [.int (xI z3)]) (rest := []) ⟨hx, hb, hml, hown, hts⟩ hl.1 (c_X5_isSign l z3 (by omega)) k_X5_isSign u_ml_RX5_74 rfl rfl (Nat.le_of_ble_eq_true rfl) ⟨Nat.le_of_ble_eq_true rfl, Nat.le_of_ble_eq_true rfl⟩ ⟨Nat.le_of_ble_eq_true rfl, Nat.le_of_ble_eq_true rfl⟩ dX5_swap_27 ?_
          refine x_ifb_ne (tgt := 37) hx hb dX5_swap_30 (by decide)  (fun c_30 => ?_) (fun c_30 => ?_)
          · refine lv_aload_n hx hb dX5_swap_37 rfl (lv_at hl 0 rfl) ?_
            refine x_get (T := TX5) (N := 17) hx hb hts uX5 hown hK hP (i := 53) (by omega) hM.1 rfl 3 (by decide) u_fl_RX5_19 rfl dX5_swap_38 ?_
            refine lv_iload_n hx hb dX5_swap_41 rfl (lv_at hl 1 rfl) ?_
            refine x_ild hx hb hK hP (i := 57) (by omega) hM.2.2.2.2.1 (x := (r_t1.1 : Int)) (by omega) (congrArg xI hz_t1) dX5_swap_42 ?_
            refine x_if_ge (tgt := 50) hx hb dX5_swap_43 (by decide) (by omega) (fun c_43 => ?_) (fun c_43 => absurd c_43 (by omega))
            refine lv_aload_n hx hb dX5_swap_50 rfl (lv_at hl 0 rfl) ?_
            refine lv_iload_n hx hb dX5_swap_51 rfl (lv_at hl 1 rfl) ?_
            refine xm_v (i := 53) (As := [.int (xI (t1 : Int))]) (rest := []) ⟨hx, hb, hml, hown, hts⟩ hl.1 (c_X5_layText_some l D cA n ad en _ hn hM t1 h_t1 (r := r_t1) hz_t1 hm_t1 hT_t1.2) k_X5_layText u_ml_RX5_90 hK hN hP (by omega) hM.1 rfl rfl rfl rfl (Nat.le_of_ble_eq_true rfl) ⟨Nat.le_of_ble_eq_true rfl, Nat.le_of_ble_eq_true rfl⟩ ⟨Nat.le_of_ble_eq_true rfl, Nat.le_of_ble_eq_true rfl⟩ dX5_swap_52 hD hS hA (fun en1 H locs hp1 hP hS => ?_)
            obtain ⟨F9, hF9, hM, ho2⟩ := hp1
            have hM : MW cA ad en1 (mO M.built M.builtMany M.told M.toldMany F9 (r_t1.1 : Int) M.figures M.partText M.partFrom M.partMany M.parts M.cut M.cutMany M.isCut M.cutGives M.cutAt M.h) := hM
            have ho := ho.tr ho2
            refine x_iconst hx hb dX5_swap_55 ?_
            refine lv_istore (lv' := [(5, .int (xI 0)), (0, .ref (ad 53)), (1, .int (xI (t1 : Int))), (2, .int (xI z2)), (3, .int (xI z3)), (4, .int (xI (t4 : Int)))]) hx hb dX5_swap_56 hl (by decide) rfl (fun ls hl => ?_)
            have L58 : ∀ (nn : Nat) (K : Nat) (F : Nat → Int) (ew58 : Nat → va_E) (H : Heap) (locs : List Loc), (K ≤ r_t1.1) → ((∀ k : Nat, k < K → F k = (if r_t1.2 k = z2 then z3 else r_t1.2 k)) ∧ ∀ k : Nat, K ≤ k → k < r_t1.1 → F k = r_t1.2 k) → (r_t1.1 - K) < nn → (MW cA ad ew58 (mO M.built M.builtMany M.told M.toldMany F (r_t1.1 : Int) M.figures M.partText M.partFrom M.partMany M.parts M.cut M.cutMany M.isCut M.cutGives M.cutAt M.h)) → (xO 53 68 en ew58) → va_P D vwCl (xw n ad ew58) H → va_S (xA n ad sz) s.heap H locs → ∀ ls : Array Slot, lv_has ls 6 [(0, .ref (ad 53)), (1, .int (xI (t1 : Int))), (2, .int (xI z2)), (3, .int (xI z3)), (4, .int (xI (t4 : Int))), (5, .int (xI (K : Int)))] → W p l e (xrm 2 45) s mm args below meth c H locs 0 0 (MQ below (va_Qi (fun r u => r = xI (am_swap S (t1 : Int) z2 z3 (t4 : Int)).1 ∧ ∃ M' : MO, MW cA ad u M' ∧ MR (am_swap S (t1 : Int) z2 z3 (t4 : Int)).2 M' ∧ xO 53 68 en u) (xE D n ad) (xA n ad sz)) args s 0 0 (xA n ad sz)) (F0 mm 58 ls []) := by
              intro nn
              induction nn with
              | zero =>
                intro K F ew58 H locs hk8 hF hmm hM ho hP hS ls hl
                exact absurd hmm (Nat.not_lt_zero _)
              | succ nn ih =>
                intro K F ew58 H locs hk8 hF hmm hM ho hP hS ls hl
                refine lv_iload hx hb dX5_swap_58 (lv_at hl 5 rfl) ?_
                refine lv_aload_n hx hb dX5_swap_60 rfl (lv_at hl 0 rfl) ?_
                refine x_get (T := TX5) (N := 17) hx hb hts uX5 hown hK hP (i := 53) (by omega) (show ew58 53 = .inr (5, [.ref (ad 54), .ref (ad 55), .ref (ad 56), .ref (ad 57), .ref (ad 58), .int (xI (r_t1.1 : Int)), .ref (ad 59), .ref (ad 60), .ref (ad 61), .ref (ad 62), .int (xI M.parts), .ref (ad 63), .ref (ad 64), .ref (ad 65), .ref (ad 66), .ref (ad 67), .long M.h]) from hM.1) rfl 5 (by decide) u_fl_RX5_62 rfl dX5_swap_61 ?_
                refine x_icmp_ge (tgt := 102) hx hb dX5_swap_64 (by decide) (by omega) (fun c_64 => ?_) (fun c_64 => ?_)
                · refine lv_aload_n hx hb dX5_swap_102 rfl (lv_at hl 0 rfl) ?_
                  refine lv_iload hx hb dX5_swap_103 (lv_at hl 4 rfl) ?_
                  refine xm_i (i := 53) (As := [.int (xI (t4 : Int))]) (rest := []) ⟨hx, hb, hml, hown, hts⟩ hl.1 (c_X5_become l D cA n ad ew58 _ hn hM t4 h_t4 r_t1.1 (show (r_t1.1 : Int) = ((r_t1.1 : Nat) : Int) from by omega) (by omega)) k_X5_become u_ml_RX5_118 hK hN hP (by omega) (show ew58 53 = .inr (5, [.ref (ad 54), .ref (ad 55), .ref (ad 56), .ref (ad 57), .ref (ad 58), .int (xI (r_t1.1 : Int)), .ref (ad 59), .ref (ad 60), .ref (ad 61), .ref (ad 62), .int (xI M.parts), .ref (ad 63), .ref (ad 64), .ref (ad 65), .ref (ad 66), .ref (ad 67), .long M.h]) from hM.1) rfl rfl rfl rfl (Nat.le_of_ble_eq_true rfl) ⟨Nat.le_of_ble_eq_true rfl, Nat.le_of_ble_eq_true rfl⟩ ⟨Nat.le_of_ble_eq_true rfl, Nat.le_of_ble_eq_true rfl⟩ dX5_swap_105 hD hS hA (fun r2 en2 H locs hp2 hP hS => ?_)
                  obtain ⟨hrv, T9, hT9, hU9, hM, ho2⟩ := hp2
                  have hrv : r2 = xI (r_t1.1 : Int) := hrv
                  subst hrv
                  have hM : MW cA ad en2 (mO M.built M.builtMany T9 (sp_up M.toldMany t4 (r_t1.1 : Int)) F (r_t1.1 : Int) M.figures M.partText M.partFrom M.partMany M.parts M.cut M.cutMany M.isCut M.cutGives M.cutAt M.h) := hM
                  have ho := ho.tr ho2
                  have hT9 : ∀ k : Nat, k < r_t1.1 → T9 (200 * t4 + k) = F k := hT9
                  have hU9 : ∀ j : Nat, j < 200 * t4 ∨ 200 * t4 + 200 ≤ j → T9 j = M.told j := hU9
                  exact xe_i hx hb hrt hlocks hP hS ((by unfold am_swap; simp only [Int.toNat_natCast]; simp only [sp_get_s hS_t1]; rw [sp_if_f (by omega), sp_if_f (by omega), sp_if_f (by simp [hS_t1])]; have q9 := hR.text hW h_t4 (o := some ((r_t1.1, fun q => if r_t1.2 q = z2 then z3 else r_t1.2 q) : xRow)) (T' := T9) (z := (r_t1.1 : Int)) ⟨by first | rfl | omega | (dsimp only; omega), fun k hk => (hT9 k (by first | exact hk | (dsimp only at hk; omega))).trans ((fun k hk => hF.1 k (by omega)) k (by first | exact hk | (dsimp only at hk; omega)))⟩ hU9; exact ⟨congrArg xI (by omega), _, hM, q9, ho⟩)) dX5_swap_108
                · have hfx := hfb_t1 K (by omega)
                  refine lv_aload_n hx hb dX5_swap_67 rfl (lv_at hl 0 rfl) ?_
                  refine x_get (T := TX5) (N := 17) hx hb hts uX5 hown hK hP (i := 53) (by omega) (show ew58 53 = .inr (5, [.ref (ad 54), .ref (ad 55), .ref (ad 56), .ref (ad 57), .ref (ad 58), .int (xI (r_t1.1 : Int)), .ref (ad 59), .ref (ad 60), .ref (ad 61), .ref (ad 62), .int (xI M.parts), .ref (ad 63), .ref (ad 64), .ref (ad 65), .ref (ad 66), .ref (ad 67), .long M.h]) from hM.1) rfl 4 (by decide) u_fl_RX5_22 rfl dX5_swap_68 ?_
                  refine lv_iload hx hb dX5_swap_71 (lv_at hl 5 rfl) ?_
                  refine lv_aload_n hx hb dX5_swap_73 rfl (lv_at hl 0 rfl) ?_
                  refine x_get (T := TX5) (N := 17) hx hb hts uX5 hown hK hP (i := 53) (by omega) (show ew58 53 = .inr (5, [.ref (ad 54), .ref (ad 55), .ref (ad 56), .ref (ad 57), .ref (ad 58), .int (xI (r_t1.1 : Int)), .ref (ad 59), .ref (ad 60), .ref (ad 61), .ref (ad 62), .int (xI M.parts), .ref (ad 63), .ref (ad 64), .ref (ad 65), .ref (ad 66), .ref (ad 67), .long M.h]) from hM.1) rfl 4 (by decide) u_fl_RX5_22 rfl dX5_swap_74 ?_
                  refine lv_iload hx hb dX5_swap_77 (lv_at hl 5 rfl) ?_
                  refine x_ild hx hb hK hP (i := 58) (by omega) hM.2.2.2.2.2.1 (x := F K) (by omega) (rfl) dX5_swap_79 ?_
                  refine x_to (r_t1.2 K) (hF.2 K (by omega) (by omega)) ?_
                  refine lv_iload_n hx hb dX5_swap_80 rfl (lv_at hl 2 rfl) ?_
                  refine x_icmp_ne (tgt := 88) hx hb dX5_swap_81 (by decide) (by omega) (fun c_81 => ?_) (fun c_81 => ?_)
                  · refine lv_aload_n hx hb dX5_swap_88 rfl (lv_at hl 0 rfl) ?_
                    refine x_get (T := TX5) (N := 17) hx hb hts uX5 hown hK hP (i := 53) (by omega) (show ew58 53 = .inr (5, [.ref (ad 54), .ref (ad 55), .ref (ad 56), .ref (ad 57), .ref (ad 58), .int (xI (r_t1.1 : Int)), .ref (ad 59), .ref (ad 60), .ref (ad 61), .ref (ad 62), .int (xI M.parts), .ref (ad 63), .ref (ad 64), .ref (ad 65), .ref (ad 66), .ref (ad 67), .long M.h]) from hM.1) rfl 4 (by decide) u_fl_RX5_22 rfl dX5_swap_89 ?_
                    refine lv_iload hx hb dX5_swap_92 (lv_at hl 5 rfl) ?_
                    refine x_ild hx hb hK hP (i := 58) (by omega) hM.2.2.2.2.2.1 (x := F K) (by omega) (rfl) dX5_swap_94 ?_
                    refine x_to (r_t1.2 K) (hF.2 K (by omega) (by omega)) ?_
                    refine x_ist hx hb hK hP hD hS (i := 58) (by omega) hM.2.2.2.2.2.1 (by omega) dX5_swap_95 (fun H locs hP hS => ?_)
                    obtain ⟨en3, he3⟩ : ∃ z, z = va_up ew58 58 (.inl (cA 0, 220, .inl (upd (fun k => xI (F k)) K (xI (r_t1.2 K))))) := ⟨_, rfl⟩
                    have hP : va_P D vwCl (xw n ad en3) H := by rw [he3]; exact hP
                    have hM : MW cA ad en3 (mO M.built M.builtMany M.told M.toldMany (sp_up F K (r_t1.2 K)) (r_t1.1 : Int) M.figures M.partText M.partFrom M.partMany M.parts M.cut M.cutMany M.isCut M.cutGives M.cutAt M.h) := by rw [he3]; exact hM.u_row K (r_t1.2 K)
                    have ho : xO 53 68 en en3 := by rw [he3]; exact ho.up (by omega) (by omega)
                    refine x_iinc (lv' := [(5, .int (xI ((K : Int) + 1))), (0, .ref (ad 53)), (1, .int (xI (t1 : Int))), (2, .int (xI z2)), (3, .int (xI z3)), (4, .int (xI (t4 : Int)))]) (k := 5) hx hb dX5_swap_96 hl rfl (by decide) rfl (fun ls hl => ?_)
                    refine lv_goto (tgt := 58) hx hb dX5_swap_99 (by decide) ?_
                    exact ih (K + 1) _ en3 _ _ (by omega) (⟨fun k hk => by
      by_cases q : k = K
      · rw [q, sp_up_s, if_neg c_81]
      · rw [sp_up_n _ _ (by omega)]; exact hF.1 k (by omega), fun k h1 h2 => by rw [sp_up_n _ _ (by omega)]; exact hF.2 k (by omega) h2⟩) (by omega) hM ho hP hS ls (lv_sub hl [1, 2, 3, 4, 5, 0] rfl)
                  · refine lv_iload_n hx hb dX5_swap_84 rfl (lv_at hl 3 rfl) ?_
                    refine lv_goto (tgt := 95) hx hb dX5_swap_85 (by decide) ?_
                    refine x_ist hx hb hK hP hD hS (i := 58) (by omega) hM.2.2.2.2.2.1 (by omega) dX5_swap_95 (fun H locs hP hS => ?_)
                    obtain ⟨en4, he4⟩ : ∃ z, z = va_up ew58 58 (.inl (cA 0, 220, .inl (upd (fun k => xI (F k)) K (xI z3)))) := ⟨_, rfl⟩
                    have hP : va_P D vwCl (xw n ad en4) H := by rw [he4]; exact hP
                    have hM : MW cA ad en4 (mO M.built M.builtMany M.told M.toldMany (sp_up F K z3) (r_t1.1 : Int) M.figures M.partText M.partFrom M.partMany M.parts M.cut M.cutMany M.isCut M.cutGives M.cutAt M.h) := by rw [he4]; exact hM.u_row K z3
                    have ho : xO 53 68 en en4 := by rw [he4]; exact ho.up (by omega) (by omega)
                    refine x_iinc (lv' := [(5, .int (xI ((K : Int) + 1))), (0, .ref (ad 53)), (1, .int (xI (t1 : Int))), (2, .int (xI z2)), (3, .int (xI z3)), (4, .int (xI (t4 : Int)))]) (k := 5) hx hb dX5_swap_96 hl rfl (by decide) rfl (fun ls hl => ?_)
                    refine lv_goto (tgt := 58) hx hb dX5_swap_99 (by decide) ?_
                    exact ih (K + 1) _ en4 _ _ (by omega) (⟨fun k hk => by
      by_cases q : k = K
      · rw [q, sp_up_s, if_pos c_81]
      · rw [sp_up_n _ _ (by omega)]; exact hF.1 k (by omega), fun k h1 h2 => by rw [sp_up_n _ _ (by omega)]; exact hF.2 k (by omega) h2⟩) (by omega) hM ho hP hS ls (lv_sub hl [1, 2, 3, 4, 5, 0] rfl)
            exact L58 _ 0 F9 en1 _ _ (Nat.zero_le _) (⟨fun k hk => absurd hk (Nat.not_lt_zero _), fun k _ hk => hF9 k hk⟩) (Nat.lt_succ_self _) hM ho hP hS ls (lv_sub hl [1, 2, 3, 4, 5, 0] rfl)
          · refine x_sipush hx hb dX5_swap_33 (by decide +kernel) ?_
            exact xe_i hx hb hrt hlocks hP hS ((by unfold am_swap; simp only [Int.toNat_natCast]; simp only [sp_get_s hS_t1]; rw [sp_if_f (by omega), sp_if_t (by omega)]; exact ⟨rfl, _, hM, hR, ho⟩)) dX5_swap_36
      · have hT_t1 : M.toldMany t1 = (r_t1.1 : Int) ∧ ∀ k : Nat, k < r_t1.1 → M.told (200 * t1 + k) = r_t1.2 k := by have q := hR.2.1 t1 h_t1; rw [hS_t1] at q; exact q
        have hz_t1 := hT_t1.1
        have hm_t1 := (hW.2.1 t1 r_t1 h_t1 hS_t1).1
        have hfb_t1 := (hW.2.1 t1 r_t1 h_t1 hS_t1).2
        refine lv_iload_n hx hb dX5_swap_0 rfl (lv_at hl 1 rfl) ?_
        refine xt_i (As := [.int (xI (t1 : Int))]) (rest := []) ⟨hx, hb, hml, hown, hts⟩ hl.1 (c_X5_isText l (t1 : Int) (by omega)) k_X5_isText u_ml_RX5_87 rfl rfl (Nat.le_of_ble_eq_true rfl) ⟨Nat.le_of_ble_eq_true rfl, Nat.le_of_ble_eq_true rfl⟩ ⟨Nat.le_of_ble_eq_true rfl, Nat.le_of_ble_eq_true rfl⟩ dX5_swap_1 ?_
        refine x_top (q1 := True) ⟨fun _ => trivial, fun _ => by omega⟩ ?_
        refine x_ifb_eq (tgt := 15) hx hb dX5_swap_4 (by decide)  (fun c_4 => absurd trivial c_4) (fun c_4 => ?_)
        refine lv_iload hx hb dX5_swap_7 (lv_at hl 4 rfl) ?_
        refine xt_i (As := [.int (xI z4)]) (rest := []) ⟨hx, hb, hml, hown, hts⟩ hl.1 (c_X5_isText l z4 (by omega)) k_X5_isText u_ml_RX5_87 rfl rfl (Nat.le_of_ble_eq_true rfl) ⟨Nat.le_of_ble_eq_true rfl, Nat.le_of_ble_eq_true rfl⟩ ⟨Nat.le_of_ble_eq_true rfl, Nat.le_of_ble_eq_true rfl⟩ dX5_swap_9 ?_
        refine x_top (q1 := False) ⟨fun h => absurd h (by omega), False.elim⟩ ?_
        refine x_ifb_ne (tgt := 19) hx hb dX5_swap_12 (by decide)  (fun c_12 => absurd c_12 id) (fun c_12 => ?_)
        refine x_sipush hx hb dX5_swap_15 (by decide +kernel) ?_
        exact xe_i hx hb hrt hlocks hP hS ((by unfold am_swap; simp only [Int.toNat_natCast]; simp only [sp_get_s hS_t1]; rw [sp_if_t (by omega)]; exact ⟨rfl, _, hM, hR, ho⟩)) dX5_swap_18
  · rcases Classical.em (0 ≤ z4 ∧ z4 < 8) with hx_z4 | hx_z4
    · obtain ⟨t4, rfl⟩ : ∃ q : Nat, z4 = (q : Int) := ⟨z4.toNat, by omega⟩
      have h_t4 : t4 < 8 := by omega
      refine lv_iload_n hx hb dX5_swap_0 rfl (lv_at hl 1 rfl) ?_
      refine xt_i (As := [.int (xI z1)]) (rest := []) ⟨hx, hb, hml, hown, hts⟩ hl.1 (c_X5_isText l z1 (by omega)) k_X5_isText u_ml_RX5_87 rfl rfl (Nat.le_of_ble_eq_true rfl) ⟨Nat.le_of_ble_eq_true rfl, Nat.le_of_ble_eq_true rfl⟩ ⟨Nat.le_of_ble_eq_true rfl, Nat.le_of_ble_eq_true rfl⟩ dX5_swap_1 ?_
      refine x_top (q1 := False) ⟨fun h => absurd h (by omega), False.elim⟩ ?_
      refine x_ifb_eq (tgt := 15) hx hb dX5_swap_4 (by decide)  (fun c_4 => ?_) (fun c_4 => absurd c_4 id)
      refine x_sipush hx hb dX5_swap_15 (by decide +kernel) ?_
      exact xe_i hx hb hrt hlocks hP hS ((by unfold am_swap; simp only [Int.toNat_natCast]; rw [sp_if_t (by omega)]; exact ⟨rfl, _, hM, hR, ho⟩)) dX5_swap_18
    · refine lv_iload_n hx hb dX5_swap_0 rfl (lv_at hl 1 rfl) ?_
      refine xt_i (As := [.int (xI z1)]) (rest := []) ⟨hx, hb, hml, hown, hts⟩ hl.1 (c_X5_isText l z1 (by omega)) k_X5_isText u_ml_RX5_87 rfl rfl (Nat.le_of_ble_eq_true rfl) ⟨Nat.le_of_ble_eq_true rfl, Nat.le_of_ble_eq_true rfl⟩ ⟨Nat.le_of_ble_eq_true rfl, Nat.le_of_ble_eq_true rfl⟩ dX5_swap_1 ?_
      refine x_top (q1 := False) ⟨fun h => absurd h (by omega), False.elim⟩ ?_
      refine x_ifb_eq (tgt := 15) hx hb dX5_swap_4 (by decide)  (fun c_4 => ?_) (fun c_4 => absurd c_4 id)
      refine x_sipush hx hb dX5_swap_15 (by decide +kernel) ?_
      exact xe_i hx hb hrt hlocks hP hS ((by unfold am_swap; rw [sp_if_t (by omega)]; exact ⟨rfl, _, hM, hR, ho⟩)) dX5_swap_18

set_option maxRecDepth 20000 in
theorem c_X5_sub (l : Launch) (D : va_G) (cA : Nat → ClassId) (n : Nat) (ad : Nat → Nat) (en : Nat → va_E) (sz : Nat) (hn : 68 ≤ n) {M : MO} (hM : MW cA ad en M) {S : xSt} (hW : WF S) (hR : MR S M) (z1 : Int) (hz1 : -2147483648 ≤ z1 ∧ z1 ≤ 2147483647) (z2 : Int) (hz2 : -2147483648 ≤ z2 ∧ z2 ≤ 2147483647) (z3 : Int) (hz3 : -2147483648 ≤ z3 ∧ z3 ≤ 2147483647) (z4 : Int) (hz4 : -2147483648 ≤ z4 ∧ z4 ≤ 2147483647) : Met l yX5_sub (Cond.code yX5_sub cX5_sub 6 (some .int) :: xU) (xrm 3 67) (va_Pc [.ref (ad 53), .int (xI z1), .int (xI z2), .int (xI z3), .int (xI z4)] (xM D cA n ad en sz)) (va_Qi (fun r u => r = xI (am_sub S z1 z2 z3 z4).1 ∧ ∃ M' : MO, MW cA ad u M' ∧ MR (am_sub S z1 z2 z3 z4).2 M' ∧ xO 53 68 en u) (xE D n ad) (xA n ad sz)) 0 0 (xA n ad sz) := by
  refine xmet (by decide) (Nat.le_of_ble_eq_true rfl) (fun p e s mm args below meth c ls hx hb hrt hml hown hts hlocks hname hB hl => ?_)
  obtain ⟨⟨hP, hK, hN⟩, hsz, hDt⟩ := hB
  have hD : xD (xA n ad sz) n ad := xD_self hDt sz
  have hA : ∀ q : Nat, s.heap.size ≤ q → xA n ad sz q := fun q h => Or.inr (by rw [← hsz]; exact h)
  have hS : va_S (xA n ad sz) s.heap s.heap [] := va_S.rf
  have hown : s.vm.findClass RX5 = some mm.cls := hown
  have hl : lv_has ls 6 [(0, .ref (ad 53)), (1, .int (xI z1)), (2, .int (xI z2)), (3, .int (xI z3)), (4, .int (xI z4))] := hl
  have ho : xO 53 68 en en := xO.rf
  rcases Classical.em (0 ≤ z1 ∧ z1 < 8) with hx_z1 | hx_z1
  · obtain ⟨t1, rfl⟩ : ∃ q : Nat, z1 = (q : Int) := ⟨z1.toNat, by omega⟩
    have h_t1 : t1 < 8 := by omega
    rcases hS_t1 : S.2.1 t1 with _ | r_t1
    · rcases Classical.em (0 ≤ z4 ∧ z4 < 8) with hx_z4 | hx_z4
      · obtain ⟨t4, rfl⟩ : ∃ q : Nat, z4 = (q : Int) := ⟨z4.toNat, by omega⟩
        have h_t4 : t4 < 8 := by omega
        have hz_t1 : M.toldMany t1 = -1 := by have q := hR.2.1 t1 h_t1; rw [hS_t1] at q; exact q
        refine lv_aload_n hx hb dX5_sub_0 rfl (lv_at hl 0 rfl) ?_
        refine lv_iload_n hx hb dX5_sub_1 rfl (lv_at hl 1 rfl) ?_
        refine lv_iload hx hb dX5_sub_2 (lv_at hl 4 rfl) ?_
        have hy_t1 : M.toldMany (Int.toNat (t1 : Int)) = -1 := hz_t1
        refine xv_i (i := 53) (As := [.int (xI (t1 : Int)), .int (xI (t4 : Int))]) (rest := []) ⟨hx, hb, hml, hown, hts⟩ hl.1 (c_X5_barsOne l D cA n ad en hn hM (t1 : Int) (t4 : Int) (-1003) (by omega) (by omega) (fun _ => by show -1 ≤ M.toldMany t1 ∧ M.toldMany t1 ≤ 200; omega) (by omega)) k_X5_barsOne u_ml_RX5_131 hK hN hP (by omega) hM.1 rfl rfl rfl rfl (Nat.le_of_ble_eq_true rfl) ⟨Nat.le_of_ble_eq_true rfl, Nat.le_of_ble_eq_true rfl⟩ ⟨Nat.le_of_ble_eq_true rfl, Nat.le_of_ble_eq_true rfl⟩ dX5_sub_4 ?_
        refine lv_istore (lv' := [(5, .int (xI (-1003))), (0, .ref (ad 53)), (1, .int (xI (t1 : Int))), (2, .int (xI z2)), (3, .int (xI z3)), (4, .int (xI (t4 : Int)))]) hx hb dX5_sub_7 hl (by decide) rfl (fun ls hl => ?_)
        refine lv_iload hx hb dX5_sub_9 (lv_at hl 0 rfl) ?_
        refine x_if_ge (tgt := 17) hx hb dX5_sub_11 (by decide) (by omega) (fun c_11 => absurd c_11 (by omega)) (fun c_11 => ?_)
        refine lv_iload hx hb dX5_sub_14 (lv_at hl 0 rfl) ?_
        exact xe_i hx hb hrt hlocks hP hS ((by unfold am_sub; simp only [Int.toNat_natCast]; rw [sp_if_f (by omega), sp_if_t (by simp [hS_t1])]; exact ⟨rfl, _, hM, hR, ho⟩)) dX5_sub_16
      · have hz_t1 : M.toldMany t1 = -1 := by have q := hR.2.1 t1 h_t1; rw [hS_t1] at q; exact q
        refine lv_aload_n hx hb dX5_sub_0 rfl (lv_at hl 0 rfl) ?_
        refine lv_iload_n hx hb dX5_sub_1 rfl (lv_at hl 1 rfl) ?_
        refine lv_iload hx hb dX5_sub_2 (lv_at hl 4 rfl) ?_
        have hy_t1 : M.toldMany (Int.toNat (t1 : Int)) = -1 := hz_t1
        refine xv_i (i := 53) (As := [.int (xI (t1 : Int)), .int (xI z4)]) (rest := []) ⟨hx, hb, hml, hown, hts⟩ hl.1 (c_X5_barsOne l D cA n ad en hn hM (t1 : Int) z4 (-1001) (by omega) (by omega) (fun _ => by show -1 ≤ M.toldMany t1 ∧ M.toldMany t1 ≤ 200; omega) (by omega)) k_X5_barsOne u_ml_RX5_131 hK hN hP (by omega) hM.1 rfl rfl rfl rfl (Nat.le_of_ble_eq_true rfl) ⟨Nat.le_of_ble_eq_true rfl, Nat.le_of_ble_eq_true rfl⟩ ⟨Nat.le_of_ble_eq_true rfl, Nat.le_of_ble_eq_true rfl⟩ dX5_sub_4 ?_
        refine lv_istore (lv' := [(5, .int (xI (-1001))), (0, .ref (ad 53)), (1, .int (xI (t1 : Int))), (2, .int (xI z2)), (3, .int (xI z3)), (4, .int (xI z4))]) hx hb dX5_sub_7 hl (by decide) rfl (fun ls hl => ?_)
        refine lv_iload hx hb dX5_sub_9 (lv_at hl 0 rfl) ?_
        refine x_if_ge (tgt := 17) hx hb dX5_sub_11 (by decide) (by omega) (fun c_11 => absurd c_11 (by omega)) (fun c_11 => ?_)
        refine lv_iload hx hb dX5_sub_14 (lv_at hl 0 rfl) ?_
        exact xe_i hx hb hrt hlocks hP hS ((by unfold am_sub; simp only [Int.toNat_natCast]; rw [sp_if_t (by omega)]; exact ⟨rfl, _, hM, hR, ho⟩)) dX5_sub_16
    · rcases Classical.em (0 ≤ z4 ∧ z4 < 8) with hx_z4 | hx_z4
      · obtain ⟨t4, rfl⟩ : ∃ q : Nat, z4 = (q : Int) := ⟨z4.toNat, by omega⟩
        have h_t4 : t4 < 8 := by omega
        have hT_t1 : M.toldMany t1 = (r_t1.1 : Int) ∧ ∀ k : Nat, k < r_t1.1 → M.told (200 * t1 + k) = r_t1.2 k := by have q := hR.2.1 t1 h_t1; rw [hS_t1] at q; exact q
        have hz_t1 := hT_t1.1
        have hm_t1 := (hW.2.1 t1 r_t1 h_t1 hS_t1).1
        have hfb_t1 := (hW.2.1 t1 r_t1 h_t1 hS_t1).2
        refine lv_aload_n hx hb dX5_sub_0 rfl (lv_at hl 0 rfl) ?_
        refine lv_iload_n hx hb dX5_sub_1 rfl (lv_at hl 1 rfl) ?_
        refine lv_iload hx hb dX5_sub_2 (lv_at hl 4 rfl) ?_
        have hy_t1 : M.toldMany (Int.toNat (t1 : Int)) = (r_t1.1 : Int) := hz_t1
        refine xv_i (i := 53) (As := [.int (xI (t1 : Int)), .int (xI (t4 : Int))]) (rest := []) ⟨hx, hb, hml, hown, hts⟩ hl.1 (c_X5_barsOne l D cA n ad en hn hM (t1 : Int) (t4 : Int) 0 (by omega) (by omega) (fun _ => by show -1 ≤ M.toldMany t1 ∧ M.toldMany t1 ≤ 200; omega) (by omega)) k_X5_barsOne u_ml_RX5_131 hK hN hP (by omega) hM.1 rfl rfl rfl rfl (Nat.le_of_ble_eq_true rfl) ⟨Nat.le_of_ble_eq_true rfl, Nat.le_of_ble_eq_true rfl⟩ ⟨Nat.le_of_ble_eq_true rfl, Nat.le_of_ble_eq_true rfl⟩ dX5_sub_4 ?_
        refine lv_istore (lv' := [(5, .int (xI 0)), (0, .ref (ad 53)), (1, .int (xI (t1 : Int))), (2, .int (xI z2)), (3, .int (xI z3)), (4, .int (xI (t4 : Int)))]) hx hb dX5_sub_7 hl (by decide) rfl (fun ls hl => ?_)
        refine lv_iload hx hb dX5_sub_9 (lv_at hl 0 rfl) ?_
        refine x_if_ge (tgt := 17) hx hb dX5_sub_11 (by decide) (by omega) (fun c_11 => ?_) (fun c_11 => absurd c_11 (by omega))
        refine lv_aload_n hx hb dX5_sub_17 rfl (lv_at hl 1 rfl) ?_
        refine lv_iload_n hx hb dX5_sub_18 rfl (lv_at hl 2 rfl) ?_
        refine xm_v (i := 53) (As := [.int (xI (t1 : Int))]) (rest := []) ⟨hx, hb, hml, hown, hts⟩ hl.1 (c_X5_layText_some l D cA n ad en _ hn hM t1 h_t1 (r := r_t1) hz_t1 hm_t1 hT_t1.2) k_X5_layText u_ml_RX5_90 hK hN hP (by omega) hM.1 rfl rfl rfl rfl (Nat.le_of_ble_eq_true rfl) ⟨Nat.le_of_ble_eq_true rfl, Nat.le_of_ble_eq_true rfl⟩ ⟨Nat.le_of_ble_eq_true rfl, Nat.le_of_ble_eq_true rfl⟩ dX5_sub_19 hD hS hA (fun en1 H locs hp1 hP hS => ?_)
        obtain ⟨F9, hF9, hM, ho2⟩ := hp1
        have hM : MW cA ad en1 (mO M.built M.builtMany M.told M.toldMany F9 (r_t1.1 : Int) M.figures M.partText M.partFrom M.partMany M.parts M.cut M.cutMany M.isCut M.cutGives M.cutAt M.h) := hM
        have ho := ho.tr ho2
        refine lv_iload_n hx hb dX5_sub_22 rfl (lv_at hl 3 rfl) ?_
        refine x_if_lt (tgt := 39) hx hb dX5_sub_23 (by decide) (by omega) (fun c_23 => ?_) (fun c_23 => ?_)
        · refine x_sipush hx hb dX5_sub_39 (by decide +kernel) ?_
          exact xe_i hx hb hrt hlocks hP hS ((by unfold am_sub; simp only [Int.toNat_natCast]; simp only [sp_get_s hS_t1]; rw [sp_if_f (by omega), sp_if_f (by simp [hS_t1]), sp_if_t (by omega)]; exact ⟨rfl, _, hM, hR, ho⟩)) dX5_sub_42
        · refine lv_iload_n hx hb dX5_sub_26 rfl (lv_at hl 4 rfl) ?_
          refine lv_aload_n hx hb dX5_sub_27 rfl (lv_at hl 1 rfl) ?_
          refine x_get (T := TX5) (N := 17) hx hb hts uX5 hown hK hP (i := 53) (by omega) (show en1 53 = .inr (5, [.ref (ad 54), .ref (ad 55), .ref (ad 56), .ref (ad 57), .ref (ad 58), .int (xI (r_t1.1 : Int)), .ref (ad 59), .ref (ad 60), .ref (ad 61), .ref (ad 62), .int (xI M.parts), .ref (ad 63), .ref (ad 64), .ref (ad 65), .ref (ad 66), .ref (ad 67), .long M.h]) from hM.1) rfl 5 (by decide) u_fl_RX5_62 rfl dX5_sub_28 ?_
          refine x_icmp_gt (tgt := 39) hx hb dX5_sub_31 (by decide) (by omega) (fun c_31 => ?_) (fun c_31 => ?_)
          · refine x_sipush hx hb dX5_sub_39 (by decide +kernel) ?_
            exact xe_i hx hb hrt hlocks hP hS ((by unfold am_sub; simp only [Int.toNat_natCast]; simp only [sp_get_s hS_t1]; rw [sp_if_f (by omega), sp_if_f (by simp [hS_t1]), sp_if_t (by omega)]; exact ⟨rfl, _, hM, hR, ho⟩)) dX5_sub_42
          · refine lv_iload_n hx hb dX5_sub_34 rfl (lv_at hl 3 rfl) ?_
            refine lv_iload_n hx hb dX5_sub_35 rfl (lv_at hl 4 rfl) ?_
            refine x_icmp_le (tgt := 43) hx hb dX5_sub_36 (by decide) (by omega) (fun c_36 => ?_) (fun c_36 => ?_)
            · obtain ⟨a2, hv_z2⟩ : ∃ q : Nat, z2 = (q : Int) := ⟨Int.toNat z2, by omega⟩
              obtain ⟨a3, hv_z3⟩ : ∃ q : Nat, z3 = (q : Int) := ⟨Int.toNat z3, by omega⟩
              have hl : lv_has ls 6 [(5, .int (xI 0)), (0, .ref (ad 53)), (1, .int (xI (t1 : Int))), (2, .int (xI (a2 : Int))), (3, .int (xI (a3 : Int))), (4, .int (xI (t4 : Int)))] := by rw [← hv_z2, ← hv_z3]; exact hl
              refine lv_aload_n hx hb dX5_sub_43 rfl (lv_at hl 1 rfl) ?_
              refine lv_iload_n hx hb dX5_sub_44 rfl (lv_at hl 3 rfl) ?_
              refine lv_iload_n hx hb dX5_sub_45 rfl (lv_at hl 4 rfl) ?_
              refine xm_v (i := 53) (As := [.int (xI (a2 : Int)), .int (xI (a3 : Int))]) (rest := []) ⟨hx, hb, hml, hown, hts⟩ hl.1 (c_X5_clip l D cA n ad en1 _ hn hM a2 a3 (by omega) (by omega)) k_X5_clip u_ml_RX5_93 hK hN hP (by omega) (show en1 53 = .inr (5, [.ref (ad 54), .ref (ad 55), .ref (ad 56), .ref (ad 57), .ref (ad 58), .int (xI (r_t1.1 : Int)), .ref (ad 59), .ref (ad 60), .ref (ad 61), .ref (ad 62), .int (xI M.parts), .ref (ad 63), .ref (ad 64), .ref (ad 65), .ref (ad 66), .ref (ad 67), .long M.h]) from hM.1) rfl rfl rfl rfl (Nat.le_of_ble_eq_true rfl) ⟨Nat.le_of_ble_eq_true rfl, Nat.le_of_ble_eq_true rfl⟩ ⟨Nat.le_of_ble_eq_true rfl, Nat.le_of_ble_eq_true rfl⟩ dX5_sub_46 hD hS hA (fun en2 H locs hp2 hP hS => ?_)
              obtain ⟨Fc, hFc, hM, ho2⟩ := hp2
              have hM : MW cA ad en2 (mO M.built M.builtMany M.told M.toldMany Fc ((a3 : Int) - (a2 : Int)) M.figures M.partText M.partFrom M.partMany M.parts M.cut M.cutMany M.isCut M.cutGives M.cutAt M.h) := hM
              have ho := ho.tr ho2
              have hFc : ∀ k : Nat, k < a3 - a2 → Fc k = F9 (a2 + k) := hFc
              have hFd : ∀ k : Nat, k < a3 - a2 → Fc k = r_t1.2 (a2 + k) := fun k hk => (hFc k hk).trans (hF9 (a2 + k) (by omega))
              refine lv_aload_n hx hb dX5_sub_49 rfl (lv_at hl 1 rfl) ?_
              refine lv_iload hx hb dX5_sub_50 (lv_at hl 5 rfl) ?_
              refine xm_i (i := 53) (As := [.int (xI (t4 : Int))]) (rest := []) ⟨hx, hb, hml, hown, hts⟩ hl.1 (c_X5_become l D cA n ad en2 _ hn hM t4 h_t4 (a3 - a2) (show ((a3 : Int) - (a2 : Int)) = (((a3 - a2) : Nat) : Int) from by omega) (by omega)) k_X5_become u_ml_RX5_118 hK hN hP (by omega) (show en2 53 = .inr (5, [.ref (ad 54), .ref (ad 55), .ref (ad 56), .ref (ad 57), .ref (ad 58), .int (xI ((a3 : Int) - (a2 : Int))), .ref (ad 59), .ref (ad 60), .ref (ad 61), .ref (ad 62), .int (xI M.parts), .ref (ad 63), .ref (ad 64), .ref (ad 65), .ref (ad 66), .ref (ad 67), .long M.h]) from hM.1) rfl rfl rfl rfl (Nat.le_of_ble_eq_true rfl) ⟨Nat.le_of_ble_eq_true rfl, Nat.le_of_ble_eq_true rfl⟩ ⟨Nat.le_of_ble_eq_true rfl, Nat.le_of_ble_eq_true rfl⟩ dX5_sub_52 hD hS hA (fun r3 en3 H locs hp3 hP hS => ?_)
              obtain ⟨hrv, T9, hT9, hU9, hM, ho2⟩ := hp3
              have hrv : r3 = xI ((a3 : Int) - (a2 : Int)) := hrv
              subst hrv
              have hM : MW cA ad en3 (mO M.built M.builtMany T9 (sp_up M.toldMany t4 ((a3 : Int) - (a2 : Int))) Fc ((a3 : Int) - (a2 : Int)) M.figures M.partText M.partFrom M.partMany M.parts M.cut M.cutMany M.isCut M.cutGives M.cutAt M.h) := hM
              have ho := ho.tr ho2
              have hT9 : ∀ k : Nat, k < (a3 - a2) → T9 (200 * t4 + k) = Fc k := hT9
              have hU9 : ∀ j : Nat, j < 200 * t4 ∨ 200 * t4 + 200 ≤ j → T9 j = M.told j := hU9
              exact xe_i hx hb hrt hlocks hP hS ((by unfold am_sub; simp only [Int.toNat_natCast]; simp only [sp_get_s hS_t1]; rw [sp_if_f (by omega), sp_if_f (by simp [hS_t1]), sp_if_f (by omega)]; (try rw [show Int.toNat z2 = a2 by omega]); (try rw [show Int.toNat z3 = a3 by omega]); have q9 := hR.text hW h_t4 (o := some ((Int.toNat (z3 - z2), fun q => r_t1.2 (a2 + q)) : xRow)) (T' := T9) (z := ((a3 : Int) - (a2 : Int))) ⟨by first | rfl | omega | (dsimp only; omega), fun k hk => (hT9 k (by first | exact hk | (dsimp only at hk; omega))).trans (hFd k (by first | exact hk | (dsimp only at hk; omega)))⟩ hU9; exact ⟨congrArg xI (by omega), _, hM, q9, ho⟩)) dX5_sub_55
            · refine x_sipush hx hb dX5_sub_39 (by decide +kernel) ?_
              exact xe_i hx hb hrt hlocks hP hS ((by unfold am_sub; simp only [Int.toNat_natCast]; simp only [sp_get_s hS_t1]; rw [sp_if_f (by omega), sp_if_f (by simp [hS_t1]), sp_if_t (by omega)]; exact ⟨rfl, _, hM, hR, ho⟩)) dX5_sub_42
      · have hT_t1 : M.toldMany t1 = (r_t1.1 : Int) ∧ ∀ k : Nat, k < r_t1.1 → M.told (200 * t1 + k) = r_t1.2 k := by have q := hR.2.1 t1 h_t1; rw [hS_t1] at q; exact q
        have hz_t1 := hT_t1.1
        have hm_t1 := (hW.2.1 t1 r_t1 h_t1 hS_t1).1
        have hfb_t1 := (hW.2.1 t1 r_t1 h_t1 hS_t1).2
        refine lv_aload_n hx hb dX5_sub_0 rfl (lv_at hl 0 rfl) ?_
        refine lv_iload_n hx hb dX5_sub_1 rfl (lv_at hl 1 rfl) ?_
        refine lv_iload hx hb dX5_sub_2 (lv_at hl 4 rfl) ?_
        have hy_t1 : M.toldMany (Int.toNat (t1 : Int)) = (r_t1.1 : Int) := hz_t1
        refine xv_i (i := 53) (As := [.int (xI (t1 : Int)), .int (xI z4)]) (rest := []) ⟨hx, hb, hml, hown, hts⟩ hl.1 (c_X5_barsOne l D cA n ad en hn hM (t1 : Int) z4 (-1001) (by omega) (by omega) (fun _ => by show -1 ≤ M.toldMany t1 ∧ M.toldMany t1 ≤ 200; omega) (by omega)) k_X5_barsOne u_ml_RX5_131 hK hN hP (by omega) hM.1 rfl rfl rfl rfl (Nat.le_of_ble_eq_true rfl) ⟨Nat.le_of_ble_eq_true rfl, Nat.le_of_ble_eq_true rfl⟩ ⟨Nat.le_of_ble_eq_true rfl, Nat.le_of_ble_eq_true rfl⟩ dX5_sub_4 ?_
        refine lv_istore (lv' := [(5, .int (xI (-1001))), (0, .ref (ad 53)), (1, .int (xI (t1 : Int))), (2, .int (xI z2)), (3, .int (xI z3)), (4, .int (xI z4))]) hx hb dX5_sub_7 hl (by decide) rfl (fun ls hl => ?_)
        refine lv_iload hx hb dX5_sub_9 (lv_at hl 0 rfl) ?_
        refine x_if_ge (tgt := 17) hx hb dX5_sub_11 (by decide) (by omega) (fun c_11 => absurd c_11 (by omega)) (fun c_11 => ?_)
        refine lv_iload hx hb dX5_sub_14 (lv_at hl 0 rfl) ?_
        exact xe_i hx hb hrt hlocks hP hS ((by unfold am_sub; simp only [Int.toNat_natCast]; simp only [sp_get_s hS_t1]; rw [sp_if_t (by omega)]; exact ⟨rfl, _, hM, hR, ho⟩)) dX5_sub_16
  · rcases Classical.em (0 ≤ z4 ∧ z4 < 8) with hx_z4 | hx_z4
    · obtain ⟨t4, rfl⟩ : ∃ q : Nat, z4 = (q : Int) := ⟨z4.toNat, by omega⟩
      have h_t4 : t4 < 8 := by omega
      refine lv_aload_n hx hb dX5_sub_0 rfl (lv_at hl 0 rfl) ?_
      refine lv_iload_n hx hb dX5_sub_1 rfl (lv_at hl 1 rfl) ?_
      refine lv_iload hx hb dX5_sub_2 (lv_at hl 4 rfl) ?_
      refine xv_i (i := 53) (As := [.int (xI z1), .int (xI (t4 : Int))]) (rest := []) ⟨hx, hb, hml, hown, hts⟩ hl.1 (c_X5_barsOne l D cA n ad en hn hM z1 (t4 : Int) (-1001) (by omega) (by omega) (fun h => absurd h (by omega)) (by omega)) k_X5_barsOne u_ml_RX5_131 hK hN hP (by omega) hM.1 rfl rfl rfl rfl (Nat.le_of_ble_eq_true rfl) ⟨Nat.le_of_ble_eq_true rfl, Nat.le_of_ble_eq_true rfl⟩ ⟨Nat.le_of_ble_eq_true rfl, Nat.le_of_ble_eq_true rfl⟩ dX5_sub_4 ?_
      refine lv_istore (lv' := [(5, .int (xI (-1001))), (0, .ref (ad 53)), (1, .int (xI z1)), (2, .int (xI z2)), (3, .int (xI z3)), (4, .int (xI (t4 : Int)))]) hx hb dX5_sub_7 hl (by decide) rfl (fun ls hl => ?_)
      refine lv_iload hx hb dX5_sub_9 (lv_at hl 0 rfl) ?_
      refine x_if_ge (tgt := 17) hx hb dX5_sub_11 (by decide) (by omega) (fun c_11 => absurd c_11 (by omega)) (fun c_11 => ?_)
      refine lv_iload hx hb dX5_sub_14 (lv_at hl 0 rfl) ?_
      exact xe_i hx hb hrt hlocks hP hS ((by unfold am_sub; simp only [Int.toNat_natCast]; rw [sp_if_t (by omega)]; exact ⟨rfl, _, hM, hR, ho⟩)) dX5_sub_16
    · refine lv_aload_n hx hb dX5_sub_0 rfl (lv_at hl 0 rfl) ?_
      refine lv_iload_n hx hb dX5_sub_1 rfl (lv_at hl 1 rfl) ?_
      refine lv_iload hx hb dX5_sub_2 (lv_at hl 4 rfl) ?_
      refine xv_i (i := 53) (As := [.int (xI z1), .int (xI z4)]) (rest := []) ⟨hx, hb, hml, hown, hts⟩ hl.1 (c_X5_barsOne l D cA n ad en hn hM z1 z4 (-1001) (by omega) (by omega) (fun h => absurd h (by omega)) (by omega)) k_X5_barsOne u_ml_RX5_131 hK hN hP (by omega) hM.1 rfl rfl rfl rfl (Nat.le_of_ble_eq_true rfl) ⟨Nat.le_of_ble_eq_true rfl, Nat.le_of_ble_eq_true rfl⟩ ⟨Nat.le_of_ble_eq_true rfl, Nat.le_of_ble_eq_true rfl⟩ dX5_sub_4 ?_
      refine lv_istore (lv' := [(5, .int (xI (-1001))), (0, .ref (ad 53)), (1, .int (xI z1)), (2, .int (xI z2)), (3, .int (xI z3)), (4, .int (xI z4))]) hx hb dX5_sub_7 hl (by decide) rfl (fun ls hl => ?_)
      refine lv_iload hx hb dX5_sub_9 (lv_at hl 0 rfl) ?_
      refine x_if_ge (tgt := 17) hx hb dX5_sub_11 (by decide) (by omega) (fun c_11 => absurd c_11 (by omega)) (fun c_11 => ?_)
      refine lv_iload hx hb dX5_sub_14 (lv_at hl 0 rfl) ?_
      exact xe_i hx hb hrt hlocks hP hS ((by unfold am_sub; rw [sp_if_t (by omega)]; exact ⟨rfl, _, hM, hR, ho⟩)) dX5_sub_16

set_option maxRecDepth 20000 in
theorem c_X5_trim (l : Launch) (D : va_G) (cA : Nat → ClassId) (n : Nat) (ad : Nat → Nat) (en : Nat → va_E) (sz : Nat) (hn : 68 ≤ n) {M : MO} (hM : MW cA ad en M) {S : xSt} (hW : WF S) (hR : MR S M) (z1 : Int) (hz1 : -2147483648 ≤ z1 ∧ z1 ≤ 2147483647) (z2 : Int) (hz2 : -2147483648 ≤ z2 ∧ z2 ≤ 2147483647) : Met l yX5_trim (Cond.code yX5_trim cX5_trim 6 (some .int) :: xU) (xrm 3 67) (va_Pc [.ref (ad 53), .int (xI z1), .int (xI z2)] (xM D cA n ad en sz)) (va_Qi (fun r u => r = xI (am_trim S z1 z2).1 ∧ ∃ M' : MO, MW cA ad u M' ∧ MR (am_trim S z1 z2).2 M' ∧ xO 53 68 en u) (xE D n ad) (xA n ad sz)) 0 0 (xA n ad sz) := by
  refine xmet (by decide) (Nat.le_of_ble_eq_true rfl) (fun p e s mm args below meth c ls hx hb hrt hml hown hts hlocks hname hB hl => ?_)
  obtain ⟨⟨hP, hK, hN⟩, hsz, hDt⟩ := hB
  have hD : xD (xA n ad sz) n ad := xD_self hDt sz
  have hA : ∀ q : Nat, s.heap.size ≤ q → xA n ad sz q := fun q h => Or.inr (by rw [← hsz]; exact h)
  have hS : va_S (xA n ad sz) s.heap s.heap [] := va_S.rf
  have hown : s.vm.findClass RX5 = some mm.cls := hown
  have hl : lv_has ls 6 [(0, .ref (ad 53)), (1, .int (xI z1)), (2, .int (xI z2))] := hl
  have ho : xO 53 68 en en := xO.rf
  rcases Classical.em (0 ≤ z1 ∧ z1 < 8) with hx_z1 | hx_z1
  · obtain ⟨t1, rfl⟩ : ∃ q : Nat, z1 = (q : Int) := ⟨z1.toNat, by omega⟩
    have h_t1 : t1 < 8 := by omega
    rcases hS_t1 : S.2.1 t1 with _ | r_t1
    · rcases Classical.em (0 ≤ z2 ∧ z2 < 8) with hx_z2 | hx_z2
      · obtain ⟨t2, rfl⟩ : ∃ q : Nat, z2 = (q : Int) := ⟨z2.toNat, by omega⟩
        have h_t2 : t2 < 8 := by omega
        have hz_t1 : M.toldMany t1 = -1 := by have q := hR.2.1 t1 h_t1; rw [hS_t1] at q; exact q
        refine lv_aload_n hx hb dX5_trim_0 rfl (lv_at hl 0 rfl) ?_
        refine lv_iload_n hx hb dX5_trim_1 rfl (lv_at hl 1 rfl) ?_
        refine lv_iload_n hx hb dX5_trim_2 rfl (lv_at hl 2 rfl) ?_
        have hy_t1 : M.toldMany (Int.toNat (t1 : Int)) = -1 := hz_t1
        refine xv_i (i := 53) (As := [.int (xI (t1 : Int)), .int (xI (t2 : Int))]) (rest := []) ⟨hx, hb, hml, hown, hts⟩ hl.1 (c_X5_barsOne l D cA n ad en hn hM (t1 : Int) (t2 : Int) (-1003) (by omega) (by omega) (fun _ => by show -1 ≤ M.toldMany t1 ∧ M.toldMany t1 ≤ 200; omega) (by omega)) k_X5_barsOne u_ml_RX5_131 hK hN hP (by omega) hM.1 rfl rfl rfl rfl (Nat.le_of_ble_eq_true rfl) ⟨Nat.le_of_ble_eq_true rfl, Nat.le_of_ble_eq_true rfl⟩ ⟨Nat.le_of_ble_eq_true rfl, Nat.le_of_ble_eq_true rfl⟩ dX5_trim_3 ?_
        refine lv_istore_n (lv' := [(3, .int (xI (-1003))), (0, .ref (ad 53)), (1, .int (xI (t1 : Int))), (2, .int (xI (t2 : Int)))]) hx hb dX5_trim_6 rfl hl (by decide) rfl (fun ls hl => ?_)
        refine lv_iload_n hx hb dX5_trim_7 rfl (lv_at hl 0 rfl) ?_
        refine x_if_ge (tgt := 13) hx hb dX5_trim_8 (by decide) (by omega) (fun c_8 => absurd c_8 (by omega)) (fun c_8 => ?_)
        refine lv_iload_n hx hb dX5_trim_11 rfl (lv_at hl 0 rfl) ?_
        exact xe_i hx hb hrt hlocks hP hS ((by unfold am_trim; simp only [Int.toNat_natCast]; rw [sp_if_f (by omega), sp_if_t (by simp [hS_t1])]; exact ⟨rfl, _, hM, hR, ho⟩)) dX5_trim_12
      · have hz_t1 : M.toldMany t1 = -1 := by have q := hR.2.1 t1 h_t1; rw [hS_t1] at q; exact q
        refine lv_aload_n hx hb dX5_trim_0 rfl (lv_at hl 0 rfl) ?_
        refine lv_iload_n hx hb dX5_trim_1 rfl (lv_at hl 1 rfl) ?_
        refine lv_iload_n hx hb dX5_trim_2 rfl (lv_at hl 2 rfl) ?_
        have hy_t1 : M.toldMany (Int.toNat (t1 : Int)) = -1 := hz_t1
        refine xv_i (i := 53) (As := [.int (xI (t1 : Int)), .int (xI z2)]) (rest := []) ⟨hx, hb, hml, hown, hts⟩ hl.1 (c_X5_barsOne l D cA n ad en hn hM (t1 : Int) z2 (-1001) (by omega) (by omega) (fun _ => by show -1 ≤ M.toldMany t1 ∧ M.toldMany t1 ≤ 200; omega) (by omega)) k_X5_barsOne u_ml_RX5_131 hK hN hP (by omega) hM.1 rfl rfl rfl rfl (Nat.le_of_ble_eq_true rfl) ⟨Nat.le_of_ble_eq_true rfl, Nat.le_of_ble_eq_true rfl⟩ ⟨Nat.le_of_ble_eq_true rfl, Nat.le_of_ble_eq_true rfl⟩ dX5_trim_3 ?_
        refine lv_istore_n (lv' := [(3, .int (xI (-1001))), (0, .ref (ad 53)), (1, .int (xI (t1 : Int))), (2, .int (xI z2))]) hx hb dX5_trim_6 rfl hl (by decide) rfl (fun ls hl => ?_)
        refine lv_iload_n hx hb dX5_trim_7 rfl (lv_at hl 0 rfl) ?_
        refine x_if_ge (tgt := 13) hx hb dX5_trim_8 (by decide) (by omega) (fun c_8 => absurd c_8 (by omega)) (fun c_8 => ?_)
        refine lv_iload_n hx hb dX5_trim_11 rfl (lv_at hl 0 rfl) ?_
        exact xe_i hx hb hrt hlocks hP hS ((by unfold am_trim; simp only [Int.toNat_natCast]; rw [sp_if_t (by omega)]; exact ⟨rfl, _, hM, hR, ho⟩)) dX5_trim_12
    · rcases Classical.em (0 ≤ z2 ∧ z2 < 8) with hx_z2 | hx_z2
      · obtain ⟨t2, rfl⟩ : ∃ q : Nat, z2 = (q : Int) := ⟨z2.toNat, by omega⟩
        have h_t2 : t2 < 8 := by omega
        have hT_t1 : M.toldMany t1 = (r_t1.1 : Int) ∧ ∀ k : Nat, k < r_t1.1 → M.told (200 * t1 + k) = r_t1.2 k := by have q := hR.2.1 t1 h_t1; rw [hS_t1] at q; exact q
        have hz_t1 := hT_t1.1
        have hm_t1 := (hW.2.1 t1 r_t1 h_t1 hS_t1).1
        have hfb_t1 := (hW.2.1 t1 r_t1 h_t1 hS_t1).2
        refine lv_aload_n hx hb dX5_trim_0 rfl (lv_at hl 0 rfl) ?_
        refine lv_iload_n hx hb dX5_trim_1 rfl (lv_at hl 1 rfl) ?_
        refine lv_iload_n hx hb dX5_trim_2 rfl (lv_at hl 2 rfl) ?_
        have hy_t1 : M.toldMany (Int.toNat (t1 : Int)) = (r_t1.1 : Int) := hz_t1
        refine xv_i (i := 53) (As := [.int (xI (t1 : Int)), .int (xI (t2 : Int))]) (rest := []) ⟨hx, hb, hml, hown, hts⟩ hl.1 (c_X5_barsOne l D cA n ad en hn hM (t1 : Int) (t2 : Int) 0 (by omega) (by omega) (fun _ => by show -1 ≤ M.toldMany t1 ∧ M.toldMany t1 ≤ 200; omega) (by omega)) k_X5_barsOne u_ml_RX5_131 hK hN hP (by omega) hM.1 rfl rfl rfl rfl (Nat.le_of_ble_eq_true rfl) ⟨Nat.le_of_ble_eq_true rfl, Nat.le_of_ble_eq_true rfl⟩ ⟨Nat.le_of_ble_eq_true rfl, Nat.le_of_ble_eq_true rfl⟩ dX5_trim_3 ?_
        refine lv_istore_n (lv' := [(3, .int (xI 0)), (0, .ref (ad 53)), (1, .int (xI (t1 : Int))), (2, .int (xI (t2 : Int)))]) hx hb dX5_trim_6 rfl hl (by decide) rfl (fun ls hl => ?_)
        refine lv_iload_n hx hb dX5_trim_7 rfl (lv_at hl 0 rfl) ?_
        refine x_if_ge (tgt := 13) hx hb dX5_trim_8 (by decide) (by omega) (fun c_8 => ?_) (fun c_8 => absurd c_8 (by omega))
        refine lv_aload_n hx hb dX5_trim_13 rfl (lv_at hl 1 rfl) ?_
        refine lv_iload_n hx hb dX5_trim_14 rfl (lv_at hl 2 rfl) ?_
        refine xm_v (i := 53) (As := [.int (xI (t1 : Int))]) (rest := []) ⟨hx, hb, hml, hown, hts⟩ hl.1 (c_X5_layText_some l D cA n ad en _ hn hM t1 h_t1 (r := r_t1) hz_t1 hm_t1 hT_t1.2) k_X5_layText u_ml_RX5_90 hK hN hP (by omega) hM.1 rfl rfl rfl rfl (Nat.le_of_ble_eq_true rfl) ⟨Nat.le_of_ble_eq_true rfl, Nat.le_of_ble_eq_true rfl⟩ ⟨Nat.le_of_ble_eq_true rfl, Nat.le_of_ble_eq_true rfl⟩ dX5_trim_15 hD hS hA (fun en1 H locs hp1 hP hS => ?_)
        obtain ⟨F9, hF9, hM, ho2⟩ := hp1
        have hM : MW cA ad en1 (mO M.built M.builtMany M.told M.toldMany F9 (r_t1.1 : Int) M.figures M.partText M.partFrom M.partMany M.parts M.cut M.cutMany M.isCut M.cutGives M.cutAt M.h) := hM
        have ho := ho.tr ho2
        refine x_iconst hx hb dX5_trim_18 ?_
        refine lv_istore (lv' := [(4, .int (xI 0)), (3, .int (xI 0)), (0, .ref (ad 53)), (1, .int (xI (t1 : Int))), (2, .int (xI (t2 : Int)))]) hx hb dX5_trim_19 hl (by decide) rfl (fun ls hl => ?_)
        refine lv_aload_n hx hb dX5_trim_21 rfl (lv_at hl 2 rfl) ?_
        refine x_get (T := TX5) (N := 17) hx hb hts uX5 hown hK hP (i := 53) (by omega) (show en1 53 = .inr (5, [.ref (ad 54), .ref (ad 55), .ref (ad 56), .ref (ad 57), .ref (ad 58), .int (xI (r_t1.1 : Int)), .ref (ad 59), .ref (ad 60), .ref (ad 61), .ref (ad 62), .int (xI M.parts), .ref (ad 63), .ref (ad 64), .ref (ad 65), .ref (ad 66), .ref (ad 67), .long M.h]) from hM.1) rfl 5 (by decide) u_fl_RX5_62 rfl dX5_trim_22 ?_
        refine lv_istore (lv' := [(5, .int (xI (r_t1.1 : Int))), (4, .int (xI 0)), (3, .int (xI 0)), (0, .ref (ad 53)), (1, .int (xI (t1 : Int))), (2, .int (xI (t2 : Int)))]) hx hb dX5_trim_25 hl (by decide) rfl (fun ls hl => ?_)
        have L27 : ∀ (nn : Nat) (a : Int), (0 ≤ a ∧ a ≤ (r_t1.1 : Int)) → (sp_while (fun q : Int => r_t1.2 q.toNat ≤ 32) a (r_t1.1 : Int) = sp_ta r_t1.2 (r_t1.1 : Int)) → (((r_t1.1 : Int) - a).toNat) < nn → ∀ ls : Array Slot, lv_has ls 6 [(0, .ref (ad 53)), (1, .int (xI (t1 : Int))), (2, .int (xI (t2 : Int))), (4, .int (xI a)), (5, .int (xI (r_t1.1 : Int)))] → W p l e (xrm 3 67) s mm args below meth c H locs 0 0 (MQ below (va_Qi (fun r u => r = xI (am_trim S (t1 : Int) (t2 : Int)).1 ∧ ∃ M' : MO, MW cA ad u M' ∧ MR (am_trim S (t1 : Int) (t2 : Int)).2 M' ∧ xO 53 68 en u) (xE D n ad) (xA n ad sz)) args s 0 0 (xA n ad sz)) (F0 mm 27 ls []) := by
          intro nn
          induction nn with
          | zero =>
            intro a  ha hF hmm  ls hl
            exact absurd hmm (Nat.not_lt_zero _)
          | succ nn ih =>
            intro a  ha hF hmm  ls hl
            refine lv_iload hx hb dX5_trim_27 (lv_at hl 3 rfl) ?_
            refine lv_iload hx hb dX5_trim_29 (lv_at hl 4 rfl) ?_
            refine x_icmp_ge (tgt := 52) hx hb dX5_trim_31 (by decide) (by omega) (fun c_31 => ?_) (fun c_31 => ?_)
            · have L52 : ∀ (nn : Nat) (d : Int), (a ≤ d ∧ d ≤ (r_t1.1 : Int)) → (a = sp_ta r_t1.2 (r_t1.1 : Int)) → (sp_back (fun q : Int => r_t1.2 q.toNat ≤ 32) a d = sp_back (fun q : Int => r_t1.2 q.toNat ≤ 32) a (r_t1.1 : Int)) → ((d - a).toNat) < nn → ∀ ls : Array Slot, lv_has ls 6 [(0, .ref (ad 53)), (1, .int (xI (t1 : Int))), (2, .int (xI (t2 : Int))), (4, .int (xI a)), (5, .int (xI d))] → W p l e (xrm 3 67) s mm args below meth c H locs 0 0 (MQ below (va_Qi (fun r u => r = xI (am_trim S (t1 : Int) (t2 : Int)).1 ∧ ∃ M' : MO, MW cA ad u M' ∧ MR (am_trim S (t1 : Int) (t2 : Int)).2 M' ∧ xO 53 68 en u) (xE D n ad) (xA n ad sz)) args s 0 0 (xA n ad sz)) (F0 mm 52 ls []) := by
                intro nn
                induction nn with
                | zero =>
                  intro d  hd hta hG hmm  ls hl
                  exact absurd hmm (Nat.not_lt_zero _)
                | succ nn ih =>
                  intro d  hd hta hG hmm  ls hl
                  refine lv_iload hx hb dX5_trim_52 (lv_at hl 4 rfl) ?_
                  refine lv_iload hx hb dX5_trim_54 (lv_at hl 3 rfl) ?_
                  refine x_icmp_le (tgt := 79) hx hb dX5_trim_56 (by decide) (by omega) (fun c_56 => ?_) (fun c_56 => ?_)
                  · have htb : d = sp_tb r_t1.2 (r_t1.1 : Int) := by unfold sp_tb; rw [← hta, ← hG, sp_back_e (by omega)]; omega
                    obtain ⟨a7, hv_a⟩ : ∃ q : Nat, a = (q : Int) := ⟨Int.toNat a, by omega⟩
                    obtain ⟨d7, hv_d⟩ : ∃ q : Nat, d = (q : Int) := ⟨Int.toNat d, by omega⟩
                    have hl : lv_has ls 6 [(0, .ref (ad 53)), (1, .int (xI (t1 : Int))), (2, .int (xI (t2 : Int))), (4, .int (xI (a7 : Int))), (5, .int (xI (d7 : Int)))] := by rw [← hv_a, ← hv_d]; exact hl
                    refine lv_aload_n hx hb dX5_trim_79 rfl (lv_at hl 0 rfl) ?_
                    refine lv_iload hx hb dX5_trim_80 (lv_at hl 3 rfl) ?_
                    refine lv_iload hx hb dX5_trim_82 (lv_at hl 4 rfl) ?_
                    refine xm_v (i := 53) (As := [.int (xI (a7 : Int)), .int (xI (d7 : Int))]) (rest := []) ⟨hx, hb, hml, hown, hts⟩ hl.1 (c_X5_clip l D cA n ad en1 _ hn hM a7 d7 (by omega) (by omega)) k_X5_clip u_ml_RX5_93 hK hN hP (by omega) (show en1 53 = .inr (5, [.ref (ad 54), .ref (ad 55), .ref (ad 56), .ref (ad 57), .ref (ad 58), .int (xI (r_t1.1 : Int)), .ref (ad 59), .ref (ad 60), .ref (ad 61), .ref (ad 62), .int (xI M.parts), .ref (ad 63), .ref (ad 64), .ref (ad 65), .ref (ad 66), .ref (ad 67), .long M.h]) from hM.1) rfl rfl rfl rfl (Nat.le_of_ble_eq_true rfl) ⟨Nat.le_of_ble_eq_true rfl, Nat.le_of_ble_eq_true rfl⟩ ⟨Nat.le_of_ble_eq_true rfl, Nat.le_of_ble_eq_true rfl⟩ dX5_trim_84 hD hS hA (fun en2 H locs hp2 hP hS => ?_)
                    obtain ⟨Fc, hFc, hM, ho2⟩ := hp2
                    have hM : MW cA ad en2 (mO M.built M.builtMany M.told M.toldMany Fc ((d7 : Int) - (a7 : Int)) M.figures M.partText M.partFrom M.partMany M.parts M.cut M.cutMany M.isCut M.cutGives M.cutAt M.h) := hM
                    have ho := ho.tr ho2
                    have hFc : ∀ k : Nat, k < d7 - a7 → Fc k = F9 (a7 + k) := hFc
                    have hFd : ∀ k : Nat, k < d7 - a7 → Fc k = r_t1.2 (a7 + k) := fun k hk => (hFc k hk).trans (hF9 (a7 + k) (by omega))
                    refine lv_aload_n hx hb dX5_trim_87 rfl (lv_at hl 0 rfl) ?_
                    refine lv_iload_n hx hb dX5_trim_88 rfl (lv_at hl 2 rfl) ?_
                    refine xm_i (i := 53) (As := [.int (xI (t2 : Int))]) (rest := []) ⟨hx, hb, hml, hown, hts⟩ hl.1 (c_X5_become l D cA n ad en2 _ hn hM t2 h_t2 (d7 - a7) (show ((d7 : Int) - (a7 : Int)) = (((d7 - a7) : Nat) : Int) from by omega) (by omega)) k_X5_become u_ml_RX5_118 hK hN hP (by omega) (show en2 53 = .inr (5, [.ref (ad 54), .ref (ad 55), .ref (ad 56), .ref (ad 57), .ref (ad 58), .int (xI ((d7 : Int) - (a7 : Int))), .ref (ad 59), .ref (ad 60), .ref (ad 61), .ref (ad 62), .int (xI M.parts), .ref (ad 63), .ref (ad 64), .ref (ad 65), .ref (ad 66), .ref (ad 67), .long M.h]) from hM.1) rfl rfl rfl rfl (Nat.le_of_ble_eq_true rfl) ⟨Nat.le_of_ble_eq_true rfl, Nat.le_of_ble_eq_true rfl⟩ ⟨Nat.le_of_ble_eq_true rfl, Nat.le_of_ble_eq_true rfl⟩ dX5_trim_89 hD hS hA (fun r3 en3 H locs hp3 hP hS => ?_)
                    obtain ⟨hrv, T9, hT9, hU9, hM, ho2⟩ := hp3
                    have hrv : r3 = xI ((d7 : Int) - (a7 : Int)) := hrv
                    subst hrv
                    have hM : MW cA ad en3 (mO M.built M.builtMany T9 (sp_up M.toldMany t2 ((d7 : Int) - (a7 : Int))) Fc ((d7 : Int) - (a7 : Int)) M.figures M.partText M.partFrom M.partMany M.parts M.cut M.cutMany M.isCut M.cutGives M.cutAt M.h) := hM
                    have ho := ho.tr ho2
                    have hT9 : ∀ k : Nat, k < (d7 - a7) → T9 (200 * t2 + k) = Fc k := hT9
                    have hU9 : ∀ j : Nat, j < 200 * t2 ∨ 200 * t2 + 200 ≤ j → T9 j = M.told j := hU9
                    exact xe_i hx hb hrt hlocks hP hS ((by unfold am_trim; simp only [Int.toNat_natCast]; simp only [sp_get_s hS_t1]; rw [sp_if_f (by omega), sp_if_f (by simp [hS_t1])]; (try rw [show Int.toNat a = a7 by omega]); (try rw [show Int.toNat d = d7 by omega]); unfold sp_trm; rw [← hta, ← htb, hv_a, hv_d]; have q9 := hR.text hW h_t2 (o := some ((Int.toNat ((d7 : Int) - (a7 : Int)), fun q => r_t1.2 (Int.toNat (a7 : Int) + q)) : xRow)) (T' := T9) (z := ((d7 : Int) - (a7 : Int))) ⟨by first | rfl | omega | (dsimp only; omega), fun k hk => (hT9 k (by first | exact hk | (dsimp only at hk; omega))).trans (hFd k (by first | exact hk | (dsimp only at hk; omega)))⟩ hU9; exact ⟨congrArg xI (by omega), _, hM, q9, ho⟩)) dX5_trim_92
                  · have hfx := hfb_t1 (Int.toNat (d - 1)) (by omega)
                    refine lv_aload_n hx hb dX5_trim_59 rfl (lv_at hl 0 rfl) ?_
                    refine x_get (T := TX5) (N := 17) hx hb hts uX5 hown hK hP (i := 53) (by omega) (show en1 53 = .inr (5, [.ref (ad 54), .ref (ad 55), .ref (ad 56), .ref (ad 57), .ref (ad 58), .int (xI (r_t1.1 : Int)), .ref (ad 59), .ref (ad 60), .ref (ad 61), .ref (ad 62), .int (xI M.parts), .ref (ad 63), .ref (ad 64), .ref (ad 65), .ref (ad 66), .ref (ad 67), .long M.h]) from hM.1) rfl 4 (by decide) u_fl_RX5_22 rfl dX5_trim_60 ?_
                    refine lv_iload hx hb dX5_trim_63 (lv_at hl 4 rfl) ?_
                    refine x_iconst hx hb dX5_trim_65 ?_
                    refine x_isub hx hb dX5_trim_66 ?_
                    refine x_ild hx hb hK hP (i := 58) (by omega) hM.2.2.2.2.2.1 (x := F9 (Int.toNat (d - 1))) (by omega) (rfl) dX5_trim_67 ?_
                    refine x_to (r_t1.2 (Int.toNat (d - 1))) (hF9 _ (by omega)) ?_
                    refine x_bipush hx hb dX5_trim_68 (by decide +kernel) ?_
                    refine x_icmp_gt (tgt := 79) hx hb dX5_trim_70 (by decide) (by omega) (fun c_70 => ?_) (fun c_70 => ?_)
                    · have htb : d = sp_tb r_t1.2 (r_t1.1 : Int) := by unfold sp_tb; rw [← hta, ← hG, sp_back_f (P := (fun q : Int => r_t1.2 q.toNat ≤ 32)) (by omega) (by omega)]
                      obtain ⟨a7, hv_a⟩ : ∃ q : Nat, a = (q : Int) := ⟨Int.toNat a, by omega⟩
                      obtain ⟨d7, hv_d⟩ : ∃ q : Nat, d = (q : Int) := ⟨Int.toNat d, by omega⟩
                      have hl : lv_has ls 6 [(0, .ref (ad 53)), (1, .int (xI (t1 : Int))), (2, .int (xI (t2 : Int))), (4, .int (xI (a7 : Int))), (5, .int (xI (d7 : Int)))] := by rw [← hv_a, ← hv_d]; exact hl
                      refine lv_aload_n hx hb dX5_trim_79 rfl (lv_at hl 0 rfl) ?_
                      refine lv_iload hx hb dX5_trim_80 (lv_at hl 3 rfl) ?_
                      refine lv_iload hx hb dX5_trim_82 (lv_at hl 4 rfl) ?_
                      refine xm_v (i := 53) (As := [.int (xI (a7 : Int)), .int (xI (d7 : Int))]) (rest := []) ⟨hx, hb, hml, hown, hts⟩ hl.1 (c_X5_clip l D cA n ad en1 _ hn hM a7 d7 (by omega) (by omega)) k_X5_clip u_ml_RX5_93 hK hN hP (by omega) (show en1 53 = .inr (5, [.ref (ad 54), .ref (ad 55), .ref (ad 56), .ref (ad 57), .ref (ad 58), .int (xI (r_t1.1 : Int)), .ref (ad 59), .ref (ad 60), .ref (ad 61), .ref (ad 62), .int (xI M.parts), .ref (ad 63), .ref (ad 64), .ref (ad 65), .ref (ad 66), .ref (ad 67), .long M.h]) from hM.1) rfl rfl rfl rfl (Nat.le_of_ble_eq_true rfl) ⟨Nat.le_of_ble_eq_true rfl, Nat.le_of_ble_eq_true rfl⟩ ⟨Nat.le_of_ble_eq_true rfl, Nat.le_of_ble_eq_true rfl⟩ dX5_trim_84 hD hS hA (fun en4 H locs hp4 hP hS => ?_)
                      obtain ⟨Fc, hFc, hM, ho2⟩ := hp4
                      have hM : MW cA ad en4 (mO M.built M.builtMany M.told M.toldMany Fc ((d7 : Int) - (a7 : Int)) M.figures M.partText M.partFrom M.partMany M.parts M.cut M.cutMany M.isCut M.cutGives M.cutAt M.h) := hM
                      have ho := ho.tr ho2
                      have hFc : ∀ k : Nat, k < d7 - a7 → Fc k = F9 (a7 + k) := hFc
                      have hFd : ∀ k : Nat, k < d7 - a7 → Fc k = r_t1.2 (a7 + k) := fun k hk => (hFc k hk).trans (hF9 (a7 + k) (by omega))
                      refine lv_aload_n hx hb dX5_trim_87 rfl (lv_at hl 0 rfl) ?_
                      refine lv_iload_n hx hb dX5_trim_88 rfl (lv_at hl 2 rfl) ?_
                      refine xm_i (i := 53) (As := [.int (xI (t2 : Int))]) (rest := []) ⟨hx, hb, hml, hown, hts⟩ hl.1 (c_X5_become l D cA n ad en4 _ hn hM t2 h_t2 (d7 - a7) (show ((d7 : Int) - (a7 : Int)) = (((d7 - a7) : Nat) : Int) from by omega) (by omega)) k_X5_become u_ml_RX5_118 hK hN hP (by omega) (show en4 53 = .inr (5, [.ref (ad 54), .ref (ad 55), .ref (ad 56), .ref (ad 57), .ref (ad 58), .int (xI ((d7 : Int) - (a7 : Int))), .ref (ad 59), .ref (ad 60), .ref (ad 61), .ref (ad 62), .int (xI M.parts), .ref (ad 63), .ref (ad 64), .ref (ad 65), .ref (ad 66), .ref (ad 67), .long M.h]) from hM.1) rfl rfl rfl rfl (Nat.le_of_ble_eq_true rfl) ⟨Nat.le_of_ble_eq_true rfl, Nat.le_of_ble_eq_true rfl⟩ ⟨Nat.le_of_ble_eq_true rfl, Nat.le_of_ble_eq_true rfl⟩ dX5_trim_89 hD hS hA (fun r5 en5 H locs hp5 hP hS => ?_)
                      obtain ⟨hrv, T9, hT9, hU9, hM, ho2⟩ := hp5
                      have hrv : r5 = xI ((d7 : Int) - (a7 : Int)) := hrv
                      subst hrv
                      have hM : MW cA ad en5 (mO M.built M.builtMany T9 (sp_up M.toldMany t2 ((d7 : Int) - (a7 : Int))) Fc ((d7 : Int) - (a7 : Int)) M.figures M.partText M.partFrom M.partMany M.parts M.cut M.cutMany M.isCut M.cutGives M.cutAt M.h) := hM
                      have ho := ho.tr ho2
                      have hT9 : ∀ k : Nat, k < (d7 - a7) → T9 (200 * t2 + k) = Fc k := hT9
                      have hU9 : ∀ j : Nat, j < 200 * t2 ∨ 200 * t2 + 200 ≤ j → T9 j = M.told j := hU9
                      exact xe_i hx hb hrt hlocks hP hS ((by unfold am_trim; simp only [Int.toNat_natCast]; simp only [sp_get_s hS_t1]; rw [sp_if_f (by omega), sp_if_f (by simp [hS_t1])]; (try rw [show Int.toNat a = a7 by omega]); (try rw [show Int.toNat d = d7 by omega]); unfold sp_trm; rw [← hta, ← htb, hv_a, hv_d]; have q9 := hR.text hW h_t2 (o := some ((Int.toNat ((d7 : Int) - (a7 : Int)), fun q => r_t1.2 (Int.toNat (a7 : Int) + q)) : xRow)) (T' := T9) (z := ((d7 : Int) - (a7 : Int))) ⟨by first | rfl | omega | (dsimp only; omega), fun k hk => (hT9 k (by first | exact hk | (dsimp only at hk; omega))).trans (hFd k (by first | exact hk | (dsimp only at hk; omega)))⟩ hU9; exact ⟨congrArg xI (by omega), _, hM, q9, ho⟩)) dX5_trim_92
                    · refine x_iinc (lv' := [(5, .int (xI (d + (-1)))), (0, .ref (ad 53)), (1, .int (xI (t1 : Int))), (2, .int (xI (t2 : Int))), (4, .int (xI a))]) (k := 4) hx hb dX5_trim_73 hl rfl (by decide) rfl (fun ls hl => ?_)
                      refine lv_goto (tgt := 52) hx hb dX5_trim_76 (by decide) ?_
                      exact ih (d - 1) (by omega) hta ((sp_back_t (P := (fun q : Int => r_t1.2 q.toNat ≤ 32)) (by omega) (by omega)).symm.trans hG) (by omega)  ls (lv_sub hl [1, 2, 3, 4, 0] rfl)
              exact L52 _ _ (by omega) (by rw [← hF, sp_while_n (P := (fun q : Int => r_t1.2 q.toNat ≤ 32)) (fun q => absurd q (by omega)) (by omega)]) rfl (Nat.lt_succ_self _)  ls (lv_sub hl [0, 1, 2, 3, 4] rfl)
            · have hfx := hfb_t1 (Int.toNat a) (by omega)
              refine lv_aload_n hx hb dX5_trim_34 rfl (lv_at hl 0 rfl) ?_
              refine x_get (T := TX5) (N := 17) hx hb hts uX5 hown hK hP (i := 53) (by omega) (show en1 53 = .inr (5, [.ref (ad 54), .ref (ad 55), .ref (ad 56), .ref (ad 57), .ref (ad 58), .int (xI (r_t1.1 : Int)), .ref (ad 59), .ref (ad 60), .ref (ad 61), .ref (ad 62), .int (xI M.parts), .ref (ad 63), .ref (ad 64), .ref (ad 65), .ref (ad 66), .ref (ad 67), .long M.h]) from hM.1) rfl 4 (by decide) u_fl_RX5_22 rfl dX5_trim_35 ?_
              refine lv_iload hx hb dX5_trim_38 (lv_at hl 3 rfl) ?_
              refine x_ild hx hb hK hP (i := 58) (by omega) hM.2.2.2.2.2.1 (x := F9 (Int.toNat a)) (by omega) (rfl) dX5_trim_40 ?_
              refine x_to (r_t1.2 (Int.toNat a)) (hF9 _ (by omega)) ?_
              refine x_bipush hx hb dX5_trim_41 (by decide +kernel) ?_
              refine x_icmp_gt (tgt := 52) hx hb dX5_trim_43 (by decide) (by omega) (fun c_43 => ?_) (fun c_43 => ?_)
              · have L52 : ∀ (nn : Nat) (d : Int), (a ≤ d ∧ d ≤ (r_t1.1 : Int)) → (a = sp_ta r_t1.2 (r_t1.1 : Int)) → (sp_back (fun q : Int => r_t1.2 q.toNat ≤ 32) a d = sp_back (fun q : Int => r_t1.2 q.toNat ≤ 32) a (r_t1.1 : Int)) → ((d - a).toNat) < nn → ∀ ls : Array Slot, lv_has ls 6 [(0, .ref (ad 53)), (1, .int (xI (t1 : Int))), (2, .int (xI (t2 : Int))), (4, .int (xI a)), (5, .int (xI d))] → W p l e (xrm 3 67) s mm args below meth c H locs 0 0 (MQ below (va_Qi (fun r u => r = xI (am_trim S (t1 : Int) (t2 : Int)).1 ∧ ∃ M' : MO, MW cA ad u M' ∧ MR (am_trim S (t1 : Int) (t2 : Int)).2 M' ∧ xO 53 68 en u) (xE D n ad) (xA n ad sz)) args s 0 0 (xA n ad sz)) (F0 mm 52 ls []) := by
                  intro nn
                  induction nn with
                  | zero =>
                    intro d  hd hta hG hmm  ls hl
                    exact absurd hmm (Nat.not_lt_zero _)
                  | succ nn ih =>
                    intro d  hd hta hG hmm  ls hl
                    refine lv_iload hx hb dX5_trim_52 (lv_at hl 4 rfl) ?_
                    refine lv_iload hx hb dX5_trim_54 (lv_at hl 3 rfl) ?_
                    refine x_icmp_le (tgt := 79) hx hb dX5_trim_56 (by decide) (by omega) (fun c_56 => ?_) (fun c_56 => ?_)
                    · have htb : d = sp_tb r_t1.2 (r_t1.1 : Int) := by unfold sp_tb; rw [← hta, ← hG, sp_back_e (by omega)]; omega
                      obtain ⟨a7, hv_a⟩ : ∃ q : Nat, a = (q : Int) := ⟨Int.toNat a, by omega⟩
                      obtain ⟨d7, hv_d⟩ : ∃ q : Nat, d = (q : Int) := ⟨Int.toNat d, by omega⟩
                      have hl : lv_has ls 6 [(0, .ref (ad 53)), (1, .int (xI (t1 : Int))), (2, .int (xI (t2 : Int))), (4, .int (xI (a7 : Int))), (5, .int (xI (d7 : Int)))] := by rw [← hv_a, ← hv_d]; exact hl
                      refine lv_aload_n hx hb dX5_trim_79 rfl (lv_at hl 0 rfl) ?_
                      refine lv_iload hx hb dX5_trim_80 (lv_at hl 3 rfl) ?_
                      refine lv_iload hx hb dX5_trim_82 (lv_at hl 4 rfl) ?_
                      refine xm_v (i := 53) (As := [.int (xI (a7 : Int)), .int (xI (d7 : Int))]) (rest := []) ⟨hx, hb, hml, hown, hts⟩ hl.1 (c_X5_clip l D cA n ad en1 _ hn hM a7 d7 (by omega) (by omega)) k_X5_clip u_ml_RX5_93 hK hN hP (by omega) (show en1 53 = .inr (5, [.ref (ad 54), .ref (ad 55), .ref (ad 56), .ref (ad 57), .ref (ad 58), .int (xI (r_t1.1 : Int)), .ref (ad 59), .ref (ad 60), .ref (ad 61), .ref (ad 62), .int (xI M.parts), .ref (ad 63), .ref (ad 64), .ref (ad 65), .ref (ad 66), .ref (ad 67), .long M.h]) from hM.1) rfl rfl rfl rfl (Nat.le_of_ble_eq_true rfl) ⟨Nat.le_of_ble_eq_true rfl, Nat.le_of_ble_eq_true rfl⟩ ⟨Nat.le_of_ble_eq_true rfl, Nat.le_of_ble_eq_true rfl⟩ dX5_trim_84 hD hS hA (fun en6 H locs hp6 hP hS => ?_)
                      obtain ⟨Fc, hFc, hM, ho2⟩ := hp6
                      have hM : MW cA ad en6 (mO M.built M.builtMany M.told M.toldMany Fc ((d7 : Int) - (a7 : Int)) M.figures M.partText M.partFrom M.partMany M.parts M.cut M.cutMany M.isCut M.cutGives M.cutAt M.h) := hM
                      have ho := ho.tr ho2
                      have hFc : ∀ k : Nat, k < d7 - a7 → Fc k = F9 (a7 + k) := hFc
                      have hFd : ∀ k : Nat, k < d7 - a7 → Fc k = r_t1.2 (a7 + k) := fun k hk => (hFc k hk).trans (hF9 (a7 + k) (by omega))
                      refine lv_aload_n hx hb dX5_trim_87 rfl (lv_at hl 0 rfl) ?_
                      refine lv_iload_n hx hb dX5_trim_88 rfl (lv_at hl 2 rfl) ?_
                      refine xm_i (i := 53) (As := [.int (xI (t2 : Int))]) (rest := []) ⟨hx, hb, hml, hown, hts⟩ hl.1 (c_X5_become l D cA n ad en6 _ hn hM t2 h_t2 (d7 - a7) (show ((d7 : Int) - (a7 : Int)) = (((d7 - a7) : Nat) : Int) from by omega) (by omega)) k_X5_become u_ml_RX5_118 hK hN hP (by omega) (show en6 53 = .inr (5, [.ref (ad 54), .ref (ad 55), .ref (ad 56), .ref (ad 57), .ref (ad 58), .int (xI ((d7 : Int) - (a7 : Int))), .ref (ad 59), .ref (ad 60), .ref (ad 61), .ref (ad 62), .int (xI M.parts), .ref (ad 63), .ref (ad 64), .ref (ad 65), .ref (ad 66), .ref (ad 67), .long M.h]) from hM.1) rfl rfl rfl rfl (Nat.le_of_ble_eq_true rfl) ⟨Nat.le_of_ble_eq_true rfl, Nat.le_of_ble_eq_true rfl⟩ ⟨Nat.le_of_ble_eq_true rfl, Nat.le_of_ble_eq_true rfl⟩ dX5_trim_89 hD hS hA (fun r7 en7 H locs hp7 hP hS => ?_)
                      obtain ⟨hrv, T9, hT9, hU9, hM, ho2⟩ := hp7
                      have hrv : r7 = xI ((d7 : Int) - (a7 : Int)) := hrv
                      subst hrv
                      have hM : MW cA ad en7 (mO M.built M.builtMany T9 (sp_up M.toldMany t2 ((d7 : Int) - (a7 : Int))) Fc ((d7 : Int) - (a7 : Int)) M.figures M.partText M.partFrom M.partMany M.parts M.cut M.cutMany M.isCut M.cutGives M.cutAt M.h) := hM
                      have ho := ho.tr ho2
                      have hT9 : ∀ k : Nat, k < (d7 - a7) → T9 (200 * t2 + k) = Fc k := hT9
                      have hU9 : ∀ j : Nat, j < 200 * t2 ∨ 200 * t2 + 200 ≤ j → T9 j = M.told j := hU9
                      exact xe_i hx hb hrt hlocks hP hS ((by unfold am_trim; simp only [Int.toNat_natCast]; simp only [sp_get_s hS_t1]; rw [sp_if_f (by omega), sp_if_f (by simp [hS_t1])]; (try rw [show Int.toNat a = a7 by omega]); (try rw [show Int.toNat d = d7 by omega]); unfold sp_trm; rw [← hta, ← htb, hv_a, hv_d]; have q9 := hR.text hW h_t2 (o := some ((Int.toNat ((d7 : Int) - (a7 : Int)), fun q => r_t1.2 (Int.toNat (a7 : Int) + q)) : xRow)) (T' := T9) (z := ((d7 : Int) - (a7 : Int))) ⟨by first | rfl | omega | (dsimp only; omega), fun k hk => (hT9 k (by first | exact hk | (dsimp only at hk; omega))).trans (hFd k (by first | exact hk | (dsimp only at hk; omega)))⟩ hU9; exact ⟨congrArg xI (by omega), _, hM, q9, ho⟩)) dX5_trim_92
                    · have hfx := hfb_t1 (Int.toNat (d - 1)) (by omega)
                      refine lv_aload_n hx hb dX5_trim_59 rfl (lv_at hl 0 rfl) ?_
                      refine x_get (T := TX5) (N := 17) hx hb hts uX5 hown hK hP (i := 53) (by omega) (show en1 53 = .inr (5, [.ref (ad 54), .ref (ad 55), .ref (ad 56), .ref (ad 57), .ref (ad 58), .int (xI (r_t1.1 : Int)), .ref (ad 59), .ref (ad 60), .ref (ad 61), .ref (ad 62), .int (xI M.parts), .ref (ad 63), .ref (ad 64), .ref (ad 65), .ref (ad 66), .ref (ad 67), .long M.h]) from hM.1) rfl 4 (by decide) u_fl_RX5_22 rfl dX5_trim_60 ?_
                      refine lv_iload hx hb dX5_trim_63 (lv_at hl 4 rfl) ?_
                      refine x_iconst hx hb dX5_trim_65 ?_
                      refine x_isub hx hb dX5_trim_66 ?_
                      refine x_ild hx hb hK hP (i := 58) (by omega) hM.2.2.2.2.2.1 (x := F9 (Int.toNat (d - 1))) (by omega) (rfl) dX5_trim_67 ?_
                      refine x_to (r_t1.2 (Int.toNat (d - 1))) (hF9 _ (by omega)) ?_
                      refine x_bipush hx hb dX5_trim_68 (by decide +kernel) ?_
                      refine x_icmp_gt (tgt := 79) hx hb dX5_trim_70 (by decide) (by omega) (fun c_70 => ?_) (fun c_70 => ?_)
                      · have htb : d = sp_tb r_t1.2 (r_t1.1 : Int) := by unfold sp_tb; rw [← hta, ← hG, sp_back_f (P := (fun q : Int => r_t1.2 q.toNat ≤ 32)) (by omega) (by omega)]
                        obtain ⟨a7, hv_a⟩ : ∃ q : Nat, a = (q : Int) := ⟨Int.toNat a, by omega⟩
                        obtain ⟨d7, hv_d⟩ : ∃ q : Nat, d = (q : Int) := ⟨Int.toNat d, by omega⟩
                        have hl : lv_has ls 6 [(0, .ref (ad 53)), (1, .int (xI (t1 : Int))), (2, .int (xI (t2 : Int))), (4, .int (xI (a7 : Int))), (5, .int (xI (d7 : Int)))] := by rw [← hv_a, ← hv_d]; exact hl
                        refine lv_aload_n hx hb dX5_trim_79 rfl (lv_at hl 0 rfl) ?_
                        refine lv_iload hx hb dX5_trim_80 (lv_at hl 3 rfl) ?_
                        refine lv_iload hx hb dX5_trim_82 (lv_at hl 4 rfl) ?_
                        refine xm_v (i := 53) (As := [.int (xI (a7 : Int)), .int (xI (d7 : Int))]) (rest := []) ⟨hx, hb, hml, hown, hts⟩ hl.1 (c_X5_clip l D cA n ad en1 _ hn hM a7 d7 (by omega) (by omega)) k_X5_clip u_ml_RX5_93 hK hN hP (by omega) (show en1 53 = .inr (5, [.ref (ad 54), .ref (ad 55), .ref (ad 56), .ref (ad 57), .ref (ad 58), .int (xI (r_t1.1 : Int)), .ref (ad 59), .ref (ad 60), .ref (ad 61), .ref (ad 62), .int (xI M.parts), .ref (ad 63), .ref (ad 64), .ref (ad 65), .ref (ad 66), .ref (ad 67), .long M.h]) from hM.1) rfl rfl rfl rfl (Nat.le_of_ble_eq_true rfl) ⟨Nat.le_of_ble_eq_true rfl, Nat.le_of_ble_eq_true rfl⟩ ⟨Nat.le_of_ble_eq_true rfl, Nat.le_of_ble_eq_true rfl⟩ dX5_trim_84 hD hS hA (fun en8 H locs hp8 hP hS => ?_)
                        obtain ⟨Fc, hFc, hM, ho2⟩ := hp8
                        have hM : MW cA ad en8 (mO M.built M.builtMany M.told M.toldMany Fc ((d7 : Int) - (a7 : Int)) M.figures M.partText M.partFrom M.partMany M.parts M.cut M.cutMany M.isCut M.cutGives M.cutAt M.h) := hM
                        have ho := ho.tr ho2
                        have hFc : ∀ k : Nat, k < d7 - a7 → Fc k = F9 (a7 + k) := hFc
                        have hFd : ∀ k : Nat, k < d7 - a7 → Fc k = r_t1.2 (a7 + k) := fun k hk => (hFc k hk).trans (hF9 (a7 + k) (by omega))
                        refine lv_aload_n hx hb dX5_trim_87 rfl (lv_at hl 0 rfl) ?_
                        refine lv_iload_n hx hb dX5_trim_88 rfl (lv_at hl 2 rfl) ?_
                        refine xm_i (i := 53) (As := [.int (xI (t2 : Int))]) (rest := []) ⟨hx, hb, hml, hown, hts⟩ hl.1 (c_X5_become l D cA n ad en8 _ hn hM t2 h_t2 (d7 - a7) (show ((d7 : Int) - (a7 : Int)) = (((d7 - a7) : Nat) : Int) from by omega) (by omega)) k_X5_become u_ml_RX5_118 hK hN hP (by omega) (show en8 53 = .inr (5, [.ref (ad 54), .ref (ad 55), .ref (ad 56), .ref (ad 57), .ref (ad 58), .int (xI ((d7 : Int) - (a7 : Int))), .ref (ad 59), .ref (ad 60), .ref (ad 61), .ref (ad 62), .int (xI M.parts), .ref (ad 63), .ref (ad 64), .ref (ad 65), .ref (ad 66), .ref (ad 67), .long M.h]) from hM.1) rfl rfl rfl rfl (Nat.le_of_ble_eq_true rfl) ⟨Nat.le_of_ble_eq_true rfl, Nat.le_of_ble_eq_true rfl⟩ ⟨Nat.le_of_ble_eq_true rfl, Nat.le_of_ble_eq_true rfl⟩ dX5_trim_89 hD hS hA (fun r9 en9 H locs hp9 hP hS => ?_)
                        obtain ⟨hrv, T9, hT9, hU9, hM, ho2⟩ := hp9
                        have hrv : r9 = xI ((d7 : Int) - (a7 : Int)) := hrv
                        subst hrv
                        have hM : MW cA ad en9 (mO M.built M.builtMany T9 (sp_up M.toldMany t2 ((d7 : Int) - (a7 : Int))) Fc ((d7 : Int) - (a7 : Int)) M.figures M.partText M.partFrom M.partMany M.parts M.cut M.cutMany M.isCut M.cutGives M.cutAt M.h) := hM
                        have ho := ho.tr ho2
                        have hT9 : ∀ k : Nat, k < (d7 - a7) → T9 (200 * t2 + k) = Fc k := hT9
                        have hU9 : ∀ j : Nat, j < 200 * t2 ∨ 200 * t2 + 200 ≤ j → T9 j = M.told j := hU9
                        exact xe_i hx hb hrt hlocks hP hS ((by unfold am_trim; simp only [Int.toNat_natCast]; simp only [sp_get_s hS_t1]; rw [sp_if_f (by omega), sp_if_f (by simp [hS_t1])]; (try rw [show Int.toNat a = a7 by omega]); (try rw [show Int.toNat d = d7 by omega]); unfold sp_trm; rw [← hta, ← htb, hv_a, hv_d]; have q9 := hR.text hW h_t2 (o := some ((Int.toNat ((d7 : Int) - (a7 : Int)), fun q => r_t1.2 (Int.toNat (a7 : Int) + q)) : xRow)) (T' := T9) (z := ((d7 : Int) - (a7 : Int))) ⟨by first | rfl | omega | (dsimp only; omega), fun k hk => (hT9 k (by first | exact hk | (dsimp only at hk; omega))).trans (hFd k (by first | exact hk | (dsimp only at hk; omega)))⟩ hU9; exact ⟨congrArg xI (by omega), _, hM, q9, ho⟩)) dX5_trim_92
                      · refine x_iinc (lv' := [(5, .int (xI (d + (-1)))), (0, .ref (ad 53)), (1, .int (xI (t1 : Int))), (2, .int (xI (t2 : Int))), (4, .int (xI a))]) (k := 4) hx hb dX5_trim_73 hl rfl (by decide) rfl (fun ls hl => ?_)
                        refine lv_goto (tgt := 52) hx hb dX5_trim_76 (by decide) ?_
                        exact ih (d - 1) (by omega) hta ((sp_back_t (P := (fun q : Int => r_t1.2 q.toNat ≤ 32)) (by omega) (by omega)).symm.trans hG) (by omega)  ls (lv_sub hl [1, 2, 3, 4, 0] rfl)
                exact L52 _ _ (by omega) (by rw [← hF, sp_while_n (P := (fun q : Int => r_t1.2 q.toNat ≤ 32)) (fun _ q => by omega) (by omega)]) rfl (Nat.lt_succ_self _)  ls (lv_sub hl [0, 1, 2, 3, 4] rfl)
              · refine x_iinc (lv' := [(4, .int (xI (a + 1))), (0, .ref (ad 53)), (1, .int (xI (t1 : Int))), (2, .int (xI (t2 : Int))), (5, .int (xI (r_t1.1 : Int)))]) (k := 3) hx hb dX5_trim_46 hl rfl (by decide) rfl (fun ls hl => ?_)
                refine lv_goto (tgt := 27) hx hb dX5_trim_49 (by decide) ?_
                exact ih (a + 1) (by omega) ((sp_while_t (P := (fun q : Int => r_t1.2 q.toNat ≤ 32)) (by omega) (by omega)).symm.trans hF) (by omega)  ls (lv_sub hl [1, 2, 3, 0, 4] rfl)
        exact L27 _ 0 (by omega) rfl (Nat.lt_succ_self _)  ls (lv_sub hl [3, 4, 5, 1, 0] rfl)
      · have hT_t1 : M.toldMany t1 = (r_t1.1 : Int) ∧ ∀ k : Nat, k < r_t1.1 → M.told (200 * t1 + k) = r_t1.2 k := by have q := hR.2.1 t1 h_t1; rw [hS_t1] at q; exact q
        have hz_t1 := hT_t1.1
        have hm_t1 := (hW.2.1 t1 r_t1 h_t1 hS_t1).1
        have hfb_t1 := (hW.2.1 t1 r_t1 h_t1 hS_t1).2
        refine lv_aload_n hx hb dX5_trim_0 rfl (lv_at hl 0 rfl) ?_
        refine lv_iload_n hx hb dX5_trim_1 rfl (lv_at hl 1 rfl) ?_
        refine lv_iload_n hx hb dX5_trim_2 rfl (lv_at hl 2 rfl) ?_
        have hy_t1 : M.toldMany (Int.toNat (t1 : Int)) = (r_t1.1 : Int) := hz_t1
        refine xv_i (i := 53) (As := [.int (xI (t1 : Int)), .int (xI z2)]) (rest := []) ⟨hx, hb, hml, hown, hts⟩ hl.1 (c_X5_barsOne l D cA n ad en hn hM (t1 : Int) z2 (-1001) (by omega) (by omega) (fun _ => by show -1 ≤ M.toldMany t1 ∧ M.toldMany t1 ≤ 200; omega) (by omega)) k_X5_barsOne u_ml_RX5_131 hK hN hP (by omega) hM.1 rfl rfl rfl rfl (Nat.le_of_ble_eq_true rfl) ⟨Nat.le_of_ble_eq_true rfl, Nat.le_of_ble_eq_true rfl⟩ ⟨Nat.le_of_ble_eq_true rfl, Nat.le_of_ble_eq_true rfl⟩ dX5_trim_3 ?_
        refine lv_istore_n (lv' := [(3, .int (xI (-1001))), (0, .ref (ad 53)), (1, .int (xI (t1 : Int))), (2, .int (xI z2))]) hx hb dX5_trim_6 rfl hl (by decide) rfl (fun ls hl => ?_)
        refine lv_iload_n hx hb dX5_trim_7 rfl (lv_at hl 0 rfl) ?_
        refine x_if_ge (tgt := 13) hx hb dX5_trim_8 (by decide) (by omega) (fun c_8 => absurd c_8 (by omega)) (fun c_8 => ?_)
        refine lv_iload_n hx hb dX5_trim_11 rfl (lv_at hl 0 rfl) ?_
        exact xe_i hx hb hrt hlocks hP hS ((by unfold am_trim; simp only [Int.toNat_natCast]; simp only [sp_get_s hS_t1]; rw [sp_if_t (by omega)]; exact ⟨rfl, _, hM, hR, ho⟩)) dX5_trim_12
  · rcases Classical.em (0 ≤ z2 ∧ z2 < 8) with hx_z2 | hx_z2
    · obtain ⟨t2, rfl⟩ : ∃ q : Nat, z2 = (q : Int) := ⟨z2.toNat, by omega⟩
      have h_t2 : t2 < 8 := by omega
      refine lv_aload_n hx hb dX5_trim_0 rfl (lv_at hl 0 rfl) ?_
      refine lv_iload_n hx hb dX5_trim_1 rfl (lv_at hl 1 rfl) ?_
      refine lv_iload_n hx hb dX5_trim_2 rfl (lv_at hl 2 rfl) ?_
      refine xv_i (i := 53) (As := [.int (xI z1), .int (xI (t2 : Int))]) (rest := []) ⟨hx, hb, hml, hown, hts⟩ hl.1 (c_X5_barsOne l D cA n ad en hn hM z1 (t2 : Int) (-1001) (by omega) (by omega) (fun h => absurd h (by omega)) (by omega)) k_X5_barsOne u_ml_RX5_131 hK hN hP (by omega) hM.1 rfl rfl rfl rfl (Nat.le_of_ble_eq_true rfl) ⟨Nat.le_of_ble_eq_true rfl, Nat.le_of_ble_eq_true rfl⟩ ⟨Nat.le_of_ble_eq_true rfl, Nat.le_of_ble_eq_true rfl⟩ dX5_trim_3 ?_
      refine lv_istore_n (lv' := [(3, .int (xI (-1001))), (0, .ref (ad 53)), (1, .int (xI z1)), (2, .int (xI (t2 : Int)))]) hx hb dX5_trim_6 rfl hl (by decide) rfl (fun ls hl => ?_)
      refine lv_iload_n hx hb dX5_trim_7 rfl (lv_at hl 0 rfl) ?_
      refine x_if_ge (tgt := 13) hx hb dX5_trim_8 (by decide) (by omega) (fun c_8 => absurd c_8 (by omega)) (fun c_8 => ?_)
      refine lv_iload_n hx hb dX5_trim_11 rfl (lv_at hl 0 rfl) ?_
      exact xe_i hx hb hrt hlocks hP hS ((by unfold am_trim; simp only [Int.toNat_natCast]; rw [sp_if_t (by omega)]; exact ⟨rfl, _, hM, hR, ho⟩)) dX5_trim_12
    · refine lv_aload_n hx hb dX5_trim_0 rfl (lv_at hl 0 rfl) ?_
      refine lv_iload_n hx hb dX5_trim_1 rfl (lv_at hl 1 rfl) ?_
      refine lv_iload_n hx hb dX5_trim_2 rfl (lv_at hl 2 rfl) ?_
      refine xv_i (i := 53) (As := [.int (xI z1), .int (xI z2)]) (rest := []) ⟨hx, hb, hml, hown, hts⟩ hl.1 (c_X5_barsOne l D cA n ad en hn hM z1 z2 (-1001) (by omega) (by omega) (fun h => absurd h (by omega)) (by omega)) k_X5_barsOne u_ml_RX5_131 hK hN hP (by omega) hM.1 rfl rfl rfl rfl (Nat.le_of_ble_eq_true rfl) ⟨Nat.le_of_ble_eq_true rfl, Nat.le_of_ble_eq_true rfl⟩ ⟨Nat.le_of_ble_eq_true rfl, Nat.le_of_ble_eq_true rfl⟩ dX5_trim_3 ?_
      refine lv_istore_n (lv' := [(3, .int (xI (-1001))), (0, .ref (ad 53)), (1, .int (xI z1)), (2, .int (xI z2))]) hx hb dX5_trim_6 rfl hl (by decide) rfl (fun ls hl => ?_)
      refine lv_iload_n hx hb dX5_trim_7 rfl (lv_at hl 0 rfl) ?_
      refine x_if_ge (tgt := 13) hx hb dX5_trim_8 (by decide) (by omega) (fun c_8 => absurd c_8 (by omega)) (fun c_8 => ?_)
      refine lv_iload_n hx hb dX5_trim_11 rfl (lv_at hl 0 rfl) ?_
      exact xe_i hx hb hrt hlocks hP hS ((by unfold am_trim; rw [sp_if_t (by omega)]; exact ⟨rfl, _, hM, hR, ho⟩)) dX5_trim_12

set_option maxRecDepth 20000 in
theorem c_X5_repeat (l : Launch) (D : va_G) (cA : Nat → ClassId) (n : Nat) (ad : Nat → Nat) (en : Nat → va_E) (sz : Nat) (hn : 68 ≤ n) {M : MO} (hM : MW cA ad en M) {S : xSt} (hW : WF S) (hR : MR S M) (z1 : Int) (hz1 : -2147483648 ≤ z1 ∧ z1 ≤ 2147483647) (z2 : Int) (hz2 : -2147483648 ≤ z2 ∧ z2 ≤ 2147483647) (z3 : Int) (hz3 : -2147483648 ≤ z3 ∧ z3 ≤ 2147483647) : Met l yX5_repeat (Cond.code yX5_repeat cX5_repeat 7 (some .int) :: xU) (xrm 3 67) (va_Pc [.ref (ad 53), .int (xI z1), .int (xI z2), .int (xI z3)] (xM D cA n ad en sz)) (va_Qi (fun r u => r = xI (am_repeat S z1 z2 z3).1 ∧ ∃ M' : MO, MW cA ad u M' ∧ MR (am_repeat S z1 z2 z3).2 M' ∧ xO 53 68 en u) (xE D n ad) (xA n ad sz)) 0 0 (xA n ad sz) := by
  refine xmet (by decide) (Nat.le_of_ble_eq_true rfl) (fun p e s mm args below meth c ls hx hb hrt hml hown hts hlocks hname hB hl => ?_)
  obtain ⟨⟨hP, hK, hN⟩, hsz, hDt⟩ := hB
  have hD : xD (xA n ad sz) n ad := xD_self hDt sz
  have hA : ∀ q : Nat, s.heap.size ≤ q → xA n ad sz q := fun q h => Or.inr (by rw [← hsz]; exact h)
  have hS : va_S (xA n ad sz) s.heap s.heap [] := va_S.rf
  have hown : s.vm.findClass RX5 = some mm.cls := hown
  have hl : lv_has ls 7 [(0, .ref (ad 53)), (1, .int (xI z1)), (2, .int (xI z2)), (3, .int (xI z3))] := hl
  have ho : xO 53 68 en en := xO.rf
  rcases Classical.em (0 ≤ z1 ∧ z1 < 8) with hx_z1 | hx_z1
  · obtain ⟨t1, rfl⟩ : ∃ q : Nat, z1 = (q : Int) := ⟨z1.toNat, by omega⟩
    have h_t1 : t1 < 8 := by omega
    rcases hS_t1 : S.2.1 t1 with _ | r_t1
    · rcases Classical.em (0 ≤ z3 ∧ z3 < 8) with hx_z3 | hx_z3
      · obtain ⟨t3, rfl⟩ : ∃ q : Nat, z3 = (q : Int) := ⟨z3.toNat, by omega⟩
        have h_t3 : t3 < 8 := by omega
        have hz_t1 : M.toldMany t1 = -1 := by have q := hR.2.1 t1 h_t1; rw [hS_t1] at q; exact q
        refine lv_aload_n hx hb dX5_repeat_0 rfl (lv_at hl 0 rfl) ?_
        refine lv_iload_n hx hb dX5_repeat_1 rfl (lv_at hl 1 rfl) ?_
        refine lv_iload_n hx hb dX5_repeat_2 rfl (lv_at hl 3 rfl) ?_
        have hy_t1 : M.toldMany (Int.toNat (t1 : Int)) = -1 := hz_t1
        refine xv_i (i := 53) (As := [.int (xI (t1 : Int)), .int (xI (t3 : Int))]) (rest := []) ⟨hx, hb, hml, hown, hts⟩ hl.1 (c_X5_barsOne l D cA n ad en hn hM (t1 : Int) (t3 : Int) (-1003) (by omega) (by omega) (fun _ => by show -1 ≤ M.toldMany t1 ∧ M.toldMany t1 ≤ 200; omega) (by omega)) k_X5_barsOne u_ml_RX5_131 hK hN hP (by omega) hM.1 rfl rfl rfl rfl (Nat.le_of_ble_eq_true rfl) ⟨Nat.le_of_ble_eq_true rfl, Nat.le_of_ble_eq_true rfl⟩ ⟨Nat.le_of_ble_eq_true rfl, Nat.le_of_ble_eq_true rfl⟩ dX5_repeat_3 ?_
        refine lv_istore (lv' := [(4, .int (xI (-1003))), (0, .ref (ad 53)), (1, .int (xI (t1 : Int))), (2, .int (xI z2)), (3, .int (xI (t3 : Int)))]) hx hb dX5_repeat_6 hl (by decide) rfl (fun ls hl => ?_)
        refine lv_iload hx hb dX5_repeat_8 (lv_at hl 0 rfl) ?_
        refine x_if_ge (tgt := 16) hx hb dX5_repeat_10 (by decide) (by omega) (fun c_10 => absurd c_10 (by omega)) (fun c_10 => ?_)
        refine lv_iload hx hb dX5_repeat_13 (lv_at hl 0 rfl) ?_
        exact xe_i hx hb hrt hlocks hP hS ((by unfold am_repeat; simp only [Int.toNat_natCast]; rw [sp_if_f (by omega), sp_if_t (by simp [hS_t1])]; exact ⟨rfl, _, hM, hR, ho⟩)) dX5_repeat_15
      · have hz_t1 : M.toldMany t1 = -1 := by have q := hR.2.1 t1 h_t1; rw [hS_t1] at q; exact q
        refine lv_aload_n hx hb dX5_repeat_0 rfl (lv_at hl 0 rfl) ?_
        refine lv_iload_n hx hb dX5_repeat_1 rfl (lv_at hl 1 rfl) ?_
        refine lv_iload_n hx hb dX5_repeat_2 rfl (lv_at hl 3 rfl) ?_
        have hy_t1 : M.toldMany (Int.toNat (t1 : Int)) = -1 := hz_t1
        refine xv_i (i := 53) (As := [.int (xI (t1 : Int)), .int (xI z3)]) (rest := []) ⟨hx, hb, hml, hown, hts⟩ hl.1 (c_X5_barsOne l D cA n ad en hn hM (t1 : Int) z3 (-1001) (by omega) (by omega) (fun _ => by show -1 ≤ M.toldMany t1 ∧ M.toldMany t1 ≤ 200; omega) (by omega)) k_X5_barsOne u_ml_RX5_131 hK hN hP (by omega) hM.1 rfl rfl rfl rfl (Nat.le_of_ble_eq_true rfl) ⟨Nat.le_of_ble_eq_true rfl, Nat.le_of_ble_eq_true rfl⟩ ⟨Nat.le_of_ble_eq_true rfl, Nat.le_of_ble_eq_true rfl⟩ dX5_repeat_3 ?_
        refine lv_istore (lv' := [(4, .int (xI (-1001))), (0, .ref (ad 53)), (1, .int (xI (t1 : Int))), (2, .int (xI z2)), (3, .int (xI z3))]) hx hb dX5_repeat_6 hl (by decide) rfl (fun ls hl => ?_)
        refine lv_iload hx hb dX5_repeat_8 (lv_at hl 0 rfl) ?_
        refine x_if_ge (tgt := 16) hx hb dX5_repeat_10 (by decide) (by omega) (fun c_10 => absurd c_10 (by omega)) (fun c_10 => ?_)
        refine lv_iload hx hb dX5_repeat_13 (lv_at hl 0 rfl) ?_
        exact xe_i hx hb hrt hlocks hP hS ((by unfold am_repeat; simp only [Int.toNat_natCast]; rw [sp_if_t (by omega)]; exact ⟨rfl, _, hM, hR, ho⟩)) dX5_repeat_15
    · rcases Classical.em (0 ≤ z3 ∧ z3 < 8) with hx_z3 | hx_z3
      · obtain ⟨t3, rfl⟩ : ∃ q : Nat, z3 = (q : Int) := ⟨z3.toNat, by omega⟩
        have h_t3 : t3 < 8 := by omega
        have hT_t1 : M.toldMany t1 = (r_t1.1 : Int) ∧ ∀ k : Nat, k < r_t1.1 → M.told (200 * t1 + k) = r_t1.2 k := by have q := hR.2.1 t1 h_t1; rw [hS_t1] at q; exact q
        have hz_t1 := hT_t1.1
        have hm_t1 := (hW.2.1 t1 r_t1 h_t1 hS_t1).1
        have hfb_t1 := (hW.2.1 t1 r_t1 h_t1 hS_t1).2
        refine lv_aload_n hx hb dX5_repeat_0 rfl (lv_at hl 0 rfl) ?_
        refine lv_iload_n hx hb dX5_repeat_1 rfl (lv_at hl 1 rfl) ?_
        refine lv_iload_n hx hb dX5_repeat_2 rfl (lv_at hl 3 rfl) ?_
        have hy_t1 : M.toldMany (Int.toNat (t1 : Int)) = (r_t1.1 : Int) := hz_t1
        refine xv_i (i := 53) (As := [.int (xI (t1 : Int)), .int (xI (t3 : Int))]) (rest := []) ⟨hx, hb, hml, hown, hts⟩ hl.1 (c_X5_barsOne l D cA n ad en hn hM (t1 : Int) (t3 : Int) 0 (by omega) (by omega) (fun _ => by show -1 ≤ M.toldMany t1 ∧ M.toldMany t1 ≤ 200; omega) (by omega)) k_X5_barsOne u_ml_RX5_131 hK hN hP (by omega) hM.1 rfl rfl rfl rfl (Nat.le_of_ble_eq_true rfl) ⟨Nat.le_of_ble_eq_true rfl, Nat.le_of_ble_eq_true rfl⟩ ⟨Nat.le_of_ble_eq_true rfl, Nat.le_of_ble_eq_true rfl⟩ dX5_repeat_3 ?_
        refine lv_istore (lv' := [(4, .int (xI 0)), (0, .ref (ad 53)), (1, .int (xI (t1 : Int))), (2, .int (xI z2)), (3, .int (xI (t3 : Int)))]) hx hb dX5_repeat_6 hl (by decide) rfl (fun ls hl => ?_)
        refine lv_iload hx hb dX5_repeat_8 (lv_at hl 0 rfl) ?_
        refine x_if_ge (tgt := 16) hx hb dX5_repeat_10 (by decide) (by omega) (fun c_10 => ?_) (fun c_10 => absurd c_10 (by omega))
        refine lv_iload_n hx hb dX5_repeat_16 rfl (lv_at hl 3 rfl) ?_
        refine x_if_ge (tgt := 24) hx hb dX5_repeat_17 (by decide) (by omega) (fun c_17 => ?_) (fun c_17 => ?_)
        · obtain ⟨Z, hv_z2⟩ : ∃ q : Nat, z2 = (q : Int) := ⟨Int.toNat z2, by omega⟩
          have hl : lv_has ls 7 [(4, .int (xI 0)), (0, .ref (ad 53)), (1, .int (xI (t1 : Int))), (2, .int (xI (Z : Int))), (3, .int (xI (t3 : Int)))] := by rw [← hv_z2]; exact hl
          have hZ8 : z2 * (r_t1.1 : Int) = (Z : Int) * (r_t1.1 : Int) := by rw [hv_z2]
          have hZ9 : (Z : Int) * (r_t1.1 : Int) = ((Z * r_t1.1 : Nat) : Int) := (Int.natCast_mul Z r_t1.1).symm
          have hZ7 : (Z : Int) * (r_t1.1 : Int) ≤ (Z : Int) * 200 := Int.mul_le_mul_of_nonneg_left (by omega) (by omega)
          refine lv_aload_n hx hb dX5_repeat_24 rfl (lv_at hl 1 rfl) ?_
          refine lv_iload_n hx hb dX5_repeat_25 rfl (lv_at hl 2 rfl) ?_
          refine xm_v (i := 53) (As := [.int (xI (t1 : Int))]) (rest := []) ⟨hx, hb, hml, hown, hts⟩ hl.1 (c_X5_layText_some l D cA n ad en _ hn hM t1 h_t1 (r := r_t1) hz_t1 hm_t1 hT_t1.2) k_X5_layText u_ml_RX5_90 hK hN hP (by omega) hM.1 rfl rfl rfl rfl (Nat.le_of_ble_eq_true rfl) ⟨Nat.le_of_ble_eq_true rfl, Nat.le_of_ble_eq_true rfl⟩ ⟨Nat.le_of_ble_eq_true rfl, Nat.le_of_ble_eq_true rfl⟩ dX5_repeat_26 hD hS hA (fun en1 H locs hp1 hP hS => ?_)
          obtain ⟨F9, hF9, hM, ho2⟩ := hp1
          have hM : MW cA ad en1 (mO M.built M.builtMany M.told M.toldMany F9 (r_t1.1 : Int) M.figures M.partText M.partFrom M.partMany M.parts M.cut M.cutMany M.isCut M.cutGives M.cutAt M.h) := hM
          have ho := ho.tr ho2
          refine lv_aload_n hx hb dX5_repeat_29 rfl (lv_at hl 1 rfl) ?_
          refine x_get (T := TX5) (N := 17) hx hb hts uX5 hown hK hP (i := 53) (by omega) (show en1 53 = .inr (5, [.ref (ad 54), .ref (ad 55), .ref (ad 56), .ref (ad 57), .ref (ad 58), .int (xI (r_t1.1 : Int)), .ref (ad 59), .ref (ad 60), .ref (ad 61), .ref (ad 62), .int (xI M.parts), .ref (ad 63), .ref (ad 64), .ref (ad 65), .ref (ad 66), .ref (ad 67), .long M.h]) from hM.1) rfl 5 (by decide) u_fl_RX5_62 rfl dX5_repeat_30 ?_
          refine lv_istore (lv' := [(5, .int (xI (r_t1.1 : Int))), (4, .int (xI 0)), (0, .ref (ad 53)), (1, .int (xI (t1 : Int))), (2, .int (xI (Z : Int))), (3, .int (xI (t3 : Int)))]) hx hb dX5_repeat_33 hl (by decide) rfl (fun ls hl => ?_)
          refine lv_iload_n hx hb dX5_repeat_35 rfl (lv_at hl 4 rfl) ?_
          refine x_i2l hx hb dX5_repeat_36 (by omega) ?_
          refine lv_iload hx hb dX5_repeat_37 (lv_at hl 0 rfl) ?_
          refine x_i2l hx hb dX5_repeat_39 (by omega) ?_
          refine x_lmul hx hb dX5_repeat_40 ?_
          refine x_ldc2 hx hb hown (hts _ u_ko_RX5_134) (k := 200) (by decide +kernel) dX5_repeat_41 ?_
          refine x_lcmp hx hb dX5_repeat_44 (by omega) ?_
          refine x_if_le (tgt := 52) hx hb dX5_repeat_45 (by decide) (xcmp_r _ _) (fun c_45 => ?_) (fun c_45 => ?_)
          · have c_45 := xcmp_le.mp c_45
            refine lv_aload_n hx hb dX5_repeat_52 rfl (lv_at hl 2 rfl) ?_
            refine lv_iload_n hx hb dX5_repeat_53 rfl (lv_at hl 4 rfl) ?_
            refine lv_iload hx hb dX5_repeat_54 (lv_at hl 0 rfl) ?_
            refine x_imul hx hb dX5_repeat_56 ?_
            refine x_to (((Z * r_t1.1 : Nat) : Int)) (hZ9) ?_
            refine x_put (T := TX5) (N := 17) (ty := .int) hx hb hts uX5 tyX5 tyX5_ok nmX5 hown hK hP hD hS (i := 53) (by omega) (show en1 53 = .inr (5, [.ref (ad 54), .ref (ad 55), .ref (ad 56), .ref (ad 57), .ref (ad 58), .int (xI (r_t1.1 : Int)), .ref (ad 59), .ref (ad 60), .ref (ad 61), .ref (ad 62), .int (xI M.parts), .ref (ad 63), .ref (ad 64), .ref (ad 65), .ref (ad 66), .ref (ad 67), .long M.h]) from hM.1) rfl 5 (by decide) u_fl_RX5_62 rfl (by decide +kernel) rfl rfl (by show 5 < 17; decide) dX5_repeat_57 (fun H locs hP hS => ?_)
            obtain ⟨en2, he2⟩ : ∃ z, z = va_up en1 53 (.inr (5, [.ref (ad 54), .ref (ad 55), .ref (ad 56), .ref (ad 57), .ref (ad 58), .int (xI ((Z * r_t1.1 : Nat) : Int)), .ref (ad 59), .ref (ad 60), .ref (ad 61), .ref (ad 62), .int (xI M.parts), .ref (ad 63), .ref (ad 64), .ref (ad 65), .ref (ad 66), .ref (ad 67), .long M.h])) := ⟨_, rfl⟩
            have hP : va_P D vwCl (xw n ad en2) H := by rw [he2]; exact hP
            have hM : MW cA ad en2 (mO M.built M.builtMany M.told M.toldMany F9 ((Z * r_t1.1 : Nat) : Int) M.figures M.partText M.partFrom M.partMany M.parts M.cut M.cutMany M.isCut M.cutGives M.cutAt M.h) := by rw [he2]; exact hM.s_rowMany ((Z * r_t1.1 : Nat) : Int)
            have ho : xO 53 68 en en2 := by rw [he2]; exact ho.up (by omega) (by omega)
            refine lv_iload hx hb dX5_repeat_60 (lv_at hl 0 rfl) ?_
            refine lv_istore (lv' := [(6, .int (xI (r_t1.1 : Int))), (5, .int (xI (r_t1.1 : Int))), (4, .int (xI 0)), (0, .ref (ad 53)), (1, .int (xI (t1 : Int))), (2, .int (xI (Z : Int))), (3, .int (xI (t3 : Int)))]) hx hb dX5_repeat_62 hl (by decide) rfl (fun ls hl => ?_)
            have L64 : ∀ (nn : Nat) (K : Nat) (F : Nat → Int) (ew64 : Nat → va_E) (H : Heap) (locs : List Loc), (r_t1.1 ≤ K ∧ (K ≤ Z * r_t1.1 ∨ K = r_t1.1)) → (∀ k : Nat, k < K → F k = r_t1.2 (k % r_t1.1)) → (Z * r_t1.1 - K) < nn → (MW cA ad ew64 (mO M.built M.builtMany M.told M.toldMany F ((Z * r_t1.1 : Nat) : Int) M.figures M.partText M.partFrom M.partMany M.parts M.cut M.cutMany M.isCut M.cutGives M.cutAt M.h)) → (xO 53 68 en ew64) → va_P D vwCl (xw n ad ew64) H → va_S (xA n ad sz) s.heap H locs → ∀ ls : Array Slot, lv_has ls 7 [(0, .ref (ad 53)), (1, .int (xI (t1 : Int))), (2, .int (xI (Z : Int))), (3, .int (xI (t3 : Int))), (5, .int (xI (r_t1.1 : Int))), (6, .int (xI (K : Int)))] → W p l e (xrm 3 67) s mm args below meth c H locs 0 0 (MQ below (va_Qi (fun r u => r = xI (am_repeat S (t1 : Int) z2 (t3 : Int)).1 ∧ ∃ M' : MO, MW cA ad u M' ∧ MR (am_repeat S (t1 : Int) z2 (t3 : Int)).2 M' ∧ xO 53 68 en u) (xE D n ad) (xA n ad sz)) args s 0 0 (xA n ad sz)) (F0 mm 64 ls []) := by
              intro nn
              induction nn with
              | zero =>
                intro K F ew64 H locs hk8 hF hmm hM ho hP hS ls hl
                exact absurd hmm (Nat.not_lt_zero _)
              | succ nn ih =>
                intro K F ew64 H locs hk8 hF hmm hM ho hP hS ls hl
                refine lv_iload hx hb dX5_repeat_64 (lv_at hl 5 rfl) ?_
                refine lv_aload_n hx hb dX5_repeat_66 rfl (lv_at hl 0 rfl) ?_
                refine x_get (T := TX5) (N := 17) hx hb hts uX5 hown hK hP (i := 53) (by omega) (show ew64 53 = .inr (5, [.ref (ad 54), .ref (ad 55), .ref (ad 56), .ref (ad 57), .ref (ad 58), .int (xI ((Z * r_t1.1 : Nat) : Int)), .ref (ad 59), .ref (ad 60), .ref (ad 61), .ref (ad 62), .int (xI M.parts), .ref (ad 63), .ref (ad 64), .ref (ad 65), .ref (ad 66), .ref (ad 67), .long M.h]) from hM.1) rfl 5 (by decide) u_fl_RX5_62 rfl dX5_repeat_67 ?_
                refine x_icmp_ge (tgt := 96) hx hb dX5_repeat_70 (by decide) (by omega) (fun c_70 => ?_) (fun c_70 => ?_)
                · refine lv_aload_n hx hb dX5_repeat_96 rfl (lv_at hl 0 rfl) ?_
                  refine lv_iload_n hx hb dX5_repeat_97 rfl (lv_at hl 3 rfl) ?_
                  refine xm_i (i := 53) (As := [.int (xI (t3 : Int))]) (rest := []) ⟨hx, hb, hml, hown, hts⟩ hl.1 (c_X5_become l D cA n ad ew64 _ hn hM t3 h_t3 (Z * r_t1.1) (show ((Z * r_t1.1 : Nat) : Int) = (((Z * r_t1.1) : Nat) : Int) from by omega) (by omega)) k_X5_become u_ml_RX5_118 hK hN hP (by omega) (show ew64 53 = .inr (5, [.ref (ad 54), .ref (ad 55), .ref (ad 56), .ref (ad 57), .ref (ad 58), .int (xI ((Z * r_t1.1 : Nat) : Int)), .ref (ad 59), .ref (ad 60), .ref (ad 61), .ref (ad 62), .int (xI M.parts), .ref (ad 63), .ref (ad 64), .ref (ad 65), .ref (ad 66), .ref (ad 67), .long M.h]) from hM.1) rfl rfl rfl rfl (Nat.le_of_ble_eq_true rfl) ⟨Nat.le_of_ble_eq_true rfl, Nat.le_of_ble_eq_true rfl⟩ ⟨Nat.le_of_ble_eq_true rfl, Nat.le_of_ble_eq_true rfl⟩ dX5_repeat_98 hD hS hA (fun r3 en3 H locs hp3 hP hS => ?_)
                  obtain ⟨hrv, T9, hT9, hU9, hM, ho2⟩ := hp3
                  have hrv : r3 = xI ((Z * r_t1.1 : Nat) : Int) := hrv
                  subst hrv
                  have hM : MW cA ad en3 (mO M.built M.builtMany T9 (sp_up M.toldMany t3 ((Z * r_t1.1 : Nat) : Int)) F ((Z * r_t1.1 : Nat) : Int) M.figures M.partText M.partFrom M.partMany M.parts M.cut M.cutMany M.isCut M.cutGives M.cutAt M.h) := hM
                  have ho := ho.tr ho2
                  have hT9 : ∀ k : Nat, k < (Z * r_t1.1) → T9 (200 * t3 + k) = F k := hT9
                  have hU9 : ∀ j : Nat, j < 200 * t3 ∨ 200 * t3 + 200 ≤ j → T9 j = M.told j := hU9
                  exact xe_i hx hb hrt hlocks hP hS ((by unfold am_repeat; simp only [Int.toNat_natCast]; simp only [sp_get_s hS_t1]; rw [sp_if_f (by omega), sp_if_f (by simp [hS_t1]), sp_if_f (by omega), sp_if_f (by omega)]; (try rw [show Int.toNat z2 = Z by omega]); have q9 := hR.text hW h_t3 (o := some ((Int.toNat (z2 * (r_t1.1 : Int)), fun q => r_t1.2 (q % r_t1.1)) : xRow)) (T' := T9) (z := ((Z * r_t1.1 : Nat) : Int)) ⟨by first | rfl | omega | (dsimp only; omega), fun k hk => (hT9 k (by first | exact hk | (dsimp only at hk; omega))).trans ((fun k hk => hF k (by omega)) k (by first | exact hk | (dsimp only at hk; omega)))⟩ hU9; exact ⟨congrArg xI (by omega), _, hM, q9, ho⟩)) dX5_repeat_101
                · have hr0 : 0 < r_t1.1 := Nat.pos_of_ne_zero (fun h => by rw [h, Nat.mul_zero] at c_70; omega)
                  refine lv_aload_n hx hb dX5_repeat_73 rfl (lv_at hl 0 rfl) ?_
                  refine x_get (T := TX5) (N := 17) hx hb hts uX5 hown hK hP (i := 53) (by omega) (show ew64 53 = .inr (5, [.ref (ad 54), .ref (ad 55), .ref (ad 56), .ref (ad 57), .ref (ad 58), .int (xI ((Z * r_t1.1 : Nat) : Int)), .ref (ad 59), .ref (ad 60), .ref (ad 61), .ref (ad 62), .int (xI M.parts), .ref (ad 63), .ref (ad 64), .ref (ad 65), .ref (ad 66), .ref (ad 67), .long M.h]) from hM.1) rfl 4 (by decide) u_fl_RX5_22 rfl dX5_repeat_74 ?_
                  refine lv_iload hx hb dX5_repeat_77 (lv_at hl 5 rfl) ?_
                  refine lv_aload_n hx hb dX5_repeat_79 rfl (lv_at hl 0 rfl) ?_
                  refine x_get (T := TX5) (N := 17) hx hb hts uX5 hown hK hP (i := 53) (by omega) (show ew64 53 = .inr (5, [.ref (ad 54), .ref (ad 55), .ref (ad 56), .ref (ad 57), .ref (ad 58), .int (xI ((Z * r_t1.1 : Nat) : Int)), .ref (ad 59), .ref (ad 60), .ref (ad 61), .ref (ad 62), .int (xI M.parts), .ref (ad 63), .ref (ad 64), .ref (ad 65), .ref (ad 66), .ref (ad 67), .long M.h]) from hM.1) rfl 4 (by decide) u_fl_RX5_22 rfl dX5_repeat_80 ?_
                  refine lv_iload hx hb dX5_repeat_83 (lv_at hl 5 rfl) ?_
                  refine lv_iload hx hb dX5_repeat_85 (lv_at hl 4 rfl) ?_
                  refine x_isub hx hb dX5_repeat_87 ?_
                  refine x_ild hx hb hK hP (i := 58) (by omega) hM.2.2.2.2.2.1 (x := F (Int.toNat ((K : Int) - (r_t1.1 : Int)))) (by omega) (rfl) dX5_repeat_88 ?_
                  refine x_to (r_t1.2 (K % r_t1.1)) (by rw [show Int.toNat ((K : Int) - (r_t1.1 : Int)) = K - r_t1.1 by omega, hF _ (by omega)]; exact congrArg r_t1.2 (Nat.mod_eq_sub_mod (by omega)).symm) ?_
                  refine x_ist hx hb hK hP hD hS (i := 58) (by omega) hM.2.2.2.2.2.1 (by omega) dX5_repeat_89 (fun H locs hP hS => ?_)
                  obtain ⟨en4, he4⟩ : ∃ z, z = va_up ew64 58 (.inl (cA 0, 220, .inl (upd (fun k => xI (F k)) K (xI (r_t1.2 (K % r_t1.1)))))) := ⟨_, rfl⟩
                  have hP : va_P D vwCl (xw n ad en4) H := by rw [he4]; exact hP
                  have hM : MW cA ad en4 (mO M.built M.builtMany M.told M.toldMany (sp_up F K (r_t1.2 (K % r_t1.1))) ((Z * r_t1.1 : Nat) : Int) M.figures M.partText M.partFrom M.partMany M.parts M.cut M.cutMany M.isCut M.cutGives M.cutAt M.h) := by rw [he4]; exact hM.u_row K (r_t1.2 (K % r_t1.1))
                  have ho : xO 53 68 en en4 := by rw [he4]; exact ho.up (by omega) (by omega)
                  refine x_iinc (lv' := [(6, .int (xI ((K : Int) + 1))), (0, .ref (ad 53)), (1, .int (xI (t1 : Int))), (2, .int (xI (Z : Int))), (3, .int (xI (t3 : Int))), (5, .int (xI (r_t1.1 : Int)))]) (k := 5) hx hb dX5_repeat_90 hl rfl (by decide) rfl (fun ls hl => ?_)
                  refine lv_goto (tgt := 64) hx hb dX5_repeat_93 (by decide) ?_
                  exact ih (K + 1) _ en4 _ _ (by omega) (fun k hk => by
      by_cases q : k = K
      · rw [q, sp_up_s]
      · rw [sp_up_n _ _ (by omega)]; exact hF k (by omega)) (by omega) hM ho hP hS ls (lv_sub hl [1, 2, 3, 4, 5, 0] rfl)
            exact L64 _ r_t1.1 F9 en2 _ _ (by omega) (fun k hk => by rw [Nat.mod_eq_of_lt hk]; exact hF9 k hk) (Nat.lt_succ_self _) hM ho hP hS ls (lv_sub hl [3, 4, 5, 6, 1, 0] rfl)
          · have c_45 := xcmp_gt.mp c_45
            refine x_sipush hx hb dX5_repeat_48 (by decide +kernel) ?_
            exact xe_i hx hb hrt hlocks hP hS ((by unfold am_repeat; simp only [Int.toNat_natCast]; simp only [sp_get_s hS_t1]; rw [sp_if_f (by omega), sp_if_f (by simp [hS_t1]), sp_if_f (by omega), sp_if_t (by omega)]; (try rw [show Int.toNat z2 = Z by omega]); exact ⟨rfl, _, hM, hR, ho⟩)) dX5_repeat_51
        · refine x_sipush hx hb dX5_repeat_20 (by decide +kernel) ?_
          exact xe_i hx hb hrt hlocks hP hS ((by unfold am_repeat; simp only [Int.toNat_natCast]; simp only [sp_get_s hS_t1]; rw [sp_if_f (by omega), sp_if_f (by simp [hS_t1]), sp_if_t (by omega)]; exact ⟨rfl, _, hM, hR, ho⟩)) dX5_repeat_23
      · have hT_t1 : M.toldMany t1 = (r_t1.1 : Int) ∧ ∀ k : Nat, k < r_t1.1 → M.told (200 * t1 + k) = r_t1.2 k := by have q := hR.2.1 t1 h_t1; rw [hS_t1] at q; exact q
        have hz_t1 := hT_t1.1
        have hm_t1 := (hW.2.1 t1 r_t1 h_t1 hS_t1).1
        have hfb_t1 := (hW.2.1 t1 r_t1 h_t1 hS_t1).2
        refine lv_aload_n hx hb dX5_repeat_0 rfl (lv_at hl 0 rfl) ?_
        refine lv_iload_n hx hb dX5_repeat_1 rfl (lv_at hl 1 rfl) ?_
        refine lv_iload_n hx hb dX5_repeat_2 rfl (lv_at hl 3 rfl) ?_
        have hy_t1 : M.toldMany (Int.toNat (t1 : Int)) = (r_t1.1 : Int) := hz_t1
        refine xv_i (i := 53) (As := [.int (xI (t1 : Int)), .int (xI z3)]) (rest := []) ⟨hx, hb, hml, hown, hts⟩ hl.1 (c_X5_barsOne l D cA n ad en hn hM (t1 : Int) z3 (-1001) (by omega) (by omega) (fun _ => by show -1 ≤ M.toldMany t1 ∧ M.toldMany t1 ≤ 200; omega) (by omega)) k_X5_barsOne u_ml_RX5_131 hK hN hP (by omega) hM.1 rfl rfl rfl rfl (Nat.le_of_ble_eq_true rfl) ⟨Nat.le_of_ble_eq_true rfl, Nat.le_of_ble_eq_true rfl⟩ ⟨Nat.le_of_ble_eq_true rfl, Nat.le_of_ble_eq_true rfl⟩ dX5_repeat_3 ?_
        refine lv_istore (lv' := [(4, .int (xI (-1001))), (0, .ref (ad 53)), (1, .int (xI (t1 : Int))), (2, .int (xI z2)), (3, .int (xI z3))]) hx hb dX5_repeat_6 hl (by decide) rfl (fun ls hl => ?_)
        refine lv_iload hx hb dX5_repeat_8 (lv_at hl 0 rfl) ?_
        refine x_if_ge (tgt := 16) hx hb dX5_repeat_10 (by decide) (by omega) (fun c_10 => absurd c_10 (by omega)) (fun c_10 => ?_)
        refine lv_iload hx hb dX5_repeat_13 (lv_at hl 0 rfl) ?_
        exact xe_i hx hb hrt hlocks hP hS ((by unfold am_repeat; simp only [Int.toNat_natCast]; simp only [sp_get_s hS_t1]; rw [sp_if_t (by omega)]; exact ⟨rfl, _, hM, hR, ho⟩)) dX5_repeat_15
  · rcases Classical.em (0 ≤ z3 ∧ z3 < 8) with hx_z3 | hx_z3
    · obtain ⟨t3, rfl⟩ : ∃ q : Nat, z3 = (q : Int) := ⟨z3.toNat, by omega⟩
      have h_t3 : t3 < 8 := by omega
      refine lv_aload_n hx hb dX5_repeat_0 rfl (lv_at hl 0 rfl) ?_
      refine lv_iload_n hx hb dX5_repeat_1 rfl (lv_at hl 1 rfl) ?_
      refine lv_iload_n hx hb dX5_repeat_2 rfl (lv_at hl 3 rfl) ?_
      refine xv_i (i := 53) (As := [.int (xI z1), .int (xI (t3 : Int))]) (rest := []) ⟨hx, hb, hml, hown, hts⟩ hl.1 (c_X5_barsOne l D cA n ad en hn hM z1 (t3 : Int) (-1001) (by omega) (by omega) (fun h => absurd h (by omega)) (by omega)) k_X5_barsOne u_ml_RX5_131 hK hN hP (by omega) hM.1 rfl rfl rfl rfl (Nat.le_of_ble_eq_true rfl) ⟨Nat.le_of_ble_eq_true rfl, Nat.le_of_ble_eq_true rfl⟩ ⟨Nat.le_of_ble_eq_true rfl, Nat.le_of_ble_eq_true rfl⟩ dX5_repeat_3 ?_
      refine lv_istore (lv' := [(4, .int (xI (-1001))), (0, .ref (ad 53)), (1, .int (xI z1)), (2, .int (xI z2)), (3, .int (xI (t3 : Int)))]) hx hb dX5_repeat_6 hl (by decide) rfl (fun ls hl => ?_)
      refine lv_iload hx hb dX5_repeat_8 (lv_at hl 0 rfl) ?_
      refine x_if_ge (tgt := 16) hx hb dX5_repeat_10 (by decide) (by omega) (fun c_10 => absurd c_10 (by omega)) (fun c_10 => ?_)
      refine lv_iload hx hb dX5_repeat_13 (lv_at hl 0 rfl) ?_
      exact xe_i hx hb hrt hlocks hP hS ((by unfold am_repeat; simp only [Int.toNat_natCast]; rw [sp_if_t (by omega)]; exact ⟨rfl, _, hM, hR, ho⟩)) dX5_repeat_15
    · refine lv_aload_n hx hb dX5_repeat_0 rfl (lv_at hl 0 rfl) ?_
      refine lv_iload_n hx hb dX5_repeat_1 rfl (lv_at hl 1 rfl) ?_
      refine lv_iload_n hx hb dX5_repeat_2 rfl (lv_at hl 3 rfl) ?_
      refine xv_i (i := 53) (As := [.int (xI z1), .int (xI z3)]) (rest := []) ⟨hx, hb, hml, hown, hts⟩ hl.1 (c_X5_barsOne l D cA n ad en hn hM z1 z3 (-1001) (by omega) (by omega) (fun h => absurd h (by omega)) (by omega)) k_X5_barsOne u_ml_RX5_131 hK hN hP (by omega) hM.1 rfl rfl rfl rfl (Nat.le_of_ble_eq_true rfl) ⟨Nat.le_of_ble_eq_true rfl, Nat.le_of_ble_eq_true rfl⟩ ⟨Nat.le_of_ble_eq_true rfl, Nat.le_of_ble_eq_true rfl⟩ dX5_repeat_3 ?_
      refine lv_istore (lv' := [(4, .int (xI (-1001))), (0, .ref (ad 53)), (1, .int (xI z1)), (2, .int (xI z2)), (3, .int (xI z3))]) hx hb dX5_repeat_6 hl (by decide) rfl (fun ls hl => ?_)
      refine lv_iload hx hb dX5_repeat_8 (lv_at hl 0 rfl) ?_
      refine x_if_ge (tgt := 16) hx hb dX5_repeat_10 (by decide) (by omega) (fun c_10 => absurd c_10 (by omega)) (fun c_10 => ?_)
      refine lv_iload hx hb dX5_repeat_13 (lv_at hl 0 rfl) ?_
      exact xe_i hx hb hrt hlocks hP hS ((by unfold am_repeat; rw [sp_if_t (by omega)]; exact ⟨rfl, _, hM, hR, ho⟩)) dX5_repeat_15

set_option maxRecDepth 20000 in
theorem c_X5_join (l : Launch) (D : va_G) (cA : Nat → ClassId) (n : Nat) (ad : Nat → Nat) (en : Nat → va_E) (sz : Nat) (hn : 68 ≤ n) {M : MO} (hM : MW cA ad en M) {S : xSt} (hW : WF S) (hR : MR S M) (z1 : Int) (hz1 : -2147483648 ≤ z1 ∧ z1 ≤ 2147483647) (z2 : Int) (hz2 : -2147483648 ≤ z2 ∧ z2 ≤ 2147483647) (z3 : Int) (hz3 : -2147483648 ≤ z3 ∧ z3 ≤ 2147483647) : Met l yX5_join (Cond.code yX5_join cX5_join 5 (some .int) :: xU) (xrm 2 45) (va_Pc [.ref (ad 53), .int (xI z1), .int (xI z2), .int (xI z3)] (xM D cA n ad en sz)) (va_Qi (fun r u => r = xI (am_join S z1 z2 z3).1 ∧ ∃ M' : MO, MW cA ad u M' ∧ MR (am_join S z1 z2 z3).2 M' ∧ xO 53 68 en u) (xE D n ad) (xA n ad sz)) 0 0 (xA n ad sz) := by
  refine xmet (by decide) (Nat.le_of_ble_eq_true rfl) (fun p e s mm args below meth c ls hx hb hrt hml hown hts hlocks hname hB hl => ?_)
  obtain ⟨⟨hP, hK, hN⟩, hsz, hDt⟩ := hB
  have hD : xD (xA n ad sz) n ad := xD_self hDt sz
  have hA : ∀ q : Nat, s.heap.size ≤ q → xA n ad sz q := fun q h => Or.inr (by rw [← hsz]; exact h)
  have hS : va_S (xA n ad sz) s.heap s.heap [] := va_S.rf
  have hown : s.vm.findClass RX5 = some mm.cls := hown
  have hl : lv_has ls 5 [(0, .ref (ad 53)), (1, .int (xI z1)), (2, .int (xI z2)), (3, .int (xI z3))] := hl
  have ho : xO 53 68 en en := xO.rf
  rcases Classical.em (0 ≤ z1 ∧ z1 < 8) with hx_z1 | hx_z1
  · obtain ⟨t1, rfl⟩ : ∃ q : Nat, z1 = (q : Int) := ⟨z1.toNat, by omega⟩
    have h_t1 : t1 < 8 := by omega
    rcases hS_t1 : S.2.1 t1 with _ | r_t1
    · rcases Classical.em (0 ≤ z2 ∧ z2 < 8) with hx_z2 | hx_z2
      · obtain ⟨t2, rfl⟩ : ∃ q : Nat, z2 = (q : Int) := ⟨z2.toNat, by omega⟩
        have h_t2 : t2 < 8 := by omega
        rcases hS_t2 : S.2.1 t2 with _ | r_t2
        · rcases Classical.em (0 ≤ z3 ∧ z3 < 8) with hx_z3 | hx_z3
          · obtain ⟨t3, rfl⟩ : ∃ q : Nat, z3 = (q : Int) := ⟨z3.toNat, by omega⟩
            have h_t3 : t3 < 8 := by omega
            have hz_t1 : M.toldMany t1 = -1 := by have q := hR.2.1 t1 h_t1; rw [hS_t1] at q; exact q
            have hz_t2 : M.toldMany t2 = -1 := by have q := hR.2.1 t2 h_t2; rw [hS_t2] at q; exact q
            refine lv_iload_n hx hb dX5_join_0 rfl (lv_at hl 1 rfl) ?_
            refine xt_i (As := [.int (xI (t1 : Int))]) (rest := []) ⟨hx, hb, hml, hown, hts⟩ hl.1 (c_X5_isText l (t1 : Int) (by omega)) k_X5_isText u_ml_RX5_87 rfl rfl (Nat.le_of_ble_eq_true rfl) ⟨Nat.le_of_ble_eq_true rfl, Nat.le_of_ble_eq_true rfl⟩ ⟨Nat.le_of_ble_eq_true rfl, Nat.le_of_ble_eq_true rfl⟩ dX5_join_1 ?_
            refine x_top (q1 := True) ⟨fun _ => trivial, fun _ => by omega⟩ ?_
            refine x_ifb_eq (tgt := 21) hx hb dX5_join_4 (by decide)  (fun c_4 => absurd trivial c_4) (fun c_4 => ?_)
            refine lv_iload_n hx hb dX5_join_7 rfl (lv_at hl 2 rfl) ?_
            refine xt_i (As := [.int (xI (t2 : Int))]) (rest := []) ⟨hx, hb, hml, hown, hts⟩ hl.1 (c_X5_isText l (t2 : Int) (by omega)) k_X5_isText u_ml_RX5_87 rfl rfl (Nat.le_of_ble_eq_true rfl) ⟨Nat.le_of_ble_eq_true rfl, Nat.le_of_ble_eq_true rfl⟩ ⟨Nat.le_of_ble_eq_true rfl, Nat.le_of_ble_eq_true rfl⟩ dX5_join_8 ?_
            refine x_top (q1 := True) ⟨fun _ => trivial, fun _ => by omega⟩ ?_
            refine x_ifb_eq (tgt := 21) hx hb dX5_join_11 (by decide)  (fun c_11 => absurd trivial c_11) (fun c_11 => ?_)
            refine lv_iload_n hx hb dX5_join_14 rfl (lv_at hl 3 rfl) ?_
            refine xt_i (As := [.int (xI (t3 : Int))]) (rest := []) ⟨hx, hb, hml, hown, hts⟩ hl.1 (c_X5_isText l (t3 : Int) (by omega)) k_X5_isText u_ml_RX5_87 rfl rfl (Nat.le_of_ble_eq_true rfl) ⟨Nat.le_of_ble_eq_true rfl, Nat.le_of_ble_eq_true rfl⟩ ⟨Nat.le_of_ble_eq_true rfl, Nat.le_of_ble_eq_true rfl⟩ dX5_join_15 ?_
            refine x_top (q1 := True) ⟨fun _ => trivial, fun _ => by omega⟩ ?_
            refine x_ifb_ne (tgt := 25) hx hb dX5_join_18 (by decide)  (fun c_18 => ?_) (fun c_18 => absurd trivial c_18)
            refine lv_aload_n hx hb dX5_join_25 rfl (lv_at hl 0 rfl) ?_
            refine x_get (T := TX5) (N := 17) hx hb hts uX5 hown hK hP (i := 53) (by omega) hM.1 rfl 3 (by decide) u_fl_RX5_19 rfl dX5_join_26 ?_
            refine lv_iload_n hx hb dX5_join_29 rfl (lv_at hl 1 rfl) ?_
            refine x_ild hx hb hK hP (i := 57) (by omega) hM.2.2.2.2.1 (x := -1) (by omega) (congrArg xI hz_t1) dX5_join_30 ?_
            refine x_if_lt (tgt := 43) hx hb dX5_join_31 (by decide) (by omega) (fun c_31 => ?_) (fun c_31 => absurd c_31 (by omega))
            refine x_sipush hx hb dX5_join_43 (by decide +kernel) ?_
            exact xe_i hx hb hrt hlocks hP hS ((by unfold am_join; simp only [Int.toNat_natCast]; rw [sp_if_f (by omega), sp_if_t (by simp [hS_t1, hS_t2])]; exact ⟨rfl, _, hM, hR, ho⟩)) dX5_join_46
          · have hz_t1 : M.toldMany t1 = -1 := by have q := hR.2.1 t1 h_t1; rw [hS_t1] at q; exact q
            have hz_t2 : M.toldMany t2 = -1 := by have q := hR.2.1 t2 h_t2; rw [hS_t2] at q; exact q
            refine lv_iload_n hx hb dX5_join_0 rfl (lv_at hl 1 rfl) ?_
            refine xt_i (As := [.int (xI (t1 : Int))]) (rest := []) ⟨hx, hb, hml, hown, hts⟩ hl.1 (c_X5_isText l (t1 : Int) (by omega)) k_X5_isText u_ml_RX5_87 rfl rfl (Nat.le_of_ble_eq_true rfl) ⟨Nat.le_of_ble_eq_true rfl, Nat.le_of_ble_eq_true rfl⟩ ⟨Nat.le_of_ble_eq_true rfl, Nat.le_of_ble_eq_true rfl⟩ dX5_join_1 ?_
            refine x_top (q1 := True) ⟨fun _ => trivial, fun _ => by omega⟩ ?_
            refine x_ifb_eq (tgt := 21) hx hb dX5_join_4 (by decide)  (fun c_4 => absurd trivial c_4) (fun c_4 => ?_)
            refine lv_iload_n hx hb dX5_join_7 rfl (lv_at hl 2 rfl) ?_
            refine xt_i (As := [.int (xI (t2 : Int))]) (rest := []) ⟨hx, hb, hml, hown, hts⟩ hl.1 (c_X5_isText l (t2 : Int) (by omega)) k_X5_isText u_ml_RX5_87 rfl rfl (Nat.le_of_ble_eq_true rfl) ⟨Nat.le_of_ble_eq_true rfl, Nat.le_of_ble_eq_true rfl⟩ ⟨Nat.le_of_ble_eq_true rfl, Nat.le_of_ble_eq_true rfl⟩ dX5_join_8 ?_
            refine x_top (q1 := True) ⟨fun _ => trivial, fun _ => by omega⟩ ?_
            refine x_ifb_eq (tgt := 21) hx hb dX5_join_11 (by decide)  (fun c_11 => absurd trivial c_11) (fun c_11 => ?_)
            refine lv_iload_n hx hb dX5_join_14 rfl (lv_at hl 3 rfl) ?_
            refine xt_i (As := [.int (xI z3)]) (rest := []) ⟨hx, hb, hml, hown, hts⟩ hl.1 (c_X5_isText l z3 (by omega)) k_X5_isText u_ml_RX5_87 rfl rfl (Nat.le_of_ble_eq_true rfl) ⟨Nat.le_of_ble_eq_true rfl, Nat.le_of_ble_eq_true rfl⟩ ⟨Nat.le_of_ble_eq_true rfl, Nat.le_of_ble_eq_true rfl⟩ dX5_join_15 ?_
            refine x_top (q1 := False) ⟨fun h => absurd h (by omega), False.elim⟩ ?_
            refine x_ifb_ne (tgt := 25) hx hb dX5_join_18 (by decide)  (fun c_18 => absurd c_18 id) (fun c_18 => ?_)
            refine x_sipush hx hb dX5_join_21 (by decide +kernel) ?_
            exact xe_i hx hb hrt hlocks hP hS ((by unfold am_join; simp only [Int.toNat_natCast]; rw [sp_if_t (by omega)]; exact ⟨rfl, _, hM, hR, ho⟩)) dX5_join_24
        · rcases Classical.em (0 ≤ z3 ∧ z3 < 8) with hx_z3 | hx_z3
          · obtain ⟨t3, rfl⟩ : ∃ q : Nat, z3 = (q : Int) := ⟨z3.toNat, by omega⟩
            have h_t3 : t3 < 8 := by omega
            have hz_t1 : M.toldMany t1 = -1 := by have q := hR.2.1 t1 h_t1; rw [hS_t1] at q; exact q
            have hT_t2 : M.toldMany t2 = (r_t2.1 : Int) ∧ ∀ k : Nat, k < r_t2.1 → M.told (200 * t2 + k) = r_t2.2 k := by have q := hR.2.1 t2 h_t2; rw [hS_t2] at q; exact q
            have hz_t2 := hT_t2.1
            have hm_t2 := (hW.2.1 t2 r_t2 h_t2 hS_t2).1
            have hfb_t2 := (hW.2.1 t2 r_t2 h_t2 hS_t2).2
            refine lv_iload_n hx hb dX5_join_0 rfl (lv_at hl 1 rfl) ?_
            refine xt_i (As := [.int (xI (t1 : Int))]) (rest := []) ⟨hx, hb, hml, hown, hts⟩ hl.1 (c_X5_isText l (t1 : Int) (by omega)) k_X5_isText u_ml_RX5_87 rfl rfl (Nat.le_of_ble_eq_true rfl) ⟨Nat.le_of_ble_eq_true rfl, Nat.le_of_ble_eq_true rfl⟩ ⟨Nat.le_of_ble_eq_true rfl, Nat.le_of_ble_eq_true rfl⟩ dX5_join_1 ?_
            refine x_top (q1 := True) ⟨fun _ => trivial, fun _ => by omega⟩ ?_
            refine x_ifb_eq (tgt := 21) hx hb dX5_join_4 (by decide)  (fun c_4 => absurd trivial c_4) (fun c_4 => ?_)
            refine lv_iload_n hx hb dX5_join_7 rfl (lv_at hl 2 rfl) ?_
            refine xt_i (As := [.int (xI (t2 : Int))]) (rest := []) ⟨hx, hb, hml, hown, hts⟩ hl.1 (c_X5_isText l (t2 : Int) (by omega)) k_X5_isText u_ml_RX5_87 rfl rfl (Nat.le_of_ble_eq_true rfl) ⟨Nat.le_of_ble_eq_true rfl, Nat.le_of_ble_eq_true rfl⟩ ⟨Nat.le_of_ble_eq_true rfl, Nat.le_of_ble_eq_true rfl⟩ dX5_join_8 ?_
            refine x_top (q1 := True) ⟨fun _ => trivial, fun _ => by omega⟩ ?_
            refine x_ifb_eq (tgt := 21) hx hb dX5_join_11 (by decide)  (fun c_11 => absurd trivial c_11) (fun c_11 => ?_)
            refine lv_iload_n hx hb dX5_join_14 rfl (lv_at hl 3 rfl) ?_
            refine xt_i (As := [.int (xI (t3 : Int))]) (rest := []) ⟨hx, hb, hml, hown, hts⟩ hl.1 (c_X5_isText l (t3 : Int) (by omega)) k_X5_isText u_ml_RX5_87 rfl rfl (Nat.le_of_ble_eq_true rfl) ⟨Nat.le_of_ble_eq_true rfl, Nat.le_of_ble_eq_true rfl⟩ ⟨Nat.le_of_ble_eq_true rfl, Nat.le_of_ble_eq_true rfl⟩ dX5_join_15 ?_
            refine x_top (q1 := True) ⟨fun _ => trivial, fun _ => by omega⟩ ?_
            refine x_ifb_ne (tgt := 25) hx hb dX5_join_18 (by decide)  (fun c_18 => ?_) (fun c_18 => absurd trivial c_18)
            refine lv_aload_n hx hb dX5_join_25 rfl (lv_at hl 0 rfl) ?_
            refine x_get (T := TX5) (N := 17) hx hb hts uX5 hown hK hP (i := 53) (by omega) hM.1 rfl 3 (by decide) u_fl_RX5_19 rfl dX5_join_26 ?_
            refine lv_iload_n hx hb dX5_join_29 rfl (lv_at hl 1 rfl) ?_
            refine x_ild hx hb hK hP (i := 57) (by omega) hM.2.2.2.2.1 (x := -1) (by omega) (congrArg xI hz_t1) dX5_join_30 ?_
            refine x_if_lt (tgt := 43) hx hb dX5_join_31 (by decide) (by omega) (fun c_31 => ?_) (fun c_31 => absurd c_31 (by omega))
            refine x_sipush hx hb dX5_join_43 (by decide +kernel) ?_
            exact xe_i hx hb hrt hlocks hP hS ((by unfold am_join; simp only [Int.toNat_natCast]; simp only [sp_get_s hS_t2]; rw [sp_if_f (by omega), sp_if_t (by simp [hS_t1, hS_t2])]; exact ⟨rfl, _, hM, hR, ho⟩)) dX5_join_46
          · have hz_t1 : M.toldMany t1 = -1 := by have q := hR.2.1 t1 h_t1; rw [hS_t1] at q; exact q
            have hT_t2 : M.toldMany t2 = (r_t2.1 : Int) ∧ ∀ k : Nat, k < r_t2.1 → M.told (200 * t2 + k) = r_t2.2 k := by have q := hR.2.1 t2 h_t2; rw [hS_t2] at q; exact q
            have hz_t2 := hT_t2.1
            have hm_t2 := (hW.2.1 t2 r_t2 h_t2 hS_t2).1
            have hfb_t2 := (hW.2.1 t2 r_t2 h_t2 hS_t2).2
            refine lv_iload_n hx hb dX5_join_0 rfl (lv_at hl 1 rfl) ?_
            refine xt_i (As := [.int (xI (t1 : Int))]) (rest := []) ⟨hx, hb, hml, hown, hts⟩ hl.1 (c_X5_isText l (t1 : Int) (by omega)) k_X5_isText u_ml_RX5_87 rfl rfl (Nat.le_of_ble_eq_true rfl) ⟨Nat.le_of_ble_eq_true rfl, Nat.le_of_ble_eq_true rfl⟩ ⟨Nat.le_of_ble_eq_true rfl, Nat.le_of_ble_eq_true rfl⟩ dX5_join_1 ?_
            refine x_top (q1 := True) ⟨fun _ => trivial, fun _ => by omega⟩ ?_
            refine x_ifb_eq (tgt := 21) hx hb dX5_join_4 (by decide)  (fun c_4 => absurd trivial c_4) (fun c_4 => ?_)
            refine lv_iload_n hx hb dX5_join_7 rfl (lv_at hl 2 rfl) ?_
            refine xt_i (As := [.int (xI (t2 : Int))]) (rest := []) ⟨hx, hb, hml, hown, hts⟩ hl.1 (c_X5_isText l (t2 : Int) (by omega)) k_X5_isText u_ml_RX5_87 rfl rfl (Nat.le_of_ble_eq_true rfl) ⟨Nat.le_of_ble_eq_true rfl, Nat.le_of_ble_eq_true rfl⟩ ⟨Nat.le_of_ble_eq_true rfl, Nat.le_of_ble_eq_true rfl⟩ dX5_join_8 ?_
            refine x_top (q1 := True) ⟨fun _ => trivial, fun _ => by omega⟩ ?_
            refine x_ifb_eq (tgt := 21) hx hb dX5_join_11 (by decide)  (fun c_11 => absurd trivial c_11) (fun c_11 => ?_)
            refine lv_iload_n hx hb dX5_join_14 rfl (lv_at hl 3 rfl) ?_
            refine xt_i (As := [.int (xI z3)]) (rest := []) ⟨hx, hb, hml, hown, hts⟩ hl.1 (c_X5_isText l z3 (by omega)) k_X5_isText u_ml_RX5_87 rfl rfl (Nat.le_of_ble_eq_true rfl) ⟨Nat.le_of_ble_eq_true rfl, Nat.le_of_ble_eq_true rfl⟩ ⟨Nat.le_of_ble_eq_true rfl, Nat.le_of_ble_eq_true rfl⟩ dX5_join_15 ?_
            refine x_top (q1 := False) ⟨fun h => absurd h (by omega), False.elim⟩ ?_
            refine x_ifb_ne (tgt := 25) hx hb dX5_join_18 (by decide)  (fun c_18 => absurd c_18 id) (fun c_18 => ?_)
            refine x_sipush hx hb dX5_join_21 (by decide +kernel) ?_
            exact xe_i hx hb hrt hlocks hP hS ((by unfold am_join; simp only [Int.toNat_natCast]; simp only [sp_get_s hS_t2]; rw [sp_if_t (by omega)]; exact ⟨rfl, _, hM, hR, ho⟩)) dX5_join_24
      · rcases Classical.em (0 ≤ z3 ∧ z3 < 8) with hx_z3 | hx_z3
        · obtain ⟨t3, rfl⟩ : ∃ q : Nat, z3 = (q : Int) := ⟨z3.toNat, by omega⟩
          have h_t3 : t3 < 8 := by omega
          have hz_t1 : M.toldMany t1 = -1 := by have q := hR.2.1 t1 h_t1; rw [hS_t1] at q; exact q
          refine lv_iload_n hx hb dX5_join_0 rfl (lv_at hl 1 rfl) ?_
          refine xt_i (As := [.int (xI (t1 : Int))]) (rest := []) ⟨hx, hb, hml, hown, hts⟩ hl.1 (c_X5_isText l (t1 : Int) (by omega)) k_X5_isText u_ml_RX5_87 rfl rfl (Nat.le_of_ble_eq_true rfl) ⟨Nat.le_of_ble_eq_true rfl, Nat.le_of_ble_eq_true rfl⟩ ⟨Nat.le_of_ble_eq_true rfl, Nat.le_of_ble_eq_true rfl⟩ dX5_join_1 ?_
          refine x_top (q1 := True) ⟨fun _ => trivial, fun _ => by omega⟩ ?_
          refine x_ifb_eq (tgt := 21) hx hb dX5_join_4 (by decide)  (fun c_4 => absurd trivial c_4) (fun c_4 => ?_)
          refine lv_iload_n hx hb dX5_join_7 rfl (lv_at hl 2 rfl) ?_
          refine xt_i (As := [.int (xI z2)]) (rest := []) ⟨hx, hb, hml, hown, hts⟩ hl.1 (c_X5_isText l z2 (by omega)) k_X5_isText u_ml_RX5_87 rfl rfl (Nat.le_of_ble_eq_true rfl) ⟨Nat.le_of_ble_eq_true rfl, Nat.le_of_ble_eq_true rfl⟩ ⟨Nat.le_of_ble_eq_true rfl, Nat.le_of_ble_eq_true rfl⟩ dX5_join_8 ?_
          refine x_top (q1 := False) ⟨fun h => absurd h (by omega), False.elim⟩ ?_
          refine x_ifb_eq (tgt := 21) hx hb dX5_join_11 (by decide)  (fun c_11 => ?_) (fun c_11 => absurd c_11 id)
          refine x_sipush hx hb dX5_join_21 (by decide +kernel) ?_
          exact xe_i hx hb hrt hlocks hP hS ((by unfold am_join; simp only [Int.toNat_natCast]; rw [sp_if_t (by omega)]; exact ⟨rfl, _, hM, hR, ho⟩)) dX5_join_24
        · have hz_t1 : M.toldMany t1 = -1 := by have q := hR.2.1 t1 h_t1; rw [hS_t1] at q; exact q
          refine lv_iload_n hx hb dX5_join_0 rfl (lv_at hl 1 rfl) ?_
          refine xt_i (As := [.int (xI (t1 : Int))]) (rest := []) ⟨hx, hb, hml, hown, hts⟩ hl.1 (c_X5_isText l (t1 : Int) (by omega)) k_X5_isText u_ml_RX5_87 rfl rfl (Nat.le_of_ble_eq_true rfl) ⟨Nat.le_of_ble_eq_true rfl, Nat.le_of_ble_eq_true rfl⟩ ⟨Nat.le_of_ble_eq_true rfl, Nat.le_of_ble_eq_true rfl⟩ dX5_join_1 ?_
          refine x_top (q1 := True) ⟨fun _ => trivial, fun _ => by omega⟩ ?_
          refine x_ifb_eq (tgt := 21) hx hb dX5_join_4 (by decide)  (fun c_4 => absurd trivial c_4) (fun c_4 => ?_)
          refine lv_iload_n hx hb dX5_join_7 rfl (lv_at hl 2 rfl) ?_
          refine xt_i (As := [.int (xI z2)]) (rest := []) ⟨hx, hb, hml, hown, hts⟩ hl.1 (c_X5_isText l z2 (by omega)) k_X5_isText u_ml_RX5_87 rfl rfl (Nat.le_of_ble_eq_true rfl) ⟨Nat.le_of_ble_eq_true rfl, Nat.le_of_ble_eq_true rfl⟩ ⟨Nat.le_of_ble_eq_true rfl, Nat.le_of_ble_eq_true rfl⟩ dX5_join_8 ?_
          refine x_top (q1 := False) ⟨fun h => absurd h (by omega), False.elim⟩ ?_
          refine x_ifb_eq (tgt := 21) hx hb dX5_join_11 (by decide)  (fun c_11 => ?_) (fun c_11 => absurd c_11 id)
          refine x_sipush hx hb dX5_join_21 (by decide +kernel) ?_
          exact xe_i hx hb hrt hlocks hP hS ((by unfold am_join; simp only [Int.toNat_natCast]; rw [sp_if_t (by omega)]; exact ⟨rfl, _, hM, hR, ho⟩)) dX5_join_24
    · rcases Classical.em (0 ≤ z2 ∧ z2 < 8) with hx_z2 | hx_z2
      · obtain ⟨t2, rfl⟩ : ∃ q : Nat, z2 = (q : Int) := ⟨z2.toNat, by omega⟩
        have h_t2 : t2 < 8 := by omega
        rcases hS_t2 : S.2.1 t2 with _ | r_t2
        · rcases Classical.em (0 ≤ z3 ∧ z3 < 8) with hx_z3 | hx_z3
          · obtain ⟨t3, rfl⟩ : ∃ q : Nat, z3 = (q : Int) := ⟨z3.toNat, by omega⟩
            have h_t3 : t3 < 8 := by omega
            have hT_t1 : M.toldMany t1 = (r_t1.1 : Int) ∧ ∀ k : Nat, k < r_t1.1 → M.told (200 * t1 + k) = r_t1.2 k := by have q := hR.2.1 t1 h_t1; rw [hS_t1] at q; exact q
            have hz_t1 := hT_t1.1
            have hm_t1 := (hW.2.1 t1 r_t1 h_t1 hS_t1).1
            have hfb_t1 := (hW.2.1 t1 r_t1 h_t1 hS_t1).2
            have hz_t2 : M.toldMany t2 = -1 := by have q := hR.2.1 t2 h_t2; rw [hS_t2] at q; exact q
            refine lv_iload_n hx hb dX5_join_0 rfl (lv_at hl 1 rfl) ?_
            refine xt_i (As := [.int (xI (t1 : Int))]) (rest := []) ⟨hx, hb, hml, hown, hts⟩ hl.1 (c_X5_isText l (t1 : Int) (by omega)) k_X5_isText u_ml_RX5_87 rfl rfl (Nat.le_of_ble_eq_true rfl) ⟨Nat.le_of_ble_eq_true rfl, Nat.le_of_ble_eq_true rfl⟩ ⟨Nat.le_of_ble_eq_true rfl, Nat.le_of_ble_eq_true rfl⟩ dX5_join_1 ?_
            refine x_top (q1 := True) ⟨fun _ => trivial, fun _ => by omega⟩ ?_
            refine x_ifb_eq (tgt := 21) hx hb dX5_join_4 (by decide)  (fun c_4 => absurd trivial c_4) (fun c_4 => ?_)
            refine lv_iload_n hx hb dX5_join_7 rfl (lv_at hl 2 rfl) ?_
            refine xt_i (As := [.int (xI (t2 : Int))]) (rest := []) ⟨hx, hb, hml, hown, hts⟩ hl.1 (c_X5_isText l (t2 : Int) (by omega)) k_X5_isText u_ml_RX5_87 rfl rfl (Nat.le_of_ble_eq_true rfl) ⟨Nat.le_of_ble_eq_true rfl, Nat.le_of_ble_eq_true rfl⟩ ⟨Nat.le_of_ble_eq_true rfl, Nat.le_of_ble_eq_true rfl⟩ dX5_join_8 ?_
            refine x_top (q1 := True) ⟨fun _ => trivial, fun _ => by omega⟩ ?_
            refine x_ifb_eq (tgt := 21) hx hb dX5_join_11 (by decide)  (fun c_11 => absurd trivial c_11) (fun c_11 => ?_)
            refine lv_iload_n hx hb dX5_join_14 rfl (lv_at hl 3 rfl) ?_
            refine xt_i (As := [.int (xI (t3 : Int))]) (rest := []) ⟨hx, hb, hml, hown, hts⟩ hl.1 (c_X5_isText l (t3 : Int) (by omega)) k_X5_isText u_ml_RX5_87 rfl rfl (Nat.le_of_ble_eq_true rfl) ⟨Nat.le_of_ble_eq_true rfl, Nat.le_of_ble_eq_true rfl⟩ ⟨Nat.le_of_ble_eq_true rfl, Nat.le_of_ble_eq_true rfl⟩ dX5_join_15 ?_
            refine x_top (q1 := True) ⟨fun _ => trivial, fun _ => by omega⟩ ?_
            refine x_ifb_ne (tgt := 25) hx hb dX5_join_18 (by decide)  (fun c_18 => ?_) (fun c_18 => absurd trivial c_18)
            refine lv_aload_n hx hb dX5_join_25 rfl (lv_at hl 0 rfl) ?_
            refine x_get (T := TX5) (N := 17) hx hb hts uX5 hown hK hP (i := 53) (by omega) hM.1 rfl 3 (by decide) u_fl_RX5_19 rfl dX5_join_26 ?_
            refine lv_iload_n hx hb dX5_join_29 rfl (lv_at hl 1 rfl) ?_
            refine x_ild hx hb hK hP (i := 57) (by omega) hM.2.2.2.2.1 (x := (r_t1.1 : Int)) (by omega) (congrArg xI hz_t1) dX5_join_30 ?_
            refine x_if_lt (tgt := 43) hx hb dX5_join_31 (by decide) (by omega) (fun c_31 => absurd c_31 (by omega)) (fun c_31 => ?_)
            refine lv_aload_n hx hb dX5_join_34 rfl (lv_at hl 0 rfl) ?_
            refine x_get (T := TX5) (N := 17) hx hb hts uX5 hown hK hP (i := 53) (by omega) hM.1 rfl 3 (by decide) u_fl_RX5_19 rfl dX5_join_35 ?_
            refine lv_iload_n hx hb dX5_join_38 rfl (lv_at hl 2 rfl) ?_
            refine x_ild hx hb hK hP (i := 57) (by omega) hM.2.2.2.2.1 (x := -1) (by omega) (congrArg xI hz_t2) dX5_join_39 ?_
            refine x_if_ge (tgt := 47) hx hb dX5_join_40 (by decide) (by omega) (fun c_40 => absurd c_40 (by omega)) (fun c_40 => ?_)
            refine x_sipush hx hb dX5_join_43 (by decide +kernel) ?_
            exact xe_i hx hb hrt hlocks hP hS ((by unfold am_join; simp only [Int.toNat_natCast]; simp only [sp_get_s hS_t1]; rw [sp_if_f (by omega), sp_if_t (by simp [hS_t1, hS_t2])]; exact ⟨rfl, _, hM, hR, ho⟩)) dX5_join_46
          · have hT_t1 : M.toldMany t1 = (r_t1.1 : Int) ∧ ∀ k : Nat, k < r_t1.1 → M.told (200 * t1 + k) = r_t1.2 k := by have q := hR.2.1 t1 h_t1; rw [hS_t1] at q; exact q
            have hz_t1 := hT_t1.1
            have hm_t1 := (hW.2.1 t1 r_t1 h_t1 hS_t1).1
            have hfb_t1 := (hW.2.1 t1 r_t1 h_t1 hS_t1).2
            have hz_t2 : M.toldMany t2 = -1 := by have q := hR.2.1 t2 h_t2; rw [hS_t2] at q; exact q
            refine lv_iload_n hx hb dX5_join_0 rfl (lv_at hl 1 rfl) ?_
            refine xt_i (As := [.int (xI (t1 : Int))]) (rest := []) ⟨hx, hb, hml, hown, hts⟩ hl.1 (c_X5_isText l (t1 : Int) (by omega)) k_X5_isText u_ml_RX5_87 rfl rfl (Nat.le_of_ble_eq_true rfl) ⟨Nat.le_of_ble_eq_true rfl, Nat.le_of_ble_eq_true rfl⟩ ⟨Nat.le_of_ble_eq_true rfl, Nat.le_of_ble_eq_true rfl⟩ dX5_join_1 ?_
            refine x_top (q1 := True) ⟨fun _ => trivial, fun _ => by omega⟩ ?_
            refine x_ifb_eq (tgt := 21) hx hb dX5_join_4 (by decide)  (fun c_4 => absurd trivial c_4) (fun c_4 => ?_)
            refine lv_iload_n hx hb dX5_join_7 rfl (lv_at hl 2 rfl) ?_
            refine xt_i (As := [.int (xI (t2 : Int))]) (rest := []) ⟨hx, hb, hml, hown, hts⟩ hl.1 (c_X5_isText l (t2 : Int) (by omega)) k_X5_isText u_ml_RX5_87 rfl rfl (Nat.le_of_ble_eq_true rfl) ⟨Nat.le_of_ble_eq_true rfl, Nat.le_of_ble_eq_true rfl⟩ ⟨Nat.le_of_ble_eq_true rfl, Nat.le_of_ble_eq_true rfl⟩ dX5_join_8 ?_
            refine x_top (q1 := True) ⟨fun _ => trivial, fun _ => by omega⟩ ?_
            refine x_ifb_eq (tgt := 21) hx hb dX5_join_11 (by decide)  (fun c_11 => absurd trivial c_11) (fun c_11 => ?_)
            refine lv_iload_n hx hb dX5_join_14 rfl (lv_at hl 3 rfl) ?_
            refine xt_i (As := [.int (xI z3)]) (rest := []) ⟨hx, hb, hml, hown, hts⟩ hl.1 (c_X5_isText l z3 (by omega)) k_X5_isText u_ml_RX5_87 rfl rfl (Nat.le_of_ble_eq_true rfl) ⟨Nat.le_of_ble_eq_true rfl, Nat.le_of_ble_eq_true rfl⟩ ⟨Nat.le_of_ble_eq_true rfl, Nat.le_of_ble_eq_true rfl⟩ dX5_join_15 ?_
            refine x_top (q1 := False) ⟨fun h => absurd h (by omega), False.elim⟩ ?_
            refine x_ifb_ne (tgt := 25) hx hb dX5_join_18 (by decide)  (fun c_18 => absurd c_18 id) (fun c_18 => ?_)
            refine x_sipush hx hb dX5_join_21 (by decide +kernel) ?_
            exact xe_i hx hb hrt hlocks hP hS ((by unfold am_join; simp only [Int.toNat_natCast]; simp only [sp_get_s hS_t1]; rw [sp_if_t (by omega)]; exact ⟨rfl, _, hM, hR, ho⟩)) dX5_join_24
        · rcases Classical.em (0 ≤ z3 ∧ z3 < 8) with hx_z3 | hx_z3
          · obtain ⟨t3, rfl⟩ : ∃ q : Nat, z3 = (q : Int) := ⟨z3.toNat, by omega⟩
            have h_t3 : t3 < 8 := by omega
            have hT_t1 : M.toldMany t1 = (r_t1.1 : Int) ∧ ∀ k : Nat, k < r_t1.1 → M.told (200 * t1 + k) = r_t1.2 k := by have q := hR.2.1 t1 h_t1; rw [hS_t1] at q; exact q
            have hz_t1 := hT_t1.1
            have hm_t1 := (hW.2.1 t1 r_t1 h_t1 hS_t1).1
            have hfb_t1 := (hW.2.1 t1 r_t1 h_t1 hS_t1).2
            have hT_t2 : M.toldMany t2 = (r_t2.1 : Int) ∧ ∀ k : Nat, k < r_t2.1 → M.told (200 * t2 + k) = r_t2.2 k := by have q := hR.2.1 t2 h_t2; rw [hS_t2] at q; exact q
            have hz_t2 := hT_t2.1
            have hm_t2 := (hW.2.1 t2 r_t2 h_t2 hS_t2).1
            have hfb_t2 := (hW.2.1 t2 r_t2 h_t2 hS_t2).2
            refine lv_iload_n hx hb dX5_join_0 rfl (lv_at hl 1 rfl) ?_
            refine xt_i (As := [.int (xI (t1 : Int))]) (rest := []) ⟨hx, hb, hml, hown, hts⟩ hl.1 (c_X5_isText l (t1 : Int) (by omega)) k_X5_isText u_ml_RX5_87 rfl rfl (Nat.le_of_ble_eq_true rfl) ⟨Nat.le_of_ble_eq_true rfl, Nat.le_of_ble_eq_true rfl⟩ ⟨Nat.le_of_ble_eq_true rfl, Nat.le_of_ble_eq_true rfl⟩ dX5_join_1 ?_
            refine x_top (q1 := True) ⟨fun _ => trivial, fun _ => by omega⟩ ?_
            refine x_ifb_eq (tgt := 21) hx hb dX5_join_4 (by decide)  (fun c_4 => absurd trivial c_4) (fun c_4 => ?_)
            refine lv_iload_n hx hb dX5_join_7 rfl (lv_at hl 2 rfl) ?_
            refine xt_i (As := [.int (xI (t2 : Int))]) (rest := []) ⟨hx, hb, hml, hown, hts⟩ hl.1 (c_X5_isText l (t2 : Int) (by omega)) k_X5_isText u_ml_RX5_87 rfl rfl (Nat.le_of_ble_eq_true rfl) ⟨Nat.le_of_ble_eq_true rfl, Nat.le_of_ble_eq_true rfl⟩ ⟨Nat.le_of_ble_eq_true rfl, Nat.le_of_ble_eq_true rfl⟩ dX5_join_8 ?_
            refine x_top (q1 := True) ⟨fun _ => trivial, fun _ => by omega⟩ ?_
            refine x_ifb_eq (tgt := 21) hx hb dX5_join_11 (by decide)  (fun c_11 => absurd trivial c_11) (fun c_11 => ?_)
            refine lv_iload_n hx hb dX5_join_14 rfl (lv_at hl 3 rfl) ?_
            refine xt_i (As := [.int (xI (t3 : Int))]) (rest := []) ⟨hx, hb, hml, hown, hts⟩ hl.1 (c_X5_isText l (t3 : Int) (by omega)) k_X5_isText u_ml_RX5_87 rfl rfl (Nat.le_of_ble_eq_true rfl) ⟨Nat.le_of_ble_eq_true rfl, Nat.le_of_ble_eq_true rfl⟩ ⟨Nat.le_of_ble_eq_true rfl, Nat.le_of_ble_eq_true rfl⟩ dX5_join_15 ?_
            refine x_top (q1 := True) ⟨fun _ => trivial, fun _ => by omega⟩ ?_
            refine x_ifb_ne (tgt := 25) hx hb dX5_join_18 (by decide)  (fun c_18 => ?_) (fun c_18 => absurd trivial c_18)
            refine lv_aload_n hx hb dX5_join_25 rfl (lv_at hl 0 rfl) ?_
            refine x_get (T := TX5) (N := 17) hx hb hts uX5 hown hK hP (i := 53) (by omega) hM.1 rfl 3 (by decide) u_fl_RX5_19 rfl dX5_join_26 ?_
            refine lv_iload_n hx hb dX5_join_29 rfl (lv_at hl 1 rfl) ?_
            refine x_ild hx hb hK hP (i := 57) (by omega) hM.2.2.2.2.1 (x := (r_t1.1 : Int)) (by omega) (congrArg xI hz_t1) dX5_join_30 ?_
            refine x_if_lt (tgt := 43) hx hb dX5_join_31 (by decide) (by omega) (fun c_31 => absurd c_31 (by omega)) (fun c_31 => ?_)
            refine lv_aload_n hx hb dX5_join_34 rfl (lv_at hl 0 rfl) ?_
            refine x_get (T := TX5) (N := 17) hx hb hts uX5 hown hK hP (i := 53) (by omega) hM.1 rfl 3 (by decide) u_fl_RX5_19 rfl dX5_join_35 ?_
            refine lv_iload_n hx hb dX5_join_38 rfl (lv_at hl 2 rfl) ?_
            refine x_ild hx hb hK hP (i := 57) (by omega) hM.2.2.2.2.1 (x := (r_t2.1 : Int)) (by omega) (congrArg xI hz_t2) dX5_join_39 ?_
            refine x_if_ge (tgt := 47) hx hb dX5_join_40 (by decide) (by omega) (fun c_40 => ?_) (fun c_40 => absurd c_40 (by omega))
            refine lv_aload_n hx hb dX5_join_47 rfl (lv_at hl 0 rfl) ?_
            refine x_get (T := TX5) (N := 17) hx hb hts uX5 hown hK hP (i := 53) (by omega) hM.1 rfl 3 (by decide) u_fl_RX5_19 rfl dX5_join_48 ?_
            refine lv_iload_n hx hb dX5_join_51 rfl (lv_at hl 1 rfl) ?_
            refine x_ild hx hb hK hP (i := 57) (by omega) hM.2.2.2.2.1 (x := (r_t1.1 : Int)) (by omega) (congrArg xI hz_t1) dX5_join_52 ?_
            refine lv_aload_n hx hb dX5_join_53 rfl (lv_at hl 0 rfl) ?_
            refine x_get (T := TX5) (N := 17) hx hb hts uX5 hown hK hP (i := 53) (by omega) hM.1 rfl 3 (by decide) u_fl_RX5_19 rfl dX5_join_54 ?_
            refine lv_iload_n hx hb dX5_join_57 rfl (lv_at hl 2 rfl) ?_
            refine x_ild hx hb hK hP (i := 57) (by omega) hM.2.2.2.2.1 (x := (r_t2.1 : Int)) (by omega) (congrArg xI hz_t2) dX5_join_58 ?_
            refine x_iadd hx hb dX5_join_59 ?_
            refine x_sipush hx hb dX5_join_60 (by decide +kernel) ?_
            refine x_icmp_le (tgt := 70) hx hb dX5_join_63 (by decide) (by omega) (fun c_63 => ?_) (fun c_63 => ?_)
            · refine lv_aload_n hx hb dX5_join_70 rfl (lv_at hl 0 rfl) ?_
              refine lv_iload_n hx hb dX5_join_71 rfl (lv_at hl 1 rfl) ?_
              refine xm_v (i := 53) (As := [.int (xI (t1 : Int))]) (rest := []) ⟨hx, hb, hml, hown, hts⟩ hl.1 (c_X5_layText_some l D cA n ad en _ hn hM t1 h_t1 (r := r_t1) hz_t1 hm_t1 hT_t1.2) k_X5_layText u_ml_RX5_90 hK hN hP (by omega) hM.1 rfl rfl rfl rfl (Nat.le_of_ble_eq_true rfl) ⟨Nat.le_of_ble_eq_true rfl, Nat.le_of_ble_eq_true rfl⟩ ⟨Nat.le_of_ble_eq_true rfl, Nat.le_of_ble_eq_true rfl⟩ dX5_join_72 hD hS hA (fun en1 H locs hp1 hP hS => ?_)
              obtain ⟨F9, hF9, hM, ho2⟩ := hp1
              have hM : MW cA ad en1 (mO M.built M.builtMany M.told M.toldMany F9 (r_t1.1 : Int) M.figures M.partText M.partFrom M.partMany M.parts M.cut M.cutMany M.isCut M.cutGives M.cutAt M.h) := hM
              have ho := ho.tr ho2
              refine x_iconst hx hb dX5_join_75 ?_
              refine lv_istore (lv' := [(4, .int (xI 0)), (0, .ref (ad 53)), (1, .int (xI (t1 : Int))), (2, .int (xI (t2 : Int))), (3, .int (xI (t3 : Int)))]) hx hb dX5_join_76 hl (by decide) rfl (fun ls hl => ?_)
              have L78 : ∀ (nn : Nat) (K : Nat) (F : Nat → Int) (ew78 : Nat → va_E) (H : Heap) (locs : List Loc), (K ≤ r_t2.1) → ((∀ k : Nat, k < r_t1.1 → F k = r_t1.2 k) ∧ ∀ k : Nat, k < K → F (r_t1.1 + k) = r_t2.2 k) → (r_t2.1 - K) < nn → (MW cA ad ew78 (mO M.built M.builtMany M.told M.toldMany F (r_t1.1 : Int) M.figures M.partText M.partFrom M.partMany M.parts M.cut M.cutMany M.isCut M.cutGives M.cutAt M.h)) → (xO 53 68 en ew78) → va_P D vwCl (xw n ad ew78) H → va_S (xA n ad sz) s.heap H locs → ∀ ls : Array Slot, lv_has ls 5 [(0, .ref (ad 53)), (1, .int (xI (t1 : Int))), (2, .int (xI (t2 : Int))), (3, .int (xI (t3 : Int))), (4, .int (xI (K : Int)))] → W p l e (xrm 2 45) s mm args below meth c H locs 0 0 (MQ below (va_Qi (fun r u => r = xI (am_join S (t1 : Int) (t2 : Int) (t3 : Int)).1 ∧ ∃ M' : MO, MW cA ad u M' ∧ MR (am_join S (t1 : Int) (t2 : Int) (t3 : Int)).2 M' ∧ xO 53 68 en u) (xE D n ad) (xA n ad sz)) args s 0 0 (xA n ad sz)) (F0 mm 78 ls []) := by
                intro nn
                induction nn with
                | zero =>
                  intro K F ew78 H locs hk8 hF hmm hM ho hP hS ls hl
                  exact absurd hmm (Nat.not_lt_zero _)
                | succ nn ih =>
                  intro K F ew78 H locs hk8 hF hmm hM ho hP hS ls hl
                  refine lv_iload hx hb dX5_join_78 (lv_at hl 4 rfl) ?_
                  refine lv_aload_n hx hb dX5_join_80 rfl (lv_at hl 0 rfl) ?_
                  refine x_get (T := TX5) (N := 17) hx hb hts uX5 hown hK hP (i := 53) (by omega) (show ew78 53 = .inr (5, [.ref (ad 54), .ref (ad 55), .ref (ad 56), .ref (ad 57), .ref (ad 58), .int (xI (r_t1.1 : Int)), .ref (ad 59), .ref (ad 60), .ref (ad 61), .ref (ad 62), .int (xI M.parts), .ref (ad 63), .ref (ad 64), .ref (ad 65), .ref (ad 66), .ref (ad 67), .long M.h]) from hM.1) rfl 3 (by decide) u_fl_RX5_19 rfl dX5_join_81 ?_
                  refine lv_iload_n hx hb dX5_join_84 rfl (lv_at hl 2 rfl) ?_
                  refine x_ild hx hb hK hP (i := 57) (by omega) hM.2.2.2.2.1 (x := (r_t2.1 : Int)) (by omega) (congrArg xI hz_t2) dX5_join_85 ?_
                  refine x_icmp_ge (tgt := 120) hx hb dX5_join_86 (by decide) (by omega) (fun c_86 => ?_) (fun c_86 => ?_)
                  · refine lv_aload_n hx hb dX5_join_120 rfl (lv_at hl 0 rfl) ?_
                    refine lv_aload_n hx hb dX5_join_121 rfl (lv_at hl 0 rfl) ?_
                    refine x_get (T := TX5) (N := 17) hx hb hts uX5 hown hK hP (i := 53) (by omega) (show ew78 53 = .inr (5, [.ref (ad 54), .ref (ad 55), .ref (ad 56), .ref (ad 57), .ref (ad 58), .int (xI (r_t1.1 : Int)), .ref (ad 59), .ref (ad 60), .ref (ad 61), .ref (ad 62), .int (xI M.parts), .ref (ad 63), .ref (ad 64), .ref (ad 65), .ref (ad 66), .ref (ad 67), .long M.h]) from hM.1) rfl 5 (by decide) u_fl_RX5_62 rfl dX5_join_122 ?_
                    refine lv_aload_n hx hb dX5_join_125 rfl (lv_at hl 0 rfl) ?_
                    refine x_get (T := TX5) (N := 17) hx hb hts uX5 hown hK hP (i := 53) (by omega) (show ew78 53 = .inr (5, [.ref (ad 54), .ref (ad 55), .ref (ad 56), .ref (ad 57), .ref (ad 58), .int (xI (r_t1.1 : Int)), .ref (ad 59), .ref (ad 60), .ref (ad 61), .ref (ad 62), .int (xI M.parts), .ref (ad 63), .ref (ad 64), .ref (ad 65), .ref (ad 66), .ref (ad 67), .long M.h]) from hM.1) rfl 3 (by decide) u_fl_RX5_19 rfl dX5_join_126 ?_
                    refine lv_iload_n hx hb dX5_join_129 rfl (lv_at hl 2 rfl) ?_
                    refine x_ild hx hb hK hP (i := 57) (by omega) hM.2.2.2.2.1 (x := (r_t2.1 : Int)) (by omega) (congrArg xI hz_t2) dX5_join_130 ?_
                    refine x_iadd hx hb dX5_join_131 ?_
                    refine x_to ((r_t1.1 : Int) + (r_t2.1 : Int)) (rfl) ?_
                    refine x_put (T := TX5) (N := 17) (ty := .int) hx hb hts uX5 tyX5 tyX5_ok nmX5 hown hK hP hD hS (i := 53) (by omega) (show ew78 53 = .inr (5, [.ref (ad 54), .ref (ad 55), .ref (ad 56), .ref (ad 57), .ref (ad 58), .int (xI (r_t1.1 : Int)), .ref (ad 59), .ref (ad 60), .ref (ad 61), .ref (ad 62), .int (xI M.parts), .ref (ad 63), .ref (ad 64), .ref (ad 65), .ref (ad 66), .ref (ad 67), .long M.h]) from hM.1) rfl 5 (by decide) u_fl_RX5_62 rfl (by decide +kernel) rfl rfl (by show 5 < 17; decide) dX5_join_132 (fun H locs hP hS => ?_)
                    obtain ⟨en2, he2⟩ : ∃ z, z = va_up ew78 53 (.inr (5, [.ref (ad 54), .ref (ad 55), .ref (ad 56), .ref (ad 57), .ref (ad 58), .int (xI ((r_t1.1 : Int) + (r_t2.1 : Int))), .ref (ad 59), .ref (ad 60), .ref (ad 61), .ref (ad 62), .int (xI M.parts), .ref (ad 63), .ref (ad 64), .ref (ad 65), .ref (ad 66), .ref (ad 67), .long M.h])) := ⟨_, rfl⟩
                    have hP : va_P D vwCl (xw n ad en2) H := by rw [he2]; exact hP
                    have hM : MW cA ad en2 (mO M.built M.builtMany M.told M.toldMany F ((r_t1.1 : Int) + (r_t2.1 : Int)) M.figures M.partText M.partFrom M.partMany M.parts M.cut M.cutMany M.isCut M.cutGives M.cutAt M.h) := by rw [he2]; exact hM.s_rowMany ((r_t1.1 : Int) + (r_t2.1 : Int))
                    have ho : xO 53 68 en en2 := by rw [he2]; exact ho.up (by omega) (by omega)
                    have hJ9 : ∀ k : Nat, k < r_t1.1 + r_t2.1 → F k = if k < r_t1.1 then r_t1.2 k else r_t2.2 (k - r_t1.1) := fun k hk => by
                      by_cases q : k < r_t1.1
                      · rw [if_pos q]; exact hF.1 k q
                      · rw [if_neg q]
                        have q2 := hF.2 (k - r_t1.1) (by omega)
                        rw [show r_t1.1 + (k - r_t1.1) = k by omega] at q2
                        exact q2
                    refine lv_aload_n hx hb dX5_join_135 rfl (lv_at hl 0 rfl) ?_
                    refine lv_iload_n hx hb dX5_join_136 rfl (lv_at hl 3 rfl) ?_
                    refine xm_i (i := 53) (As := [.int (xI (t3 : Int))]) (rest := []) ⟨hx, hb, hml, hown, hts⟩ hl.1 (c_X5_become l D cA n ad en2 _ hn hM t3 h_t3 (r_t1.1 + r_t2.1) (show (r_t1.1 : Int) + (r_t2.1 : Int) = (((r_t1.1 + r_t2.1) : Nat) : Int) from by omega) (by omega)) k_X5_become u_ml_RX5_118 hK hN hP (by omega) (show en2 53 = .inr (5, [.ref (ad 54), .ref (ad 55), .ref (ad 56), .ref (ad 57), .ref (ad 58), .int (xI ((r_t1.1 : Int) + (r_t2.1 : Int))), .ref (ad 59), .ref (ad 60), .ref (ad 61), .ref (ad 62), .int (xI M.parts), .ref (ad 63), .ref (ad 64), .ref (ad 65), .ref (ad 66), .ref (ad 67), .long M.h]) from hM.1) rfl rfl rfl rfl (Nat.le_of_ble_eq_true rfl) ⟨Nat.le_of_ble_eq_true rfl, Nat.le_of_ble_eq_true rfl⟩ ⟨Nat.le_of_ble_eq_true rfl, Nat.le_of_ble_eq_true rfl⟩ dX5_join_137 hD hS hA (fun r3 en3 H locs hp3 hP hS => ?_)
                    obtain ⟨hrv, T9, hT9, hU9, hM, ho2⟩ := hp3
                    have hrv : r3 = xI ((r_t1.1 : Int) + (r_t2.1 : Int)) := hrv
                    subst hrv
                    have hM : MW cA ad en3 (mO M.built M.builtMany T9 (sp_up M.toldMany t3 ((r_t1.1 : Int) + (r_t2.1 : Int))) F ((r_t1.1 : Int) + (r_t2.1 : Int)) M.figures M.partText M.partFrom M.partMany M.parts M.cut M.cutMany M.isCut M.cutGives M.cutAt M.h) := hM
                    have ho := ho.tr ho2
                    have hT9 : ∀ k : Nat, k < (r_t1.1 + r_t2.1) → T9 (200 * t3 + k) = F k := hT9
                    have hU9 : ∀ j : Nat, j < 200 * t3 ∨ 200 * t3 + 200 ≤ j → T9 j = M.told j := hU9
                    exact xe_i hx hb hrt hlocks hP hS ((by unfold am_join; simp only [Int.toNat_natCast]; simp only [sp_get_s hS_t1, sp_get_s hS_t2]; rw [sp_if_f (by omega), sp_if_f (by simp [hS_t1, hS_t2]), sp_if_f (by omega)]; have q9 := hR.text hW h_t3 (o := some ((r_t1.1 + r_t2.1, fun q => if q < r_t1.1 then r_t1.2 q else r_t2.2 (q - r_t1.1)) : xRow)) (T' := T9) (z := ((r_t1.1 : Int) + (r_t2.1 : Int))) ⟨by first | rfl | omega | (dsimp only; omega), fun k hk => (hT9 k (by first | exact hk | (dsimp only at hk; omega))).trans (hJ9 k (by first | exact hk | (dsimp only at hk; omega)))⟩ hU9; exact ⟨congrArg xI (by omega), _, hM, q9, ho⟩)) dX5_join_140
                  · refine lv_aload_n hx hb dX5_join_89 rfl (lv_at hl 0 rfl) ?_
                    refine x_get (T := TX5) (N := 17) hx hb hts uX5 hown hK hP (i := 53) (by omega) (show ew78 53 = .inr (5, [.ref (ad 54), .ref (ad 55), .ref (ad 56), .ref (ad 57), .ref (ad 58), .int (xI (r_t1.1 : Int)), .ref (ad 59), .ref (ad 60), .ref (ad 61), .ref (ad 62), .int (xI M.parts), .ref (ad 63), .ref (ad 64), .ref (ad 65), .ref (ad 66), .ref (ad 67), .long M.h]) from hM.1) rfl 4 (by decide) u_fl_RX5_22 rfl dX5_join_90 ?_
                    refine lv_aload_n hx hb dX5_join_93 rfl (lv_at hl 0 rfl) ?_
                    refine x_get (T := TX5) (N := 17) hx hb hts uX5 hown hK hP (i := 53) (by omega) (show ew78 53 = .inr (5, [.ref (ad 54), .ref (ad 55), .ref (ad 56), .ref (ad 57), .ref (ad 58), .int (xI (r_t1.1 : Int)), .ref (ad 59), .ref (ad 60), .ref (ad 61), .ref (ad 62), .int (xI M.parts), .ref (ad 63), .ref (ad 64), .ref (ad 65), .ref (ad 66), .ref (ad 67), .long M.h]) from hM.1) rfl 5 (by decide) u_fl_RX5_62 rfl dX5_join_94 ?_
                    refine lv_iload hx hb dX5_join_97 (lv_at hl 4 rfl) ?_
                    refine x_iadd hx hb dX5_join_99 ?_
                    refine lv_aload_n hx hb dX5_join_100 rfl (lv_at hl 0 rfl) ?_
                    refine x_get (T := TX5) (N := 17) hx hb hts uX5 hown hK hP (i := 53) (by omega) (show ew78 53 = .inr (5, [.ref (ad 54), .ref (ad 55), .ref (ad 56), .ref (ad 57), .ref (ad 58), .int (xI (r_t1.1 : Int)), .ref (ad 59), .ref (ad 60), .ref (ad 61), .ref (ad 62), .int (xI M.parts), .ref (ad 63), .ref (ad 64), .ref (ad 65), .ref (ad 66), .ref (ad 67), .long M.h]) from hM.1) rfl 2 (by decide) u_fl_RX5_16 rfl dX5_join_101 ?_
                    refine x_sipush hx hb dX5_join_104 (by decide +kernel) ?_
                    refine lv_iload_n hx hb dX5_join_107 rfl (lv_at hl 2 rfl) ?_
                    refine x_imul hx hb dX5_join_108 ?_
                    refine lv_iload hx hb dX5_join_109 (lv_at hl 4 rfl) ?_
                    refine x_iadd hx hb dX5_join_111 ?_
                    refine x_ild hx hb hK hP (i := 56) (by omega) hM.2.2.2.1 (x := M.told ((200 * t2) + K)) (by omega) (congrArg (fun q => xI (M.told q)) (show Int.toNat ((200 * (t2 : Int)) + (K : Int)) = (200 * t2) + K by omega)) dX5_join_112 ?_
                    refine x_to (r_t2.2 K) (hT_t2.2 K (by omega)) ?_
                    refine x_ist hx hb hK hP hD hS (i := 58) (by omega) hM.2.2.2.2.2.1 (by omega) dX5_join_113 (fun H locs hP hS => ?_)
                    obtain ⟨en4, he4⟩ : ∃ z, z = va_up ew78 58 (.inl (cA 0, 220, .inl (upd (fun k => xI (F k)) (r_t1.1 + K) (xI (r_t2.2 K))))) := ⟨_, rfl⟩
                    have hP : va_P D vwCl (xw n ad en4) H := by rw [he4, show r_t1.1 + K = (Int.toNat ((r_t1.1 : Int) + (K : Int))) by omega]; exact hP
                    have hM : MW cA ad en4 (mO M.built M.builtMany M.told M.toldMany (sp_up F (r_t1.1 + K) (r_t2.2 K)) (r_t1.1 : Int) M.figures M.partText M.partFrom M.partMany M.parts M.cut M.cutMany M.isCut M.cutGives M.cutAt M.h) := by rw [he4]; exact hM.u_row (r_t1.1 + K) (r_t2.2 K)
                    have ho : xO 53 68 en en4 := by rw [he4]; exact ho.up (by omega) (by omega)
                    refine x_iinc (lv' := [(4, .int (xI ((K : Int) + 1))), (0, .ref (ad 53)), (1, .int (xI (t1 : Int))), (2, .int (xI (t2 : Int))), (3, .int (xI (t3 : Int)))]) (k := 4) hx hb dX5_join_114 hl rfl (by decide) rfl (fun ls hl => ?_)
                    refine lv_goto (tgt := 78) hx hb dX5_join_117 (by decide) ?_
                    exact ih (K + 1) _ en4 _ _ (by omega) (⟨fun k hk => by rw [sp_up_n _ _ (by omega)]; exact hF.1 k hk, fun k hk => by
      by_cases q : k = K
      · rw [q, sp_up_s]
      · rw [sp_up_n _ _ (by omega)]; exact hF.2 k (by omega)⟩) (by omega) hM ho hP hS ls (lv_sub hl [1, 2, 3, 4, 0] rfl)
              exact L78 _ 0 F9 en1 _ _ (Nat.zero_le _) (⟨fun k hk => hF9 k hk, fun k hk => absurd hk (Nat.not_lt_zero _)⟩) (Nat.lt_succ_self _) hM ho hP hS ls (lv_sub hl [1, 2, 3, 4, 0] rfl)
            · refine x_sipush hx hb dX5_join_66 (by decide +kernel) ?_
              exact xe_i hx hb hrt hlocks hP hS ((by unfold am_join; simp only [Int.toNat_natCast]; simp only [sp_get_s hS_t1, sp_get_s hS_t2]; rw [sp_if_f (by omega), sp_if_f (by simp [hS_t1, hS_t2]), sp_if_t (by omega)]; exact ⟨rfl, _, hM, hR, ho⟩)) dX5_join_69
          · have hT_t1 : M.toldMany t1 = (r_t1.1 : Int) ∧ ∀ k : Nat, k < r_t1.1 → M.told (200 * t1 + k) = r_t1.2 k := by have q := hR.2.1 t1 h_t1; rw [hS_t1] at q; exact q
            have hz_t1 := hT_t1.1
            have hm_t1 := (hW.2.1 t1 r_t1 h_t1 hS_t1).1
            have hfb_t1 := (hW.2.1 t1 r_t1 h_t1 hS_t1).2
            have hT_t2 : M.toldMany t2 = (r_t2.1 : Int) ∧ ∀ k : Nat, k < r_t2.1 → M.told (200 * t2 + k) = r_t2.2 k := by have q := hR.2.1 t2 h_t2; rw [hS_t2] at q; exact q
            have hz_t2 := hT_t2.1
            have hm_t2 := (hW.2.1 t2 r_t2 h_t2 hS_t2).1
            have hfb_t2 := (hW.2.1 t2 r_t2 h_t2 hS_t2).2
            refine lv_iload_n hx hb dX5_join_0 rfl (lv_at hl 1 rfl) ?_
            refine xt_i (As := [.int (xI (t1 : Int))]) (rest := []) ⟨hx, hb, hml, hown, hts⟩ hl.1 (c_X5_isText l (t1 : Int) (by omega)) k_X5_isText u_ml_RX5_87 rfl rfl (Nat.le_of_ble_eq_true rfl) ⟨Nat.le_of_ble_eq_true rfl, Nat.le_of_ble_eq_true rfl⟩ ⟨Nat.le_of_ble_eq_true rfl, Nat.le_of_ble_eq_true rfl⟩ dX5_join_1 ?_
            refine x_top (q1 := True) ⟨fun _ => trivial, fun _ => by omega⟩ ?_
            refine x_ifb_eq (tgt := 21) hx hb dX5_join_4 (by decide)  (fun c_4 => absurd trivial c_4) (fun c_4 => ?_)
            refine lv_iload_n hx hb dX5_join_7 rfl (lv_at hl 2 rfl) ?_
            refine xt_i (As := [.int (xI (t2 : Int))]) (rest := []) ⟨hx, hb, hml, hown, hts⟩ hl.1 (c_X5_isText l (t2 : Int) (by omega)) k_X5_isText u_ml_RX5_87 rfl rfl (Nat.le_of_ble_eq_true rfl) ⟨Nat.le_of_ble_eq_true rfl, Nat.le_of_ble_eq_true rfl⟩ ⟨Nat.le_of_ble_eq_true rfl, Nat.le_of_ble_eq_true rfl⟩ dX5_join_8 ?_
            refine x_top (q1 := True) ⟨fun _ => trivial, fun _ => by omega⟩ ?_
            refine x_ifb_eq (tgt := 21) hx hb dX5_join_11 (by decide)  (fun c_11 => absurd trivial c_11) (fun c_11 => ?_)
            refine lv_iload_n hx hb dX5_join_14 rfl (lv_at hl 3 rfl) ?_
            refine xt_i (As := [.int (xI z3)]) (rest := []) ⟨hx, hb, hml, hown, hts⟩ hl.1 (c_X5_isText l z3 (by omega)) k_X5_isText u_ml_RX5_87 rfl rfl (Nat.le_of_ble_eq_true rfl) ⟨Nat.le_of_ble_eq_true rfl, Nat.le_of_ble_eq_true rfl⟩ ⟨Nat.le_of_ble_eq_true rfl, Nat.le_of_ble_eq_true rfl⟩ dX5_join_15 ?_
            refine x_top (q1 := False) ⟨fun h => absurd h (by omega), False.elim⟩ ?_
            refine x_ifb_ne (tgt := 25) hx hb dX5_join_18 (by decide)  (fun c_18 => absurd c_18 id) (fun c_18 => ?_)
            refine x_sipush hx hb dX5_join_21 (by decide +kernel) ?_
            exact xe_i hx hb hrt hlocks hP hS ((by unfold am_join; simp only [Int.toNat_natCast]; simp only [sp_get_s hS_t1, sp_get_s hS_t2]; rw [sp_if_t (by omega)]; exact ⟨rfl, _, hM, hR, ho⟩)) dX5_join_24
      · rcases Classical.em (0 ≤ z3 ∧ z3 < 8) with hx_z3 | hx_z3
        · obtain ⟨t3, rfl⟩ : ∃ q : Nat, z3 = (q : Int) := ⟨z3.toNat, by omega⟩
          have h_t3 : t3 < 8 := by omega
          have hT_t1 : M.toldMany t1 = (r_t1.1 : Int) ∧ ∀ k : Nat, k < r_t1.1 → M.told (200 * t1 + k) = r_t1.2 k := by have q := hR.2.1 t1 h_t1; rw [hS_t1] at q; exact q
          have hz_t1 := hT_t1.1
          have hm_t1 := (hW.2.1 t1 r_t1 h_t1 hS_t1).1
          have hfb_t1 := (hW.2.1 t1 r_t1 h_t1 hS_t1).2
          refine lv_iload_n hx hb dX5_join_0 rfl (lv_at hl 1 rfl) ?_
          refine xt_i (As := [.int (xI (t1 : Int))]) (rest := []) ⟨hx, hb, hml, hown, hts⟩ hl.1 (c_X5_isText l (t1 : Int) (by omega)) k_X5_isText u_ml_RX5_87 rfl rfl (Nat.le_of_ble_eq_true rfl) ⟨Nat.le_of_ble_eq_true rfl, Nat.le_of_ble_eq_true rfl⟩ ⟨Nat.le_of_ble_eq_true rfl, Nat.le_of_ble_eq_true rfl⟩ dX5_join_1 ?_
          refine x_top (q1 := True) ⟨fun _ => trivial, fun _ => by omega⟩ ?_
          refine x_ifb_eq (tgt := 21) hx hb dX5_join_4 (by decide)  (fun c_4 => absurd trivial c_4) (fun c_4 => ?_)
          refine lv_iload_n hx hb dX5_join_7 rfl (lv_at hl 2 rfl) ?_
          refine xt_i (As := [.int (xI z2)]) (rest := []) ⟨hx, hb, hml, hown, hts⟩ hl.1 (c_X5_isText l z2 (by omega)) k_X5_isText u_ml_RX5_87 rfl rfl (Nat.le_of_ble_eq_true rfl) ⟨Nat.le_of_ble_eq_true rfl, Nat.le_of_ble_eq_true rfl⟩ ⟨Nat.le_of_ble_eq_true rfl, Nat.le_of_ble_eq_true rfl⟩ dX5_join_8 ?_
          refine x_top (q1 := False) ⟨fun h => absurd h (by omega), False.elim⟩ ?_
          refine x_ifb_eq (tgt := 21) hx hb dX5_join_11 (by decide)  (fun c_11 => ?_) (fun c_11 => absurd c_11 id)
          refine x_sipush hx hb dX5_join_21 (by decide +kernel) ?_
          exact xe_i hx hb hrt hlocks hP hS ((by unfold am_join; simp only [Int.toNat_natCast]; simp only [sp_get_s hS_t1]; rw [sp_if_t (by omega)]; exact ⟨rfl, _, hM, hR, ho⟩)) dX5_join_24
        · have hT_t1 : M.toldMany t1 = (r_t1.1 : Int) ∧ ∀ k : Nat, k < r_t1.1 → M.told (200 * t1 + k) = r_t1.2 k := by have q := hR.2.1 t1 h_t1; rw [hS_t1] at q; exact q
          have hz_t1 := hT_t1.1
          have hm_t1 := (hW.2.1 t1 r_t1 h_t1 hS_t1).1
          have hfb_t1 := (hW.2.1 t1 r_t1 h_t1 hS_t1).2
          refine lv_iload_n hx hb dX5_join_0 rfl (lv_at hl 1 rfl) ?_
          refine xt_i (As := [.int (xI (t1 : Int))]) (rest := []) ⟨hx, hb, hml, hown, hts⟩ hl.1 (c_X5_isText l (t1 : Int) (by omega)) k_X5_isText u_ml_RX5_87 rfl rfl (Nat.le_of_ble_eq_true rfl) ⟨Nat.le_of_ble_eq_true rfl, Nat.le_of_ble_eq_true rfl⟩ ⟨Nat.le_of_ble_eq_true rfl, Nat.le_of_ble_eq_true rfl⟩ dX5_join_1 ?_
          refine x_top (q1 := True) ⟨fun _ => trivial, fun _ => by omega⟩ ?_
          refine x_ifb_eq (tgt := 21) hx hb dX5_join_4 (by decide)  (fun c_4 => absurd trivial c_4) (fun c_4 => ?_)
          refine lv_iload_n hx hb dX5_join_7 rfl (lv_at hl 2 rfl) ?_
          refine xt_i (As := [.int (xI z2)]) (rest := []) ⟨hx, hb, hml, hown, hts⟩ hl.1 (c_X5_isText l z2 (by omega)) k_X5_isText u_ml_RX5_87 rfl rfl (Nat.le_of_ble_eq_true rfl) ⟨Nat.le_of_ble_eq_true rfl, Nat.le_of_ble_eq_true rfl⟩ ⟨Nat.le_of_ble_eq_true rfl, Nat.le_of_ble_eq_true rfl⟩ dX5_join_8 ?_
          refine x_top (q1 := False) ⟨fun h => absurd h (by omega), False.elim⟩ ?_
          refine x_ifb_eq (tgt := 21) hx hb dX5_join_11 (by decide)  (fun c_11 => ?_) (fun c_11 => absurd c_11 id)
          refine x_sipush hx hb dX5_join_21 (by decide +kernel) ?_
          exact xe_i hx hb hrt hlocks hP hS ((by unfold am_join; simp only [Int.toNat_natCast]; simp only [sp_get_s hS_t1]; rw [sp_if_t (by omega)]; exact ⟨rfl, _, hM, hR, ho⟩)) dX5_join_24
  · rcases Classical.em (0 ≤ z2 ∧ z2 < 8) with hx_z2 | hx_z2
    · obtain ⟨t2, rfl⟩ : ∃ q : Nat, z2 = (q : Int) := ⟨z2.toNat, by omega⟩
      have h_t2 : t2 < 8 := by omega
      rcases hS_t2 : S.2.1 t2 with _ | r_t2
      · rcases Classical.em (0 ≤ z3 ∧ z3 < 8) with hx_z3 | hx_z3
        · obtain ⟨t3, rfl⟩ : ∃ q : Nat, z3 = (q : Int) := ⟨z3.toNat, by omega⟩
          have h_t3 : t3 < 8 := by omega
          have hz_t2 : M.toldMany t2 = -1 := by have q := hR.2.1 t2 h_t2; rw [hS_t2] at q; exact q
          refine lv_iload_n hx hb dX5_join_0 rfl (lv_at hl 1 rfl) ?_
          refine xt_i (As := [.int (xI z1)]) (rest := []) ⟨hx, hb, hml, hown, hts⟩ hl.1 (c_X5_isText l z1 (by omega)) k_X5_isText u_ml_RX5_87 rfl rfl (Nat.le_of_ble_eq_true rfl) ⟨Nat.le_of_ble_eq_true rfl, Nat.le_of_ble_eq_true rfl⟩ ⟨Nat.le_of_ble_eq_true rfl, Nat.le_of_ble_eq_true rfl⟩ dX5_join_1 ?_
          refine x_top (q1 := False) ⟨fun h => absurd h (by omega), False.elim⟩ ?_
          refine x_ifb_eq (tgt := 21) hx hb dX5_join_4 (by decide)  (fun c_4 => ?_) (fun c_4 => absurd c_4 id)
          refine x_sipush hx hb dX5_join_21 (by decide +kernel) ?_
          exact xe_i hx hb hrt hlocks hP hS ((by unfold am_join; simp only [Int.toNat_natCast]; rw [sp_if_t (by omega)]; exact ⟨rfl, _, hM, hR, ho⟩)) dX5_join_24
        · have hz_t2 : M.toldMany t2 = -1 := by have q := hR.2.1 t2 h_t2; rw [hS_t2] at q; exact q
          refine lv_iload_n hx hb dX5_join_0 rfl (lv_at hl 1 rfl) ?_
          refine xt_i (As := [.int (xI z1)]) (rest := []) ⟨hx, hb, hml, hown, hts⟩ hl.1 (c_X5_isText l z1 (by omega)) k_X5_isText u_ml_RX5_87 rfl rfl (Nat.le_of_ble_eq_true rfl) ⟨Nat.le_of_ble_eq_true rfl, Nat.le_of_ble_eq_true rfl⟩ ⟨Nat.le_of_ble_eq_true rfl, Nat.le_of_ble_eq_true rfl⟩ dX5_join_1 ?_
          refine x_top (q1 := False) ⟨fun h => absurd h (by omega), False.elim⟩ ?_
          refine x_ifb_eq (tgt := 21) hx hb dX5_join_4 (by decide)  (fun c_4 => ?_) (fun c_4 => absurd c_4 id)
          refine x_sipush hx hb dX5_join_21 (by decide +kernel) ?_
          exact xe_i hx hb hrt hlocks hP hS ((by unfold am_join; simp only [Int.toNat_natCast]; rw [sp_if_t (by omega)]; exact ⟨rfl, _, hM, hR, ho⟩)) dX5_join_24
      · rcases Classical.em (0 ≤ z3 ∧ z3 < 8) with hx_z3 | hx_z3
        · obtain ⟨t3, rfl⟩ : ∃ q : Nat, z3 = (q : Int) := ⟨z3.toNat, by omega⟩
          have h_t3 : t3 < 8 := by omega
          have hT_t2 : M.toldMany t2 = (r_t2.1 : Int) ∧ ∀ k : Nat, k < r_t2.1 → M.told (200 * t2 + k) = r_t2.2 k := by have q := hR.2.1 t2 h_t2; rw [hS_t2] at q; exact q
          have hz_t2 := hT_t2.1
          have hm_t2 := (hW.2.1 t2 r_t2 h_t2 hS_t2).1
          have hfb_t2 := (hW.2.1 t2 r_t2 h_t2 hS_t2).2
          refine lv_iload_n hx hb dX5_join_0 rfl (lv_at hl 1 rfl) ?_
          refine xt_i (As := [.int (xI z1)]) (rest := []) ⟨hx, hb, hml, hown, hts⟩ hl.1 (c_X5_isText l z1 (by omega)) k_X5_isText u_ml_RX5_87 rfl rfl (Nat.le_of_ble_eq_true rfl) ⟨Nat.le_of_ble_eq_true rfl, Nat.le_of_ble_eq_true rfl⟩ ⟨Nat.le_of_ble_eq_true rfl, Nat.le_of_ble_eq_true rfl⟩ dX5_join_1 ?_
          refine x_top (q1 := False) ⟨fun h => absurd h (by omega), False.elim⟩ ?_
          refine x_ifb_eq (tgt := 21) hx hb dX5_join_4 (by decide)  (fun c_4 => ?_) (fun c_4 => absurd c_4 id)
          refine x_sipush hx hb dX5_join_21 (by decide +kernel) ?_
          exact xe_i hx hb hrt hlocks hP hS ((by unfold am_join; simp only [Int.toNat_natCast]; simp only [sp_get_s hS_t2]; rw [sp_if_t (by omega)]; exact ⟨rfl, _, hM, hR, ho⟩)) dX5_join_24
        · have hT_t2 : M.toldMany t2 = (r_t2.1 : Int) ∧ ∀ k : Nat, k < r_t2.1 → M.told (200 * t2 + k) = r_t2.2 k := by have q := hR.2.1 t2 h_t2; rw [hS_t2] at q; exact q
          have hz_t2 := hT_t2.1
          have hm_t2 := (hW.2.1 t2 r_t2 h_t2 hS_t2).1
          have hfb_t2 := (hW.2.1 t2 r_t2 h_t2 hS_t2).2
          refine lv_iload_n hx hb dX5_join_0 rfl (lv_at hl 1 rfl) ?_
          refine xt_i (As := [.int (xI z1)]) (rest := []) ⟨hx, hb, hml, hown, hts⟩ hl.1 (c_X5_isText l z1 (by omega)) k_X5_isText u_ml_RX5_87 rfl rfl (Nat.le_of_ble_eq_true rfl) ⟨Nat.le_of_ble_eq_true rfl, Nat.le_of_ble_eq_true rfl⟩ ⟨Nat.le_of_ble_eq_true rfl, Nat.le_of_ble_eq_true rfl⟩ dX5_join_1 ?_
          refine x_top (q1 := False) ⟨fun h => absurd h (by omega), False.elim⟩ ?_
          refine x_ifb_eq (tgt := 21) hx hb dX5_join_4 (by decide)  (fun c_4 => ?_) (fun c_4 => absurd c_4 id)
          refine x_sipush hx hb dX5_join_21 (by decide +kernel) ?_
          exact xe_i hx hb hrt hlocks hP hS ((by unfold am_join; simp only [Int.toNat_natCast]; simp only [sp_get_s hS_t2]; rw [sp_if_t (by omega)]; exact ⟨rfl, _, hM, hR, ho⟩)) dX5_join_24
    · rcases Classical.em (0 ≤ z3 ∧ z3 < 8) with hx_z3 | hx_z3
      · obtain ⟨t3, rfl⟩ : ∃ q : Nat, z3 = (q : Int) := ⟨z3.toNat, by omega⟩
        have h_t3 : t3 < 8 := by omega
        refine lv_iload_n hx hb dX5_join_0 rfl (lv_at hl 1 rfl) ?_
        refine xt_i (As := [.int (xI z1)]) (rest := []) ⟨hx, hb, hml, hown, hts⟩ hl.1 (c_X5_isText l z1 (by omega)) k_X5_isText u_ml_RX5_87 rfl rfl (Nat.le_of_ble_eq_true rfl) ⟨Nat.le_of_ble_eq_true rfl, Nat.le_of_ble_eq_true rfl⟩ ⟨Nat.le_of_ble_eq_true rfl, Nat.le_of_ble_eq_true rfl⟩ dX5_join_1 ?_
        refine x_top (q1 := False) ⟨fun h => absurd h (by omega), False.elim⟩ ?_
        refine x_ifb_eq (tgt := 21) hx hb dX5_join_4 (by decide)  (fun c_4 => ?_) (fun c_4 => absurd c_4 id)
        refine x_sipush hx hb dX5_join_21 (by decide +kernel) ?_
        exact xe_i hx hb hrt hlocks hP hS ((by unfold am_join; simp only [Int.toNat_natCast]; rw [sp_if_t (by omega)]; exact ⟨rfl, _, hM, hR, ho⟩)) dX5_join_24
      · refine lv_iload_n hx hb dX5_join_0 rfl (lv_at hl 1 rfl) ?_
        refine xt_i (As := [.int (xI z1)]) (rest := []) ⟨hx, hb, hml, hown, hts⟩ hl.1 (c_X5_isText l z1 (by omega)) k_X5_isText u_ml_RX5_87 rfl rfl (Nat.le_of_ble_eq_true rfl) ⟨Nat.le_of_ble_eq_true rfl, Nat.le_of_ble_eq_true rfl⟩ ⟨Nat.le_of_ble_eq_true rfl, Nat.le_of_ble_eq_true rfl⟩ dX5_join_1 ?_
        refine x_top (q1 := False) ⟨fun h => absurd h (by omega), False.elim⟩ ?_
        refine x_ifb_eq (tgt := 21) hx hb dX5_join_4 (by decide)  (fun c_4 => ?_) (fun c_4 => absurd c_4 id)
        refine x_sipush hx hb dX5_join_21 (by decide +kernel) ?_
        exact xe_i hx hb hrt hlocks hP hS ((by unfold am_join; rw [sp_if_t (by omega)]; exact ⟨rfl, _, hM, hR, ho⟩)) dX5_join_24
