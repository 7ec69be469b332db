set_option maxRecDepth 20000 in
theorem c_X5_sign (l : Launch) (D : va_G) (cA : Nat → ClassId) (n : Nat) (ad : Nat → Nat) (en : Nat → va_E) (sz : Nat) (hn : 68 ≤ n) {M : MO} (hM : MW cA ad en M) {S : xSt} (hW : WF S) (hR : MR S M) (z1 : Int) (hz1 : -2147483648 ≤ z1 ∧ z1 ≤ 2147483647) (z2 : Int) (hz2 : -2147483648 ≤ z2 ∧ z2 ≤ 2147483647) : Met l yX5_sign (Cond.code yX5_sign cX5_sign 3 (some .int) :: xU) (xrm 2 48) (va_Pc [.ref (ad 53), .int (xI z1), .int (xI z2)] (xM D cA n ad en sz)) (va_Qi (fun r u => r = xI (am_sign S z1 z2).1 ∧ ∃ M' : MO, MW cA ad u M' ∧ MR (am_sign S z1 z2).2 M' ∧ xO 53 68 en u) (xE D n ad) (xA n ad sz)) 0 0 (xA n ad sz) := by
  refine xmet (by decide) (Nat.le_of_ble_eq_true rfl) (fun p e s mm args below meth c ls hx hb hrt hml hown hts hlocks hname hB hl => ?_)
  obtain ⟨⟨hP, hK, hN⟩, hsz, hDt⟩ := hB
  have hD : xD (xA n ad sz) n ad := xD_self hDt sz
  have hA : ∀ q : Nat, s.heap.size ≤ q → xA n ad sz q := fun q h => Or.inr (by rw [← hsz]; exact h)
  have hS : va_S (xA n ad sz) s.heap s.heap [] := va_S.rf
  have hown : s.vm.findClass RX5 = some mm.cls := hown
  have hl : lv_has ls 3 [(0, .ref (ad 53)), (1, .int (xI z1)), (2, .int (xI z2))] := hl
  have ho : xO 53 68 en en := xO.rf
  rcases Classical.em (0 ≤ z1 ∧ z1 < 4) with hx_z1 | hx_z1
  · obtain ⟨b1, rfl⟩ : ∃ q : Nat, z1 = (q : Int) := ⟨z1.toNat, by omega⟩
    have h_b1 : b1 < 4 := by omega
    have hm_b1 := (hW.1 b1 h_b1).1
    have hfb_b1 := (hW.1 b1 h_b1).2
    have hB_b1 := hR.1 b1 h_b1
    have hz_b1 := hB_b1.1
    refine lv_iload_n hx hb dX5_sign_0 rfl (lv_at hl 1 rfl) ?_
    refine xt_i (As := [.int (xI (b1 : Int))]) (rest := []) ⟨hx, hb, hml, hown, hts⟩ hl.1 (c_X5_isBuilder l (b1 : Int) (by omega)) k_X5_isBuilder u_ml_RX5_70 rfl rfl (Nat.le_of_ble_eq_true rfl) ⟨Nat.le_of_ble_eq_true rfl, Nat.le_of_ble_eq_true rfl⟩ ⟨Nat.le_of_ble_eq_true rfl, Nat.le_of_ble_eq_true rfl⟩ dX5_sign_1 ?_
    refine x_top (q1 := True) ⟨fun _ => trivial, fun _ => by omega⟩ ?_
    refine x_ifb_ne (tgt := 11) hx hb dX5_sign_4 (by decide)  (fun c_4 => ?_) (fun c_4 => absurd trivial c_4)
    refine lv_iload_n hx hb dX5_sign_11 rfl (lv_at hl 2 rfl) ?_
    refine xt_i (As := [.int (xI z2)]) (rest := []) ⟨hx, hb, hml, hown, hts⟩ hl.1 (c_X5_isSign l z2 (by omega)) k_X5_isSign u_ml_RX5_74 rfl rfl (Nat.le_of_ble_eq_true rfl) ⟨Nat.le_of_ble_eq_true rfl, Nat.le_of_ble_eq_true rfl⟩ ⟨Nat.le_of_ble_eq_true rfl, Nat.le_of_ble_eq_true rfl⟩ dX5_sign_12 ?_
    refine x_ifb_ne (tgt := 22) hx hb dX5_sign_15 (by decide)  (fun c_15 => ?_) (fun c_15 => ?_)
    · refine lv_aload_n hx hb dX5_sign_22 rfl (lv_at hl 0 rfl) ?_
      refine lv_iload_n hx hb dX5_sign_23 rfl (lv_at hl 2 rfl) ?_
      refine xm_v (i := 53) (As := [.int (xI z2)]) (rest := []) ⟨hx, hb, hml, hown, hts⟩ hl.1 (c_X5_laySign l D cA n ad en _ hn hM z2) k_X5_laySign u_ml_RX5_77 hK hN hP (by omega) hM.1 rfl rfl rfl rfl (Nat.le_of_ble_eq_true rfl) ⟨Nat.le_of_ble_eq_true rfl, Nat.le_of_ble_eq_true rfl⟩ ⟨Nat.le_of_ble_eq_true rfl, Nat.le_of_ble_eq_true rfl⟩ dX5_sign_24 hD hS hA (fun en1 H locs hp1 hP hS => ?_)
      obtain ⟨hM, ho2⟩ := hp1
      have hM : MW cA ad en1 (mO M.built M.builtMany M.told M.toldMany (sp_up M.row 0 z2) 1 M.figures M.partText M.partFrom M.partMany M.parts M.cut M.cutMany M.isCut M.cutGives M.cutAt M.h) := hM
      have ho := ho.tr ho2
      refine lv_aload_n hx hb dX5_sign_27 rfl (lv_at hl 0 rfl) ?_
      refine lv_iload_n hx hb dX5_sign_28 rfl (lv_at hl 1 rfl) ?_
      refine xm_i (i := 53) (As := [.int (xI (b1 : Int))]) (rest := []) ⟨hx, hb, hml, hown, hts⟩ hl.1 (c_X5_append l D cA n ad en1 _ hn hM b1 h_b1 (S.1 b1).1 hz_b1 hm_b1 1 (show 1 = ((1 : Nat) : Int) from by omega) (by omega)) k_X5_append u_ml_RX5_81 hK hN hP (by omega) (show en1 53 = .inr (5, [.ref (ad 54), .ref (ad 55), .ref (ad 56), .ref (ad 57), .ref (ad 58), .int (xI 1), .ref (ad 59), .ref (ad 60), .ref (ad 61), .ref (ad 62), .int (xI M.parts), .ref (ad 63), .ref (ad 64), .ref (ad 65), .ref (ad 66), .ref (ad 67), .long M.h]) from hM.1) rfl rfl rfl rfl (Nat.le_of_ble_eq_true rfl) ⟨Nat.le_of_ble_eq_true rfl, Nat.le_of_ble_eq_true rfl⟩ ⟨Nat.le_of_ble_eq_true rfl, Nat.le_of_ble_eq_true rfl⟩ dX5_sign_29 hD hS hA (fun r2 en2 H locs hp2 hP hS => ?_)
      rcases hp2 with ⟨hfu, hrv, hu⟩ | ⟨hfu, z7, F7, hrv, hz7, hF7, hG7, hM, ho2⟩
      · subst hrv
        rw [hu] at hP
        exact xe_i hx hb hrt hlocks hP hS ((by unfold am_sign; simp only [Int.toNat_natCast]; rw [sp_if_f (by omega), sp_if_f (by omega)]; have q9 := m_full hR (b := b1) (a := (S.1 b1).1) (d := (S.1 b1).1) (k9 := 1) (r0 := ((1, fun _ => z2) : xRow)) (by omega) (by omega) (by first | rfl | omega | (dsimp only; omega)) hfu; exact ⟨q9.1, _, hM, q9.2, ho⟩)) dX5_sign_32
      · subst hrv
        have ho := ho.tr ho2
        have hM : MW cA ad en2 (mO F7 (sp_up M.builtMany b1 z7) M.told M.toldMany (sp_up M.row 0 z2) 1 M.figures M.partText M.partFrom M.partMany M.parts M.cut M.cutMany M.isCut M.cutGives M.cutAt M.h) := hM
        exact xe_i hx hb hrt hlocks hP hS ((by unfold am_sign; simp only [Int.toNat_natCast]; rw [sp_if_f (by omega), sp_if_f (by omega)]; have q9 := m_edt hR hW h_b1 (a := (S.1 b1).1) (d := (S.1 b1).1) (k9 := 1) (r0 := ((1, fun _ => z2) : xRow)) (by omega) (by omega) (by first | rfl | omega | (dsimp only; omega)) hfu hz7 hF7 hG7 (fun k hk => by rw [show k = 0 by omega]; exact sp_up_s M.row 0 z2); exact ⟨q9.1, _, hM, q9.2, ho⟩)) dX5_sign_32
    · refine x_sipush hx hb dX5_sign_18 (by decide +kernel) ?_
      exact xe_i hx hb hrt hlocks hP hS ((by unfold am_sign; simp only [Int.toNat_natCast]; rw [sp_if_f (by omega), sp_if_t (by omega)]; exact ⟨rfl, _, hM, hR, ho⟩)) dX5_sign_21
  · refine lv_iload_n hx hb dX5_sign_0 rfl (lv_at hl 1 rfl) ?_
    refine xt_i (As := [.int (xI z1)]) (rest := []) ⟨hx, hb, hml, hown, hts⟩ hl.1 (c_X5_isBuilder l z1 (by omega)) k_X5_isBuilder u_ml_RX5_70 rfl rfl (Nat.le_of_ble_eq_true rfl) ⟨Nat.le_of_ble_eq_true rfl, Nat.le_of_ble_eq_true rfl⟩ ⟨Nat.le_of_ble_eq_true rfl, Nat.le_of_ble_eq_true rfl⟩ dX5_sign_1 ?_
    refine x_top (q1 := False) ⟨fun h => absurd h (by omega), False.elim⟩ ?_
    refine x_ifb_ne (tgt := 11) hx hb dX5_sign_4 (by decide)  (fun c_4 => absurd c_4 id) (fun c_4 => ?_)
    refine x_sipush hx hb dX5_sign_7 (by decide +kernel) ?_
    exact xe_i hx hb hrt hlocks hP hS ((by unfold am_sign; rw [sp_if_t (by omega)]; exact ⟨rfl, _, hM, hR, ho⟩)) dX5_sign_10

set_option maxRecDepth 20000 in
theorem c_X5_signs (l : Launch) (D : va_G) (cA : Nat → ClassId) (n : Nat) (ad : Nat → Nat) (en : Nat → va_E) (sz : Nat) (hn : 68 ≤ n) {M : MO} (hM : MW cA ad en M) {S : xSt} (hW : WF S) (hR : MR S M) (z1 : Int) (hz1 : -2147483648 ≤ z1 ∧ z1 ≤ 2147483647) (z2 : Int) (hz2 : -2147483648 ≤ z2 ∧ z2 ≤ 2147483647) (z3 : Int64) : Met l yX5_signs (Cond.code yX5_signs cX5_signs 6 (some .int) :: xU) (xrm 2 48) (va_Pc [.ref (ad 53), .int (xI z1), .int (xI z2), .long z3] (xM D cA n ad en sz)) (va_Qi (fun r u => r = xI (am_signs S z1 z2 z3).1 ∧ ∃ M' : MO, MW cA ad u M' ∧ MR (am_signs S z1 z2 z3).2 M' ∧ xO 53 68 en u) (xE D n ad) (xA n ad sz)) 0 0 (xA n ad sz) := by
  refine xmet (by decide) (Nat.le_of_ble_eq_true rfl) (fun p e s mm args below meth c ls hx hb hrt hml hown hts hlocks hname hB hl => ?_)
  obtain ⟨⟨hP, hK, hN⟩, hsz, hDt⟩ := hB
  have hD : xD (xA n ad sz) n ad := xD_self hDt sz
  have hA : ∀ q : Nat, s.heap.size ≤ q → xA n ad sz q := fun q h => Or.inr (by rw [← hsz]; exact h)
  have hS : va_S (xA n ad sz) s.heap s.heap [] := va_S.rf
  have hown : s.vm.findClass RX5 = some mm.cls := hown
  have hl : lv_has ls 6 [(0, .ref (ad 53)), (1, .int (xI z1)), (2, .int (xI z2)), (3, .long z3)] := hl
  have ho : xO 53 68 en en := xO.rf
  rcases Classical.em (0 ≤ z1 ∧ z1 < 4) with hx_z1 | hx_z1
  · obtain ⟨b1, rfl⟩ : ∃ q : Nat, z1 = (q : Int) := ⟨z1.toNat, by omega⟩
    have h_b1 : b1 < 4 := by omega
    have hm_b1 := (hW.1 b1 h_b1).1
    have hfb_b1 := (hW.1 b1 h_b1).2
    have hB_b1 := hR.1 b1 h_b1
    have hz_b1 := hB_b1.1
    refine lv_iload_n hx hb dX5_signs_0 rfl (lv_at hl 1 rfl) ?_
    refine xt_i (As := [.int (xI (b1 : Int))]) (rest := []) ⟨hx, hb, hml, hown, hts⟩ hl.1 (c_X5_isBuilder l (b1 : Int) (by omega)) k_X5_isBuilder u_ml_RX5_70 rfl rfl (Nat.le_of_ble_eq_true rfl) ⟨Nat.le_of_ble_eq_true rfl, Nat.le_of_ble_eq_true rfl⟩ ⟨Nat.le_of_ble_eq_true rfl, Nat.le_of_ble_eq_true rfl⟩ dX5_signs_1 ?_
    refine x_top (q1 := True) ⟨fun _ => trivial, fun _ => by omega⟩ ?_
    refine x_ifb_ne (tgt := 11) hx hb dX5_signs_4 (by decide)  (fun c_4 => ?_) (fun c_4 => absurd trivial c_4)
    refine lv_iload_n hx hb dX5_signs_11 rfl (lv_at hl 2 rfl) ?_
    refine x_i2l hx hb dX5_signs_12 (by omega) ?_
    refine lv_lconst (v := xL 0) hx hb dX5_signs_13 (by decide +kernel) ?_
    refine x_ldc2 hx hb hown (hts _ u_ko_RX5_85) (k := 8) (by decide +kernel) dX5_signs_14 ?_
    refine xt_i (As := [.long (xL z2), .long (xL 0), .long (xL 8)]) (rest := []) ⟨hx, hb, hml, hown, hts⟩ hl.1 (c_X5_in l z2 0 8 (by omega) (by omega) (by omega)) k_X5_in u_ml_RX5_54 rfl rfl (Nat.le_of_ble_eq_true rfl) ⟨Nat.le_of_ble_eq_true rfl, Nat.le_of_ble_eq_true rfl⟩ ⟨Nat.le_of_ble_eq_true rfl, Nat.le_of_ble_eq_true rfl⟩ dX5_signs_17 ?_
    refine x_ifb_ne (tgt := 27) hx hb dX5_signs_20 (by decide)  (fun c_20 => ?_) (fun c_20 => ?_)
    · obtain ⟨k2, hv_z2⟩ : ∃ q : Nat, z2 = (q : Int) := ⟨Int.toNat z2, by omega⟩
      have hl : lv_has ls 6 [(0, .ref (ad 53)), (1, .int (xI (b1 : Int))), (2, .int (xI (k2 : Int))), (3, .long z3)] := by rw [← hv_z2]; exact hl
      refine lv_aload_n hx hb dX5_signs_27 rfl (lv_at hl 0 rfl) ?_
      refine lv_iload_n hx hb dX5_signs_28 rfl (lv_at hl 2 rfl) ?_
      refine x_put (T := TX5) (N := 17) (ty := .int) hx hb hts uX5 tyX5 tyX5_ok nmX5 hown hK hP hD hS (i := 53) (by omega) hM.1 rfl 5 (by decide) u_fl_RX5_62 rfl (by decide +kernel) rfl rfl (by show 5 < 17; decide) dX5_signs_29 (fun H locs hP hS => ?_)
      obtain ⟨en1, he1⟩ : ∃ z, z = va_up en 53 (.inr (5, [.ref (ad 54), .ref (ad 55), .ref (ad 56), .ref (ad 57), .ref (ad 58), .int (xI (k2 : Int)), .ref (ad 59), .ref (ad 60), .ref (ad 61), .ref (ad 62), .int (xI M.parts), .ref (ad 63), .ref (ad 64), .ref (ad 65), .ref (ad 66), .ref (ad 67), .long M.h])) := ⟨_, rfl⟩
      have hP : va_P D vwCl (xw n ad en1) H := by rw [he1]; exact hP
      have hM : MW cA ad en1 (mO M.built M.builtMany M.told M.toldMany M.row (k2 : Int) M.figures M.partText M.partFrom M.partMany M.parts M.cut M.cutMany M.isCut M.cutGives M.cutAt M.h) := by rw [he1]; exact hM.s_rowMany (k2 : Int)
      have ho : xO 53 68 en en1 := by rw [he1]; exact ho.up (by omega) (by omega)
      refine x_iconst hx hb dX5_signs_32 ?_
      refine lv_istore (lv' := [(5, .int (xI 0)), (0, .ref (ad 53)), (1, .int (xI (b1 : Int))), (2, .int (xI (k2 : Int))), (3, .long z3)]) hx hb dX5_signs_33 hl (by decide) rfl (fun ls hl => ?_)
      have L35 : ∀ (nn : Nat) (K : Nat) (F : Nat → Int) (ew35 : Nat → va_E) (H : Heap) (locs : List Loc), (K ≤ k2) → (∀ k : Nat, k < K → F k = sp_by z3 (k2 - 1 - k)) → (k2 - K) < nn → (MW cA ad ew35 (mO M.built M.builtMany M.told M.toldMany F (k2 : Int) M.figures M.partText M.partFrom M.partMany M.parts M.cut M.cutMany M.isCut M.cutGives M.cutAt M.h)) → (xO 53 68 en ew35) → va_P D vwCl (xw n ad ew35) H → va_S (xA n ad sz) s.heap H locs → ∀ ls : Array Slot, lv_has ls 6 [(0, .ref (ad 53)), (1, .int (xI (b1 : Int))), (2, .int (xI (k2 : Int))), (3, .long z3), (5, .int (xI (K : Int)))] → W p l e (xrm 2 48) s mm args below meth c H locs 0 0 (MQ below (va_Qi (fun r u => r = xI (am_signs S (b1 : Int) z2 z3).1 ∧ ∃ M' : MO, MW cA ad u M' ∧ MR (am_signs S (b1 : Int) z2 z3).2 M' ∧ xO 53 68 en u) (xE D n ad) (xA n ad sz)) args s 0 0 (xA n ad sz)) (F0 mm 35 ls []) := by
        intro nn
        induction nn with
        | zero =>
          intro K F ew35 H locs hk8 hF hmm hM ho hP hS ls hl
          exact absurd hmm (Nat.not_lt_zero _)
        | succ nn ih =>
          intro K F ew35 H locs hk8 hF hmm hM ho hP hS ls hl
          refine lv_iload hx hb dX5_signs_35 (lv_at hl 4 rfl) ?_
          refine lv_iload_n hx hb dX5_signs_37 rfl (lv_at hl 2 rfl) ?_
          refine x_icmp_ge (tgt := 70) hx hb dX5_signs_38 (by decide) (by omega) (fun c_38 => ?_) (fun c_38 => ?_)
          · refine lv_aload_n hx hb dX5_signs_70 rfl (lv_at hl 0 rfl) ?_
            refine lv_iload_n hx hb dX5_signs_71 rfl (lv_at hl 1 rfl) ?_
            refine xm_i (i := 53) (As := [.int (xI (b1 : Int))]) (rest := []) ⟨hx, hb, hml, hown, hts⟩ hl.1 (c_X5_append l D cA n ad ew35 _ hn hM b1 h_b1 (S.1 b1).1 hz_b1 hm_b1 k2 (show (k2 : Int) = ((k2 : Nat) : Int) from by omega) (by omega)) k_X5_append u_ml_RX5_81 hK hN hP (by omega) (show ew35 53 = .inr (5, [.ref (ad 54), .ref (ad 55), .ref (ad 56), .ref (ad 57), .ref (ad 58), .int (xI (k2 : Int)), .ref (ad 59), .ref (ad 60), .ref (ad 61), .ref (ad 62), .int (xI M.parts), .ref (ad 63), .ref (ad 64), .ref (ad 65), .ref (ad 66), .ref (ad 67), .long M.h]) from hM.1) rfl rfl rfl rfl (Nat.le_of_ble_eq_true rfl) ⟨Nat.le_of_ble_eq_true rfl, Nat.le_of_ble_eq_true rfl⟩ ⟨Nat.le_of_ble_eq_true rfl, Nat.le_of_ble_eq_true rfl⟩ dX5_signs_72 hD hS hA (fun r2 en2 H locs hp2 hP hS => ?_)
            rcases hp2 with ⟨hfu, hrv, hu⟩ | ⟨hfu, z7, F7, hrv, hz7, hF7, hG7, hM, ho2⟩
            · subst hrv
              rw [hu] at hP
              exact xe_i hx hb hrt hlocks hP hS ((by unfold am_signs; simp only [Int.toNat_natCast]; rw [sp_if_f (by omega), sp_if_f (by omega)]; (try rw [show Int.toNat z2 = k2 by omega]); have q9 := m_full hR (b := b1) (a := (S.1 b1).1) (d := (S.1 b1).1) (k9 := k2) (r0 := ((k2, fun q => sp_by z3 (k2 - 1 - q)) : xRow)) (by omega) (by omega) (by first | rfl | omega | (dsimp only; omega)) hfu; exact ⟨q9.1, _, hM, q9.2, ho⟩)) dX5_signs_75
            · subst hrv
              have ho := ho.tr ho2
              have hM : MW cA ad en2 (mO F7 (sp_up M.builtMany b1 z7) M.told M.toldMany F (k2 : Int) M.figures M.partText M.partFrom M.partMany M.parts M.cut M.cutMany M.isCut M.cutGives M.cutAt M.h) := hM
              exact xe_i hx hb hrt hlocks hP hS ((by unfold am_signs; simp only [Int.toNat_natCast]; rw [sp_if_f (by omega), sp_if_f (by omega)]; (try rw [show Int.toNat z2 = k2 by omega]); have q9 := m_edt hR hW h_b1 (a := (S.1 b1).1) (d := (S.1 b1).1) (k9 := k2) (r0 := ((k2, fun q => sp_by z3 (k2 - 1 - q)) : xRow)) (by omega) (by omega) (by first | rfl | omega | (dsimp only; omega)) hfu hz7 hF7 hG7 (fun k hk => hF k (by omega)); exact ⟨q9.1, _, hM, q9.2, ho⟩)) dX5_signs_75
          · refine lv_aload_n hx hb dX5_signs_41 rfl (lv_at hl 0 rfl) ?_
            refine x_get (T := TX5) (N := 17) hx hb hts uX5 hown hK hP (i := 53) (by omega) (show ew35 53 = .inr (5, [.ref (ad 54), .ref (ad 55), .ref (ad 56), .ref (ad 57), .ref (ad 58), .int (xI (k2 : Int)), .ref (ad 59), .ref (ad 60), .ref (ad 61), .ref (ad 62), .int (xI M.parts), .ref (ad 63), .ref (ad 64), .ref (ad 65), .ref (ad 66), .ref (ad 67), .long M.h]) from hM.1) rfl 4 (by decide) u_fl_RX5_22 rfl dX5_signs_42 ?_
            refine lv_iload hx hb dX5_signs_45 (lv_at hl 4 rfl) ?_
            refine lv_lload_n hx hb dX5_signs_47 rfl (lv_at hl 3 rfl) ?_
            refine x_bipush hx hb dX5_signs_48 (by decide +kernel) ?_
            refine lv_iload_n hx hb dX5_signs_50 rfl (lv_at hl 2 rfl) ?_
            refine x_iconst hx hb dX5_signs_51 ?_
            refine x_isub hx hb dX5_signs_52 ?_
            refine lv_iload hx hb dX5_signs_53 (lv_at hl 4 rfl) ?_
            refine x_isub hx hb dX5_signs_55 ?_
            refine x_imul hx hb dX5_signs_56 ?_
            refine x_to (8 * ((k2 - 1 - K : Nat) : Int)) (by omega) ?_
            refine lv_lshr hx hb dX5_signs_57 rfl ?_
            refine x_ldc2 hx hb hown (hts _ u_ko_RX5_60) (k := 255) (by decide +kernel) dX5_signs_58 ?_
            refine lv_land hx hb dX5_signs_61 ?_
            refine lv_l2i hx hb dX5_signs_62 rfl ?_
            refine x_toi (sp_by z3 (k2 - 1 - K)) (sp_by_s z3 (by omega)) ?_
            have hbb := sp_by_b z3 (k2 - 1 - K)
            refine x_ist hx hb hK hP hD hS (i := 58) (by omega) hM.2.2.2.2.2.1 (by omega) dX5_signs_63 (fun H locs hP hS => ?_)
            obtain ⟨en3, he3⟩ : ∃ z, z = va_up ew35 58 (.inl (cA 0, 220, .inl (upd (fun k => xI (F k)) K (xI (sp_by z3 (k2 - 1 - K)))))) := ⟨_, rfl⟩
            have hP : va_P D vwCl (xw n ad en3) H := by rw [he3]; exact hP
            have hM : MW cA ad en3 (mO M.built M.builtMany M.told M.toldMany (sp_up F K (sp_by z3 (k2 - 1 - K))) (k2 : Int) M.figures M.partText M.partFrom M.partMany M.parts M.cut M.cutMany M.isCut M.cutGives M.cutAt M.h) := by rw [he3]; exact hM.u_row K (sp_by z3 (k2 - 1 - K))
            have ho : xO 53 68 en en3 := by rw [he3]; exact ho.up (by omega) (by omega)
            refine x_iinc (lv' := [(5, .int (xI ((K : Int) + 1))), (0, .ref (ad 53)), (1, .int (xI (b1 : Int))), (2, .int (xI (k2 : Int))), (3, .long z3)]) (k := 4) hx hb dX5_signs_64 hl rfl (by decide) rfl (fun ls hl => ?_)
            refine lv_goto (tgt := 35) hx hb dX5_signs_67 (by decide) ?_
            exact ih (K + 1) _ en3 _ _ (by omega) (fun k hk => by
      by_cases q : k = K
      · rw [q, sp_up_s]
      · rw [sp_up_n _ _ (by omega)]; exact hF k (by omega)) (by omega) hM ho hP hS ls (lv_sub hl [1, 2, 3, 4, 0] rfl)
      exact L35 _ 0 M.row en1 _ _ (Nat.zero_le _) (fun k hk => absurd hk (Nat.not_lt_zero _)) (Nat.lt_succ_self _) hM ho hP hS ls (lv_sub hl [1, 2, 3, 4, 0] rfl)
    · refine x_sipush hx hb dX5_signs_23 (by decide +kernel) ?_
      exact xe_i hx hb hrt hlocks hP hS ((by unfold am_signs; simp only [Int.toNat_natCast]; rw [sp_if_f (by omega), sp_if_t (by omega)]; exact ⟨rfl, _, hM, hR, ho⟩)) dX5_signs_26
  · refine lv_iload_n hx hb dX5_signs_0 rfl (lv_at hl 1 rfl) ?_
    refine xt_i (As := [.int (xI z1)]) (rest := []) ⟨hx, hb, hml, hown, hts⟩ hl.1 (c_X5_isBuilder l z1 (by omega)) k_X5_isBuilder u_ml_RX5_70 rfl rfl (Nat.le_of_ble_eq_true rfl) ⟨Nat.le_of_ble_eq_true rfl, Nat.le_of_ble_eq_true rfl⟩ ⟨Nat.le_of_ble_eq_true rfl, Nat.le_of_ble_eq_true rfl⟩ dX5_signs_1 ?_
    refine x_top (q1 := False) ⟨fun h => absurd h (by omega), False.elim⟩ ?_
    refine x_ifb_ne (tgt := 11) hx hb dX5_signs_4 (by decide)  (fun c_4 => absurd c_4 id) (fun c_4 => ?_)
    refine x_sipush hx hb dX5_signs_7 (by decide +kernel) ?_
    exact xe_i hx hb hrt hlocks hP hS ((by unfold am_signs; rw [sp_if_t (by omega)]; exact ⟨rfl, _, hM, hR, ho⟩)) dX5_signs_10

set_option maxRecDepth 20000 in
theorem c_X5_text (l : Launch) (D : va_G) (cA : Nat → ClassId) (n : Nat) (ad : Nat → Nat) (en : Nat → va_E) (sz : Nat) (hn : 68 ≤ n) {M : MO} (hM : MW cA ad en M) {S : xSt} (hW : WF S) (hR : MR S M) (z1 : Int) (hz1 : -2147483648 ≤ z1 ∧ z1 ≤ 2147483647) (z2 : Int) (hz2 : -2147483648 ≤ z2 ∧ z2 ≤ 2147483647) : Met l yX5_text (Cond.code yX5_text cX5_text 3 (some .int) :: xU) (xrm 2 48) (va_Pc [.ref (ad 53), .int (xI z1), .int (xI z2)] (xM D cA n ad en sz)) (va_Qi (fun r u => r = xI (am_text S z1 z2).1 ∧ ∃ M' : MO, MW cA ad u M' ∧ MR (am_text S z1 z2).2 M' ∧ xO 53 68 en u) (xE D n ad) (xA n ad sz)) 0 0 (xA n ad sz) := by
  refine xmet (by decide) (Nat.le_of_ble_eq_true rfl) (fun p e s mm args below meth c ls hx hb hrt hml hown hts hlocks hname hB hl => ?_)
  obtain ⟨⟨hP, hK, hN⟩, hsz, hDt⟩ := hB
  have hD : xD (xA n ad sz) n ad := xD_self hDt sz
  have hA : ∀ q : Nat, s.heap.size ≤ q → xA n ad sz q := fun q h => Or.inr (by rw [← hsz]; exact h)
  have hS : va_S (xA n ad sz) s.heap s.heap [] := va_S.rf
  have hown : s.vm.findClass RX5 = some mm.cls := hown
  have hl : lv_has ls 3 [(0, .ref (ad 53)), (1, .int (xI z1)), (2, .int (xI z2))] := hl
  have ho : xO 53 68 en en := xO.rf
  rcases Classical.em (0 ≤ z1 ∧ z1 < 4) with hx_z1 | hx_z1
  · obtain ⟨b1, rfl⟩ : ∃ q : Nat, z1 = (q : Int) := ⟨z1.toNat, by omega⟩
    have h_b1 : b1 < 4 := by omega
    rcases Classical.em (0 ≤ z2 ∧ z2 < 8) with hx_z2 | hx_z2
    · obtain ⟨t2, rfl⟩ : ∃ q : Nat, z2 = (q : Int) := ⟨z2.toNat, by omega⟩
      have h_t2 : t2 < 8 := by omega
      rcases hS_t2 : S.2.1 t2 with _ | r_t2
      · have hm_b1 := (hW.1 b1 h_b1).1
        have hfb_b1 := (hW.1 b1 h_b1).2
        have hB_b1 := hR.1 b1 h_b1
        have hz_b1 := hB_b1.1
        have hz_t2 : M.toldMany t2 = -1 := by have q := hR.2.1 t2 h_t2; rw [hS_t2] at q; exact q
        refine lv_iload_n hx hb dX5_text_0 rfl (lv_at hl 1 rfl) ?_
        refine xt_i (As := [.int (xI (b1 : Int))]) (rest := []) ⟨hx, hb, hml, hown, hts⟩ hl.1 (c_X5_isBuilder l (b1 : Int) (by omega)) k_X5_isBuilder u_ml_RX5_70 rfl rfl (Nat.le_of_ble_eq_true rfl) ⟨Nat.le_of_ble_eq_true rfl, Nat.le_of_ble_eq_true rfl⟩ ⟨Nat.le_of_ble_eq_true rfl, Nat.le_of_ble_eq_true rfl⟩ dX5_text_1 ?_
        refine x_top (q1 := True) ⟨fun _ => trivial, fun _ => by omega⟩ ?_
        refine x_ifb_eq (tgt := 14) hx hb dX5_text_4 (by decide)  (fun c_4 => absurd trivial c_4) (fun c_4 => ?_)
        refine lv_iload_n hx hb dX5_text_7 rfl (lv_at hl 2 rfl) ?_
        refine xt_i (As := [.int (xI (t2 : Int))]) (rest := []) ⟨hx, hb, hml, hown, hts⟩ hl.1 (c_X5_isText l (t2 : Int) (by omega)) k_X5_isText u_ml_RX5_87 rfl rfl (Nat.le_of_ble_eq_true rfl) ⟨Nat.le_of_ble_eq_true rfl, Nat.le_of_ble_eq_true rfl⟩ ⟨Nat.le_of_ble_eq_true rfl, Nat.le_of_ble_eq_true rfl⟩ dX5_text_8 ?_
        refine x_top (q1 := True) ⟨fun _ => trivial, fun _ => by omega⟩ ?_
        refine x_ifb_ne (tgt := 18) hx hb dX5_text_11 (by decide)  (fun c_11 => ?_) (fun c_11 => absurd trivial c_11)
        refine lv_aload_n hx hb dX5_text_18 rfl (lv_at hl 0 rfl) ?_
        refine lv_iload_n hx hb dX5_text_19 rfl (lv_at hl 2 rfl) ?_
        refine xm_v (i := 53) (As := [.int (xI (t2 : Int))]) (rest := []) ⟨hx, hb, hml, hown, hts⟩ hl.1 (c_X5_layText_none l D cA n ad en _ hn hM t2 h_t2 hz_t2) k_X5_layText u_ml_RX5_90 hK hN hP (by omega) hM.1 rfl rfl rfl rfl (Nat.le_of_ble_eq_true rfl) ⟨Nat.le_of_ble_eq_true rfl, Nat.le_of_ble_eq_true rfl⟩ ⟨Nat.le_of_ble_eq_true rfl, Nat.le_of_ble_eq_true rfl⟩ dX5_text_20 hD hS hA (fun en1 H locs hp1 hP hS => ?_)
        obtain ⟨F9, hF9, hM, ho2⟩ := hp1
        have hM : MW cA ad en1 (mO M.built M.builtMany M.told M.toldMany F9 ((4 : Nat) : Int) M.figures M.partText M.partFrom M.partMany M.parts M.cut M.cutMany M.isCut M.cutGives M.cutAt M.h) := hM
        have ho := ho.tr ho2
        refine lv_aload_n hx hb dX5_text_23 rfl (lv_at hl 0 rfl) ?_
        refine lv_iload_n hx hb dX5_text_24 rfl (lv_at hl 1 rfl) ?_
        refine xm_i (i := 53) (As := [.int (xI (b1 : Int))]) (rest := []) ⟨hx, hb, hml, hown, hts⟩ hl.1 (c_X5_append l D cA n ad en1 _ hn hM b1 h_b1 (S.1 b1).1 hz_b1 hm_b1 4 (show ((4 : Nat) : Int) = ((4 : Nat) : Int) from by omega) (by omega)) k_X5_append u_ml_RX5_81 hK hN hP (by omega) (show en1 53 = .inr (5, [.ref (ad 54), .ref (ad 55), .ref (ad 56), .ref (ad 57), .ref (ad 58), .int (xI ((4 : Nat) : Int)), .ref (ad 59), .ref (ad 60), .ref (ad 61), .ref (ad 62), .int (xI M.parts), .ref (ad 63), .ref (ad 64), .ref (ad 65), .ref (ad 66), .ref (ad 67), .long M.h]) from hM.1) rfl rfl rfl rfl (Nat.le_of_ble_eq_true rfl) ⟨Nat.le_of_ble_eq_true rfl, Nat.le_of_ble_eq_true rfl⟩ ⟨Nat.le_of_ble_eq_true rfl, Nat.le_of_ble_eq_true rfl⟩ dX5_text_25 hD hS hA (fun r2 en2 H locs hp2 hP hS => ?_)
        rcases hp2 with ⟨hfu, hrv, hu⟩ | ⟨hfu, z7, F7, hrv, hz7, hF7, hG7, hM, ho2⟩
        · subst hrv
          rw [hu] at hP
          exact xe_i hx hb hrt hlocks hP hS ((by unfold am_text; simp only [Int.toNat_natCast]; simp only [sp_told_n hS_t2]; rw [sp_if_f (by omega)]; have q9 := m_full hR (b := b1) (a := (S.1 b1).1) (d := (S.1 b1).1) (k9 := 4) (r0 := ((4, sp_four) : xRow)) (by omega) (by omega) (by first | rfl | omega | (dsimp only; omega)) hfu; exact ⟨q9.1, _, hM, q9.2, ho⟩)) dX5_text_28
        · subst hrv
          have ho := ho.tr ho2
          have hM : MW cA ad en2 (mO F7 (sp_up M.builtMany b1 z7) M.told M.toldMany F9 ((4 : Nat) : Int) M.figures M.partText M.partFrom M.partMany M.parts M.cut M.cutMany M.isCut M.cutGives M.cutAt M.h) := hM
          exact xe_i hx hb hrt hlocks hP hS ((by unfold am_text; simp only [Int.toNat_natCast]; simp only [sp_told_n hS_t2]; rw [sp_if_f (by omega)]; have q9 := m_edt hR hW h_b1 (a := (S.1 b1).1) (d := (S.1 b1).1) (k9 := 4) (r0 := ((4, sp_four) : xRow)) (by omega) (by omega) (by first | rfl | omega | (dsimp only; omega)) hfu hz7 hF7 hG7 hF9; exact ⟨q9.1, _, hM, q9.2, ho⟩)) dX5_text_28
      · have hm_b1 := (hW.1 b1 h_b1).1
        have hfb_b1 := (hW.1 b1 h_b1).2
        have hB_b1 := hR.1 b1 h_b1
        have hz_b1 := hB_b1.1
        have hT_t2 : M.toldMany t2 = (r_t2.1 : Int) ∧ ∀ k : Nat, k < r_t2.1 → M.told (200 * t2 + k) = r_t2.2 k := by have q := hR.2.1 t2 h_t2; rw [hS_t2] at q; exact q
        have hz_t2 := hT_t2.1
        have hm_t2 := (hW.2.1 t2 r_t2 h_t2 hS_t2).1
        have hfb_t2 := (hW.2.1 t2 r_t2 h_t2 hS_t2).2
        refine lv_iload_n hx hb dX5_text_0 rfl (lv_at hl 1 rfl) ?_
        refine xt_i (As := [.int (xI (b1 : Int))]) (rest := []) ⟨hx, hb, hml, hown, hts⟩ hl.1 (c_X5_isBuilder l (b1 : Int) (by omega)) k_X5_isBuilder u_ml_RX5_70 rfl rfl (Nat.le_of_ble_eq_true rfl) ⟨Nat.le_of_ble_eq_true rfl, Nat.le_of_ble_eq_true rfl⟩ ⟨Nat.le_of_ble_eq_true rfl, Nat.le_of_ble_eq_true rfl⟩ dX5_text_1 ?_
        refine x_top (q1 := True) ⟨fun _ => trivial, fun _ => by omega⟩ ?_
        refine x_ifb_eq (tgt := 14) hx hb dX5_text_4 (by decide)  (fun c_4 => absurd trivial c_4) (fun c_4 => ?_)
        refine lv_iload_n hx hb dX5_text_7 rfl (lv_at hl 2 rfl) ?_
        refine xt_i (As := [.int (xI (t2 : Int))]) (rest := []) ⟨hx, hb, hml, hown, hts⟩ hl.1 (c_X5_isText l (t2 : Int) (by omega)) k_X5_isText u_ml_RX5_87 rfl rfl (Nat.le_of_ble_eq_true rfl) ⟨Nat.le_of_ble_eq_true rfl, Nat.le_of_ble_eq_true rfl⟩ ⟨Nat.le_of_ble_eq_true rfl, Nat.le_of_ble_eq_true rfl⟩ dX5_text_8 ?_
        refine x_top (q1 := True) ⟨fun _ => trivial, fun _ => by omega⟩ ?_
        refine x_ifb_ne (tgt := 18) hx hb dX5_text_11 (by decide)  (fun c_11 => ?_) (fun c_11 => absurd trivial c_11)
        refine lv_aload_n hx hb dX5_text_18 rfl (lv_at hl 0 rfl) ?_
        refine lv_iload_n hx hb dX5_text_19 rfl (lv_at hl 2 rfl) ?_
        refine xm_v (i := 53) (As := [.int (xI (t2 : Int))]) (rest := []) ⟨hx, hb, hml, hown, hts⟩ hl.1 (c_X5_layText_some l D cA n ad en _ hn hM t2 h_t2 (r := r_t2) hz_t2 hm_t2 hT_t2.2) k_X5_layText u_ml_RX5_90 hK hN hP (by omega) hM.1 rfl rfl rfl rfl (Nat.le_of_ble_eq_true rfl) ⟨Nat.le_of_ble_eq_true rfl, Nat.le_of_ble_eq_true rfl⟩ ⟨Nat.le_of_ble_eq_true rfl, Nat.le_of_ble_eq_true rfl⟩ dX5_text_20 hD hS hA (fun en3 H locs hp3 hP hS => ?_)
        obtain ⟨F9, hF9, hM, ho2⟩ := hp3
        have hM : MW cA ad en3 (mO M.built M.builtMany M.told M.toldMany F9 (r_t2.1 : Int) M.figures M.partText M.partFrom M.partMany M.parts M.cut M.cutMany M.isCut M.cutGives M.cutAt M.h) := hM
        have ho := ho.tr ho2
        refine lv_aload_n hx hb dX5_text_23 rfl (lv_at hl 0 rfl) ?_
        refine lv_iload_n hx hb dX5_text_24 rfl (lv_at hl 1 rfl) ?_
        refine xm_i (i := 53) (As := [.int (xI (b1 : Int))]) (rest := []) ⟨hx, hb, hml, hown, hts⟩ hl.1 (c_X5_append l D cA n ad en3 _ hn hM b1 h_b1 (S.1 b1).1 hz_b1 hm_b1 r_t2.1 (show (r_t2.1 : Int) = ((r_t2.1 : Nat) : Int) from by omega) (by omega)) k_X5_append u_ml_RX5_81 hK hN hP (by omega) (show en3 53 = .inr (5, [.ref (ad 54), .ref (ad 55), .ref (ad 56), .ref (ad 57), .ref (ad 58), .int (xI (r_t2.1 : Int)), .ref (ad 59), .ref (ad 60), .ref (ad 61), .ref (ad 62), .int (xI M.parts), .ref (ad 63), .ref (ad 64), .ref (ad 65), .ref (ad 66), .ref (ad 67), .long M.h]) from hM.1) rfl rfl rfl rfl (Nat.le_of_ble_eq_true rfl) ⟨Nat.le_of_ble_eq_true rfl, Nat.le_of_ble_eq_true rfl⟩ ⟨Nat.le_of_ble_eq_true rfl, Nat.le_of_ble_eq_true rfl⟩ dX5_text_25 hD hS hA (fun r4 en4 H locs hp4 hP hS => ?_)
        rcases hp4 with ⟨hfu, hrv, hu⟩ | ⟨hfu, z7, F7, hrv, hz7, hF7, hG7, hM, ho2⟩
        · subst hrv
          rw [hu] at hP
          exact xe_i hx hb hrt hlocks hP hS ((by unfold am_text; simp only [Int.toNat_natCast]; simp only [sp_told_s hS_t2]; rw [sp_if_f (by omega)]; have q9 := m_full hR (b := b1) (a := (S.1 b1).1) (d := (S.1 b1).1) (k9 := r_t2.1) (r0 := r_t2) (by omega) (by omega) (by first | rfl | omega | (dsimp only; omega)) hfu; exact ⟨q9.1, _, hM, q9.2, ho⟩)) dX5_text_28
        · subst hrv
          have ho := ho.tr ho2
          have hM : MW cA ad en4 (mO F7 (sp_up M.builtMany b1 z7) M.told M.toldMany F9 (r_t2.1 : Int) M.figures M.partText M.partFrom M.partMany M.parts M.cut M.cutMany M.isCut M.cutGives M.cutAt M.h) := hM
          exact xe_i hx hb hrt hlocks hP hS ((by unfold am_text; simp only [Int.toNat_natCast]; simp only [sp_told_s hS_t2]; rw [sp_if_f (by omega)]; have q9 := m_edt hR hW h_b1 (a := (S.1 b1).1) (d := (S.1 b1).1) (k9 := r_t2.1) (r0 := r_t2) (by omega) (by omega) (by first | rfl | omega | (dsimp only; omega)) hfu hz7 hF7 hG7 hF9; exact ⟨q9.1, _, hM, q9.2, ho⟩)) dX5_text_28
    · have hm_b1 := (hW.1 b1 h_b1).1
      have hfb_b1 := (hW.1 b1 h_b1).2
      have hB_b1 := hR.1 b1 h_b1
      have hz_b1 := hB_b1.1
      refine lv_iload_n hx hb dX5_text_0 rfl (lv_at hl 1 rfl) ?_
      refine xt_i (As := [.int (xI (b1 : Int))]) (rest := []) ⟨hx, hb, hml, hown, hts⟩ hl.1 (c_X5_isBuilder l (b1 : Int) (by omega)) k_X5_isBuilder u_ml_RX5_70 rfl rfl (Nat.le_of_ble_eq_true rfl) ⟨Nat.le_of_ble_eq_true rfl, Nat.le_of_ble_eq_true rfl⟩ ⟨Nat.le_of_ble_eq_true rfl, Nat.le_of_ble_eq_true rfl⟩ dX5_text_1 ?_
      refine x_top (q1 := True) ⟨fun _ => trivial, fun _ => by omega⟩ ?_
      refine x_ifb_eq (tgt := 14) hx hb dX5_text_4 (by decide)  (fun c_4 => absurd trivial c_4) (fun c_4 => ?_)
      refine lv_iload_n hx hb dX5_text_7 rfl (lv_at hl 2 rfl) ?_
      refine xt_i (As := [.int (xI z2)]) (rest := []) ⟨hx, hb, hml, hown, hts⟩ hl.1 (c_X5_isText l z2 (by omega)) k_X5_isText u_ml_RX5_87 rfl rfl (Nat.le_of_ble_eq_true rfl) ⟨Nat.le_of_ble_eq_true rfl, Nat.le_of_ble_eq_true rfl⟩ ⟨Nat.le_of_ble_eq_true rfl, Nat.le_of_ble_eq_true rfl⟩ dX5_text_8 ?_
      refine x_top (q1 := False) ⟨fun h => absurd h (by omega), False.elim⟩ ?_
      refine x_ifb_ne (tgt := 18) hx hb dX5_text_11 (by decide)  (fun c_11 => absurd c_11 id) (fun c_11 => ?_)
      refine x_sipush hx hb dX5_text_14 (by decide +kernel) ?_
      exact xe_i hx hb hrt hlocks hP hS ((by unfold am_text; simp only [Int.toNat_natCast]; rw [sp_if_t (by omega)]; exact ⟨rfl, _, hM, hR, ho⟩)) dX5_text_17
  · rcases Classical.em (0 ≤ z2 ∧ z2 < 8) with hx_z2 | hx_z2
    · obtain ⟨t2, rfl⟩ : ∃ q : Nat, z2 = (q : Int) := ⟨z2.toNat, by omega⟩
      have h_t2 : t2 < 8 := by omega
      rcases hS_t2 : S.2.1 t2 with _ | r_t2
      · have hz_t2 : M.toldMany t2 = -1 := by have q := hR.2.1 t2 h_t2; rw [hS_t2] at q; exact q
        refine lv_iload_n hx hb dX5_text_0 rfl (lv_at hl 1 rfl) ?_
        refine xt_i (As := [.int (xI z1)]) (rest := []) ⟨hx, hb, hml, hown, hts⟩ hl.1 (c_X5_isBuilder l z1 (by omega)) k_X5_isBuilder u_ml_RX5_70 rfl rfl (Nat.le_of_ble_eq_true rfl) ⟨Nat.le_of_ble_eq_true rfl, Nat.le_of_ble_eq_true rfl⟩ ⟨Nat.le_of_ble_eq_true rfl, Nat.le_of_ble_eq_true rfl⟩ dX5_text_1 ?_
        refine x_top (q1 := False) ⟨fun h => absurd h (by omega), False.elim⟩ ?_
        refine x_ifb_eq (tgt := 14) hx hb dX5_text_4 (by decide)  (fun c_4 => ?_) (fun c_4 => absurd c_4 id)
        refine x_sipush hx hb dX5_text_14 (by decide +kernel) ?_
        exact xe_i hx hb hrt hlocks hP hS ((by unfold am_text; simp only [Int.toNat_natCast]; simp only [sp_told_n hS_t2]; rw [sp_if_t (by omega)]; exact ⟨rfl, _, hM, hR, ho⟩)) dX5_text_17
      · have hT_t2 : M.toldMany t2 = (r_t2.1 : Int) ∧ ∀ k : Nat, k < r_t2.1 → M.told (200 * t2 + k) = r_t2.2 k := by have q := hR.2.1 t2 h_t2; rw [hS_t2] at q; exact q
        have hz_t2 := hT_t2.1
        have hm_t2 := (hW.2.1 t2 r_t2 h_t2 hS_t2).1
        have hfb_t2 := (hW.2.1 t2 r_t2 h_t2 hS_t2).2
        refine lv_iload_n hx hb dX5_text_0 rfl (lv_at hl 1 rfl) ?_
        refine xt_i (As := [.int (xI z1)]) (rest := []) ⟨hx, hb, hml, hown, hts⟩ hl.1 (c_X5_isBuilder l z1 (by omega)) k_X5_isBuilder u_ml_RX5_70 rfl rfl (Nat.le_of_ble_eq_true rfl) ⟨Nat.le_of_ble_eq_true rfl, Nat.le_of_ble_eq_true rfl⟩ ⟨Nat.le_of_ble_eq_true rfl, Nat.le_of_ble_eq_true rfl⟩ dX5_text_1 ?_
        refine x_top (q1 := False) ⟨fun h => absurd h (by omega), False.elim⟩ ?_
        refine x_ifb_eq (tgt := 14) hx hb dX5_text_4 (by decide)  (fun c_4 => ?_) (fun c_4 => absurd c_4 id)
        refine x_sipush hx hb dX5_text_14 (by decide +kernel) ?_
        exact xe_i hx hb hrt hlocks hP hS ((by unfold am_text; simp only [Int.toNat_natCast]; simp only [sp_told_s hS_t2]; rw [sp_if_t (by omega)]; exact ⟨rfl, _, hM, hR, ho⟩)) dX5_text_17
    · refine lv_iload_n hx hb dX5_text_0 rfl (lv_at hl 1 rfl) ?_
      refine xt_i (As := [.int (xI z1)]) (rest := []) ⟨hx, hb, hml, hown, hts⟩ hl.1 (c_X5_isBuilder l z1 (by omega)) k_X5_isBuilder u_ml_RX5_70 rfl rfl (Nat.le_of_ble_eq_true rfl) ⟨Nat.le_of_ble_eq_true rfl, Nat.le_of_ble_eq_true rfl⟩ ⟨Nat.le_of_ble_eq_true rfl, Nat.le_of_ble_eq_true rfl⟩ dX5_text_1 ?_
      refine x_top (q1 := False) ⟨fun h => absurd h (by omega), False.elim⟩ ?_
      refine x_ifb_eq (tgt := 14) hx hb dX5_text_4 (by decide)  (fun c_4 => ?_) (fun c_4 => absurd c_4 id)
      refine x_sipush hx hb dX5_text_14 (by decide +kernel) ?_
      exact xe_i hx hb hrt hlocks hP hS ((by unfold am_text; rw [sp_if_t (by omega)]; exact ⟨rfl, _, hM, hR, ho⟩)) dX5_text_17

set_option maxRecDepth 20000 in
theorem c_X5_part (l : Launch) (D : va_G) (cA : Nat → ClassId) (n : Nat) (ad : Nat → Nat) (en : Nat → va_E) (sz : Nat) (hn : 68 ≤ n) {M : MO} (hM : MW cA ad en M) {S : xSt} (hW : WF S) (hR : MR S M) (z1 : Int) (hz1 : -2147483648 ≤ z1 ∧ z1 ≤ 2147483647) (z2 : Int) (hz2 : -2147483648 ≤ z2 ∧ z2 ≤ 2147483647) (z3 : Int) (hz3 : -2147483648 ≤ z3 ∧ z3 ≤ 2147483647) (z4 : Int) (hz4 : -2147483648 ≤ z4 ∧ z4 ≤ 2147483647) : Met l yX5_part (Cond.code yX5_part cX5_part 5 (some .int) :: xU) (xrm 2 48) (va_Pc [.ref (ad 53), .int (xI z1), .int (xI z2), .int (xI z3), .int (xI z4)] (xM D cA n ad en sz)) (va_Qi (fun r u => r = xI (am_part S z1 z2 z3 z4).1 ∧ ∃ M' : MO, MW cA ad u M' ∧ MR (am_part S z1 z2 z3 z4).2 M' ∧ xO 53 68 en u) (xE D n ad) (xA n ad sz)) 0 0 (xA n ad sz) := by
  refine xmet (by decide) (Nat.le_of_ble_eq_true rfl) (fun p e s mm args below meth c ls hx hb hrt hml hown hts hlocks hname hB hl => ?_)
  obtain ⟨⟨hP, hK, hN⟩, hsz, hDt⟩ := hB
  have hD : xD (xA n ad sz) n ad := xD_self hDt sz
  have hA : ∀ q : Nat, s.heap.size ≤ q → xA n ad sz q := fun q h => Or.inr (by rw [← hsz]; exact h)
  have hS : va_S (xA n ad sz) s.heap s.heap [] := va_S.rf
  have hown : s.vm.findClass RX5 = some mm.cls := hown
  have hl : lv_has ls 5 [(0, .ref (ad 53)), (1, .int (xI z1)), (2, .int (xI z2)), (3, .int (xI z3)), (4, .int (xI z4))] := hl
  have ho : xO 53 68 en en := xO.rf
  rcases Classical.em (0 ≤ z1 ∧ z1 < 4) with hx_z1 | hx_z1
  · obtain ⟨b1, rfl⟩ : ∃ q : Nat, z1 = (q : Int) := ⟨z1.toNat, by omega⟩
    have h_b1 : b1 < 4 := by omega
    rcases Classical.em (0 ≤ z2 ∧ z2 < 8) with hx_z2 | hx_z2
    · obtain ⟨t2, rfl⟩ : ∃ q : Nat, z2 = (q : Int) := ⟨z2.toNat, by omega⟩
      have h_t2 : t2 < 8 := by omega
      rcases hS_t2 : S.2.1 t2 with _ | r_t2
      · have hm_b1 := (hW.1 b1 h_b1).1
        have hfb_b1 := (hW.1 b1 h_b1).2
        have hB_b1 := hR.1 b1 h_b1
        have hz_b1 := hB_b1.1
        have hz_t2 : M.toldMany t2 = -1 := by have q := hR.2.1 t2 h_t2; rw [hS_t2] at q; exact q
        refine lv_iload_n hx hb dX5_part_0 rfl (lv_at hl 1 rfl) ?_
        refine xt_i (As := [.int (xI (b1 : Int))]) (rest := []) ⟨hx, hb, hml, hown, hts⟩ hl.1 (c_X5_isBuilder l (b1 : Int) (by omega)) k_X5_isBuilder u_ml_RX5_70 rfl rfl (Nat.le_of_ble_eq_true rfl) ⟨Nat.le_of_ble_eq_true rfl, Nat.le_of_ble_eq_true rfl⟩ ⟨Nat.le_of_ble_eq_true rfl, Nat.le_of_ble_eq_true rfl⟩ dX5_part_1 ?_
        refine x_top (q1 := True) ⟨fun _ => trivial, fun _ => by omega⟩ ?_
        refine x_ifb_eq (tgt := 14) hx hb dX5_part_4 (by decide)  (fun c_4 => absurd trivial c_4) (fun c_4 => ?_)
        refine lv_iload_n hx hb dX5_part_7 rfl (lv_at hl 2 rfl) ?_
        refine xt_i (As := [.int (xI (t2 : Int))]) (rest := []) ⟨hx, hb, hml, hown, hts⟩ hl.1 (c_X5_isText l (t2 : Int) (by omega)) k_X5_isText u_ml_RX5_87 rfl rfl (Nat.le_of_ble_eq_true rfl) ⟨Nat.le_of_ble_eq_true rfl, Nat.le_of_ble_eq_true rfl⟩ ⟨Nat.le_of_ble_eq_true rfl, Nat.le_of_ble_eq_true rfl⟩ dX5_part_8 ?_
        refine x_top (q1 := True) ⟨fun _ => trivial, fun _ => by omega⟩ ?_
        refine x_ifb_ne (tgt := 18) hx hb dX5_part_11 (by decide)  (fun c_11 => ?_) (fun c_11 => absurd trivial c_11)
        refine lv_aload_n hx hb dX5_part_18 rfl (lv_at hl 0 rfl) ?_
        refine lv_iload_n hx hb dX5_part_19 rfl (lv_at hl 2 rfl) ?_
        refine xm_v (i := 53) (As := [.int (xI (t2 : Int))]) (rest := []) ⟨hx, hb, hml, hown, hts⟩ hl.1 (c_X5_layText_none l D cA n ad en _ hn hM t2 h_t2 hz_t2) k_X5_layText u_ml_RX5_90 hK hN hP (by omega) hM.1 rfl rfl rfl rfl (Nat.le_of_ble_eq_true rfl) ⟨Nat.le_of_ble_eq_true rfl, Nat.le_of_ble_eq_true rfl⟩ ⟨Nat.le_of_ble_eq_true rfl, Nat.le_of_ble_eq_true rfl⟩ dX5_part_20 hD hS hA (fun en1 H locs hp1 hP hS => ?_)
        obtain ⟨F9, hF9, hM, ho2⟩ := hp1
        have hM : MW cA ad en1 (mO M.built M.builtMany M.told M.toldMany F9 ((4 : Nat) : Int) M.figures M.partText M.partFrom M.partMany M.parts M.cut M.cutMany M.isCut M.cutGives M.cutAt M.h) := hM
        have ho := ho.tr ho2
        refine lv_iload_n hx hb dX5_part_23 rfl (lv_at hl 3 rfl) ?_
        refine x_if_lt (tgt := 42) hx hb dX5_part_24 (by decide) (by omega) (fun c_24 => ?_) (fun c_24 => ?_)
        · refine x_sipush hx hb dX5_part_42 (by decide +kernel) ?_
          exact xe_i hx hb hrt hlocks hP hS ((by unfold am_part; simp only [Int.toNat_natCast]; simp only [sp_told_n hS_t2]; rw [sp_if_f (by omega), sp_if_t (by omega)]; exact ⟨rfl, _, hM, hR, ho⟩)) dX5_part_45
        · refine lv_iload hx hb dX5_part_27 (lv_at hl 4 rfl) ?_
          refine lv_aload_n hx hb dX5_part_29 rfl (lv_at hl 0 rfl) ?_
          refine x_get (T := TX5) (N := 17) hx hb hts uX5 hown hK hP (i := 53) (by omega) (show en1 53 = .inr (5, [.ref (ad 54), .ref (ad 55), .ref (ad 56), .ref (ad 57), .ref (ad 58), .int (xI ((4 : Nat) : Int)), .ref (ad 59), .ref (ad 60), .ref (ad 61), .ref (ad 62), .int (xI M.parts), .ref (ad 63), .ref (ad 64), .ref (ad 65), .ref (ad 66), .ref (ad 67), .long M.h]) from hM.1) rfl 5 (by decide) u_fl_RX5_62 rfl dX5_part_30 ?_
          refine x_icmp_gt (tgt := 42) hx hb dX5_part_33 (by decide) (by omega) (fun c_33 => ?_) (fun c_33 => ?_)
          · refine x_sipush hx hb dX5_part_42 (by decide +kernel) ?_
            exact xe_i hx hb hrt hlocks hP hS ((by unfold am_part; simp only [Int.toNat_natCast]; simp only [sp_told_n hS_t2]; rw [sp_if_f (by omega), sp_if_t (by omega)]; exact ⟨rfl, _, hM, hR, ho⟩)) dX5_part_45
          · refine lv_iload_n hx hb dX5_part_36 rfl (lv_at hl 3 rfl) ?_
            refine lv_iload hx hb dX5_part_37 (lv_at hl 4 rfl) ?_
            refine x_icmp_le (tgt := 46) hx hb dX5_part_39 (by decide) (by omega) (fun c_39 => ?_) (fun c_39 => ?_)
            · obtain ⟨a3, hv_z3⟩ : ∃ q : Nat, z3 = (q : Int) := ⟨Int.toNat z3, by omega⟩
              obtain ⟨a4, hv_z4⟩ : ∃ q : Nat, z4 = (q : Int) := ⟨Int.toNat z4, by omega⟩
              have hl : lv_has ls 5 [(0, .ref (ad 53)), (1, .int (xI (b1 : Int))), (2, .int (xI (t2 : Int))), (3, .int (xI (a3 : Int))), (4, .int (xI (a4 : Int)))] := by rw [← hv_z3, ← hv_z4]; exact hl
              refine lv_aload_n hx hb dX5_part_46 rfl (lv_at hl 0 rfl) ?_
              refine lv_iload_n hx hb dX5_part_47 rfl (lv_at hl 3 rfl) ?_
              refine lv_iload hx hb dX5_part_48 (lv_at hl 4 rfl) ?_
              refine xm_v (i := 53) (As := [.int (xI (a3 : Int)), .int (xI (a4 : Int))]) (rest := []) ⟨hx, hb, hml, hown, hts⟩ hl.1 (c_X5_clip l D cA n ad en1 _ hn hM a3 a4 (by omega) (by omega)) k_X5_clip u_ml_RX5_93 hK hN hP (by omega) (show en1 53 = .inr (5, [.ref (ad 54), .ref (ad 55), .ref (ad 56), .ref (ad 57), .ref (ad 58), .int (xI ((4 : Nat) : Int)), .ref (ad 59), .ref (ad 60), .ref (ad 61), .ref (ad 62), .int (xI M.parts), .ref (ad 63), .ref (ad 64), .ref (ad 65), .ref (ad 66), .ref (ad 67), .long M.h]) from hM.1) rfl rfl rfl rfl (Nat.le_of_ble_eq_true rfl) ⟨Nat.le_of_ble_eq_true rfl, Nat.le_of_ble_eq_true rfl⟩ ⟨Nat.le_of_ble_eq_true rfl, Nat.le_of_ble_eq_true rfl⟩ dX5_part_50 hD hS hA (fun en2 H locs hp2 hP hS => ?_)
              obtain ⟨Fc, hFc, hM, ho2⟩ := hp2
              have hM : MW cA ad en2 (mO M.built M.builtMany M.told M.toldMany Fc ((a4 : Int) - (a3 : Int)) M.figures M.partText M.partFrom M.partMany M.parts M.cut M.cutMany M.isCut M.cutGives M.cutAt M.h) := hM
              have ho := ho.tr ho2
              have hFc : ∀ k : Nat, k < a4 - a3 → Fc k = F9 (a3 + k) := hFc
              have hFd : ∀ k : Nat, k < a4 - a3 → Fc k = sp_four (a3 + k) := fun k hk => (hFc k hk).trans (hF9 (a3 + k) (by omega))
              refine lv_aload_n hx hb dX5_part_53 rfl (lv_at hl 0 rfl) ?_
              refine lv_iload_n hx hb dX5_part_54 rfl (lv_at hl 1 rfl) ?_
              refine xm_i (i := 53) (As := [.int (xI (b1 : Int))]) (rest := []) ⟨hx, hb, hml, hown, hts⟩ hl.1 (c_X5_append l D cA n ad en2 _ hn hM b1 h_b1 (S.1 b1).1 hz_b1 hm_b1 (a4 - a3) (show ((a4 : Int) - (a3 : Int)) = (((a4 - a3) : Nat) : Int) from by omega) (by omega)) k_X5_append u_ml_RX5_81 hK hN hP (by omega) (show en2 53 = .inr (5, [.ref (ad 54), .ref (ad 55), .ref (ad 56), .ref (ad 57), .ref (ad 58), .int (xI ((a4 : Int) - (a3 : Int))), .ref (ad 59), .ref (ad 60), .ref (ad 61), .ref (ad 62), .int (xI M.parts), .ref (ad 63), .ref (ad 64), .ref (ad 65), .ref (ad 66), .ref (ad 67), .long M.h]) from hM.1) rfl rfl rfl rfl (Nat.le_of_ble_eq_true rfl) ⟨Nat.le_of_ble_eq_true rfl, Nat.le_of_ble_eq_true rfl⟩ ⟨Nat.le_of_ble_eq_true rfl, Nat.le_of_ble_eq_true rfl⟩ dX5_part_55 hD hS hA (fun r3 en3 H locs hp3 hP hS => ?_)
              rcases hp3 with ⟨hfu, hrv, hu⟩ | ⟨hfu, z7, F7, hrv, hz7, hF7, hG7, hM, ho2⟩
              · subst hrv
                rw [hu] at hP
                exact xe_i hx hb hrt hlocks hP hS ((by unfold am_part; simp only [Int.toNat_natCast]; simp only [sp_told_n hS_t2]; rw [sp_if_f (by omega), sp_if_f (by omega)]; (try rw [show Int.toNat z3 = a3 by omega]); (try rw [show Int.toNat z4 = a4 by omega]); have q9 := m_full hR (b := b1) (a := (S.1 b1).1) (d := (S.1 b1).1) (k9 := (a4 - a3)) (r0 := ((Int.toNat (z4 - z3), fun q => sp_four (a3 + q)) : xRow)) (by omega) (by omega) (by first | rfl | omega | (dsimp only; omega)) hfu; exact ⟨q9.1, _, hM, q9.2, ho⟩)) dX5_part_58
              · subst hrv
                have ho := ho.tr ho2
                have hM : MW cA ad en3 (mO F7 (sp_up M.builtMany b1 z7) M.told M.toldMany Fc ((a4 : Int) - (a3 : Int)) M.figures M.partText M.partFrom M.partMany M.parts M.cut M.cutMany M.isCut M.cutGives M.cutAt M.h) := hM
                exact xe_i hx hb hrt hlocks hP hS ((by unfold am_part; simp only [Int.toNat_natCast]; simp only [sp_told_n hS_t2]; rw [sp_if_f (by omega), sp_if_f (by omega)]; (try rw [show Int.toNat z3 = a3 by omega]); (try rw [show Int.toNat z4 = a4 by omega]); have q9 := m_edt hR hW h_b1 (a := (S.1 b1).1) (d := (S.1 b1).1) (k9 := (a4 - a3)) (r0 := ((Int.toNat (z4 - z3), fun q => sp_four (a3 + q)) : xRow)) (by omega) (by omega) (by first | rfl | omega | (dsimp only; omega)) hfu hz7 hF7 hG7 hFd; exact ⟨q9.1, _, hM, q9.2, ho⟩)) dX5_part_58
            · refine x_sipush hx hb dX5_part_42 (by decide +kernel) ?_
              exact xe_i hx hb hrt hlocks hP hS ((by unfold am_part; simp only [Int.toNat_natCast]; simp only [sp_told_n hS_t2]; rw [sp_if_f (by omega), sp_if_t (by omega)]; exact ⟨rfl, _, hM, hR, ho⟩)) dX5_part_45
      · have hm_b1 := (hW.1 b1 h_b1).1
        have hfb_b1 := (hW.1 b1 h_b1).2
        have hB_b1 := hR.1 b1 h_b1
        have hz_b1 := hB_b1.1
        have hT_t2 : M.toldMany t2 = (r_t2.1 : Int) ∧ ∀ k : Nat, k < r_t2.1 → M.told (200 * t2 + k) = r_t2.2 k := by have q := hR.2.1 t2 h_t2; rw [hS_t2] at q; exact q
        have hz_t2 := hT_t2.1
        have hm_t2 := (hW.2.1 t2 r_t2 h_t2 hS_t2).1
        have hfb_t2 := (hW.2.1 t2 r_t2 h_t2 hS_t2).2
        refine lv_iload_n hx hb dX5_part_0 rfl (lv_at hl 1 rfl) ?_
        refine xt_i (As := [.int (xI (b1 : Int))]) (rest := []) ⟨hx, hb, hml, hown, hts⟩ hl.1 (c_X5_isBuilder l (b1 : Int) (by omega)) k_X5_isBuilder u_ml_RX5_70 rfl rfl (Nat.le_of_ble_eq_true rfl) ⟨Nat.le_of_ble_eq_true rfl, Nat.le_of_ble_eq_true rfl⟩ ⟨Nat.le_of_ble_eq_true rfl, Nat.le_of_ble_eq_true rfl⟩ dX5_part_1 ?_
        refine x_top (q1 := True) ⟨fun _ => trivial, fun _ => by omega⟩ ?_
        refine x_ifb_eq (tgt := 14) hx hb dX5_part_4 (by decide)  (fun c_4 => absurd trivial c_4) (fun c_4 => ?_)
        refine lv_iload_n hx hb dX5_part_7 rfl (lv_at hl 2 rfl) ?_
        refine xt_i (As := [.int (xI (t2 : Int))]) (rest := []) ⟨hx, hb, hml, hown, hts⟩ hl.1 (c_X5_isText l (t2 : Int) (by omega)) k_X5_isText u_ml_RX5_87 rfl rfl (Nat.le_of_ble_eq_true rfl) ⟨Nat.le_of_ble_eq_true rfl, Nat.le_of_ble_eq_true rfl⟩ ⟨Nat.le_of_ble_eq_true rfl, Nat.le_of_ble_eq_true rfl⟩ dX5_part_8 ?_
        refine x_top (q1 := True) ⟨fun _ => trivial, fun _ => by omega⟩ ?_
        refine x_ifb_ne (tgt := 18) hx hb dX5_part_11 (by decide)  (fun c_11 => ?_) (fun c_11 => absurd trivial c_11)
        refine lv_aload_n hx hb dX5_part_18 rfl (lv_at hl 0 rfl) ?_
        refine lv_iload_n hx hb dX5_part_19 rfl (lv_at hl 2 rfl) ?_
        refine xm_v (i := 53) (As := [.int (xI (t2 : Int))]) (rest := []) ⟨hx, hb, hml, hown, hts⟩ hl.1 (c_X5_layText_some l D cA n ad en _ hn hM t2 h_t2 (r := r_t2) hz_t2 hm_t2 hT_t2.2) k_X5_layText u_ml_RX5_90 hK hN hP (by omega) hM.1 rfl rfl rfl rfl (Nat.le_of_ble_eq_true rfl) ⟨Nat.le_of_ble_eq_true rfl, Nat.le_of_ble_eq_true rfl⟩ ⟨Nat.le_of_ble_eq_true rfl, Nat.le_of_ble_eq_true rfl⟩ dX5_part_20 hD hS hA (fun en4 H locs hp4 hP hS => ?_)
        obtain ⟨F9, hF9, hM, ho2⟩ := hp4
        have hM : MW cA ad en4 (mO M.built M.builtMany M.told M.toldMany F9 (r_t2.1 : Int) M.figures M.partText M.partFrom M.partMany M.parts M.cut M.cutMany M.isCut M.cutGives M.cutAt M.h) := hM
        have ho := ho.tr ho2
        refine lv_iload_n hx hb dX5_part_23 rfl (lv_at hl 3 rfl) ?_
        refine x_if_lt (tgt := 42) hx hb dX5_part_24 (by decide) (by omega) (fun c_24 => ?_) (fun c_24 => ?_)
        · refine x_sipush hx hb dX5_part_42 (by decide +kernel) ?_
          exact xe_i hx hb hrt hlocks hP hS ((by unfold am_part; simp only [Int.toNat_natCast]; simp only [sp_told_s hS_t2]; rw [sp_if_f (by omega), sp_if_t (by omega)]; exact ⟨rfl, _, hM, hR, ho⟩)) dX5_part_45
        · refine lv_iload hx hb dX5_part_27 (lv_at hl 4 rfl) ?_
          refine lv_aload_n hx hb dX5_part_29 rfl (lv_at hl 0 rfl) ?_
          refine x_get (T := TX5) (N := 17) hx hb hts uX5 hown hK hP (i := 53) (by omega) (show en4 53 = .inr (5, [.ref (ad 54), .ref (ad 55), .ref (ad 56), .ref (ad 57), .ref (ad 58), .int (xI (r_t2.1 : Int)), .ref (ad 59), .ref (ad 60), .ref (ad 61), .ref (ad 62), .int (xI M.parts), .ref (ad 63), .ref (ad 64), .ref (ad 65), .ref (ad 66), .ref (ad 67), .long M.h]) from hM.1) rfl 5 (by decide) u_fl_RX5_62 rfl dX5_part_30 ?_
          refine x_icmp_gt (tgt := 42) hx hb dX5_part_33 (by decide) (by omega) (fun c_33 => ?_) (fun c_33 => ?_)
          · refine x_sipush hx hb dX5_part_42 (by decide +kernel) ?_
            exact xe_i hx hb hrt hlocks hP hS ((by unfold am_part; simp only [Int.toNat_natCast]; simp only [sp_told_s hS_t2]; rw [sp_if_f (by omega), sp_if_t (by omega)]; exact ⟨rfl, _, hM, hR, ho⟩)) dX5_part_45
          · refine lv_iload_n hx hb dX5_part_36 rfl (lv_at hl 3 rfl) ?_
            refine lv_iload hx hb dX5_part_37 (lv_at hl 4 rfl) ?_
            refine x_icmp_le (tgt := 46) hx hb dX5_part_39 (by decide) (by omega) (fun c_39 => ?_) (fun c_39 => ?_)
            · obtain ⟨a3, hv_z3⟩ : ∃ q : Nat, z3 = (q : Int) := ⟨Int.toNat z3, by omega⟩
              obtain ⟨a4, hv_z4⟩ : ∃ q : Nat, z4 = (q : Int) := ⟨Int.toNat z4, by omega⟩
              have hl : lv_has ls 5 [(0, .ref (ad 53)), (1, .int (xI (b1 : Int))), (2, .int (xI (t2 : Int))), (3, .int (xI (a3 : Int))), (4, .int (xI (a4 : Int)))] := by rw [← hv_z3, ← hv_z4]; exact hl
              refine lv_aload_n hx hb dX5_part_46 rfl (lv_at hl 0 rfl) ?_
              refine lv_iload_n hx hb dX5_part_47 rfl (lv_at hl 3 rfl) ?_
              refine lv_iload hx hb dX5_part_48 (lv_at hl 4 rfl) ?_
              refine xm_v (i := 53) (As := [.int (xI (a3 : Int)), .int (xI (a4 : Int))]) (rest := []) ⟨hx, hb, hml, hown, hts⟩ hl.1 (c_X5_clip l D cA n ad en4 _ hn hM a3 a4 (by omega) (by omega)) k_X5_clip u_ml_RX5_93 hK hN hP (by omega) (show en4 53 = .inr (5, [.ref (ad 54), .ref (ad 55), .ref (ad 56), .ref (ad 57), .ref (ad 58), .int (xI (r_t2.1 : Int)), .ref (ad 59), .ref (ad 60), .ref (ad 61), .ref (ad 62), .int (xI M.parts), .ref (ad 63), .ref (ad 64), .ref (ad 65), .ref (ad 66), .ref (ad 67), .long M.h]) from hM.1) rfl rfl rfl rfl (Nat.le_of_ble_eq_true rfl) ⟨Nat.le_of_ble_eq_true rfl, Nat.le_of_ble_eq_true rfl⟩ ⟨Nat.le_of_ble_eq_true rfl, Nat.le_of_ble_eq_true rfl⟩ dX5_part_50 hD hS hA (fun en5 H locs hp5 hP hS => ?_)
              obtain ⟨Fc, hFc, hM, ho2⟩ := hp5
              have hM : MW cA ad en5 (mO M.built M.builtMany M.told M.toldMany Fc ((a4 : Int) - (a3 : Int)) M.figures M.partText M.partFrom M.partMany M.parts M.cut M.cutMany M.isCut M.cutGives M.cutAt M.h) := hM
              have ho := ho.tr ho2
              have hFc : ∀ k : Nat, k < a4 - a3 → Fc k = F9 (a3 + k) := hFc
              have hFd : ∀ k : Nat, k < a4 - a3 → Fc k = r_t2.2 (a3 + k) := fun k hk => (hFc k hk).trans (hF9 (a3 + k) (by omega))
              refine lv_aload_n hx hb dX5_part_53 rfl (lv_at hl 0 rfl) ?_
              refine lv_iload_n hx hb dX5_part_54 rfl (lv_at hl 1 rfl) ?_
              refine xm_i (i := 53) (As := [.int (xI (b1 : Int))]) (rest := []) ⟨hx, hb, hml, hown, hts⟩ hl.1 (c_X5_append l D cA n ad en5 _ hn hM b1 h_b1 (S.1 b1).1 hz_b1 hm_b1 (a4 - a3) (show ((a4 : Int) - (a3 : Int)) = (((a4 - a3) : Nat) : Int) from by omega) (by omega)) k_X5_append u_ml_RX5_81 hK hN hP (by omega) (show en5 53 = .inr (5, [.ref (ad 54), .ref (ad 55), .ref (ad 56), .ref (ad 57), .ref (ad 58), .int (xI ((a4 : Int) - (a3 : Int))), .ref (ad 59), .ref (ad 60), .ref (ad 61), .ref (ad 62), .int (xI M.parts), .ref (ad 63), .ref (ad 64), .ref (ad 65), .ref (ad 66), .ref (ad 67), .long M.h]) from hM.1) rfl rfl rfl rfl (Nat.le_of_ble_eq_true rfl) ⟨Nat.le_of_ble_eq_true rfl, Nat.le_of_ble_eq_true rfl⟩ ⟨Nat.le_of_ble_eq_true rfl, Nat.le_of_ble_eq_true rfl⟩ dX5_part_55 hD hS hA (fun r6 en6 H locs hp6 hP hS => ?_)
              rcases hp6 with ⟨hfu, hrv, hu⟩ | ⟨hfu, z7, F7, hrv, hz7, hF7, hG7, hM, ho2⟩
              · subst hrv
                rw [hu] at hP
                exact xe_i hx hb hrt hlocks hP hS ((by unfold am_part; simp only [Int.toNat_natCast]; simp only [sp_told_s hS_t2]; rw [sp_if_f (by omega), sp_if_f (by omega)]; (try rw [show Int.toNat z3 = a3 by omega]); (try rw [show Int.toNat z4 = a4 by omega]); have q9 := m_full hR (b := b1) (a := (S.1 b1).1) (d := (S.1 b1).1) (k9 := (a4 - a3)) (r0 := ((Int.toNat (z4 - z3), fun q => r_t2.2 (a3 + q)) : xRow)) (by omega) (by omega) (by first | rfl | omega | (dsimp only; omega)) hfu; exact ⟨q9.1, _, hM, q9.2, ho⟩)) dX5_part_58
              · subst hrv
                have ho := ho.tr ho2
                have hM : MW cA ad en6 (mO F7 (sp_up M.builtMany b1 z7) M.told M.toldMany Fc ((a4 : Int) - (a3 : Int)) M.figures M.partText M.partFrom M.partMany M.parts M.cut M.cutMany M.isCut M.cutGives M.cutAt M.h) := hM
                exact xe_i hx hb hrt hlocks hP hS ((by unfold am_part; simp only [Int.toNat_natCast]; simp only [sp_told_s hS_t2]; rw [sp_if_f (by omega), sp_if_f (by omega)]; (try rw [show Int.toNat z3 = a3 by omega]); (try rw [show Int.toNat z4 = a4 by omega]); have q9 := m_edt hR hW h_b1 (a := (S.1 b1).1) (d := (S.1 b1).1) (k9 := (a4 - a3)) (r0 := ((Int.toNat (z4 - z3), fun q => r_t2.2 (a3 + q)) : xRow)) (by omega) (by omega) (by first | rfl | omega | (dsimp only; omega)) hfu hz7 hF7 hG7 hFd; exact ⟨q9.1, _, hM, q9.2, ho⟩)) dX5_part_58
            · refine x_sipush hx hb dX5_part_42 (by decide +kernel) ?_
              exact xe_i hx hb hrt hlocks hP hS ((by unfold am_part; simp only [Int.toNat_natCast]; simp only [sp_told_s hS_t2]; rw [sp_if_f (by omega), sp_if_t (by omega)]; exact ⟨rfl, _, hM, hR, ho⟩)) dX5_part_45
    · have hm_b1 := (hW.1 b1 h_b1).1
      have hfb_b1 := (hW.1 b1 h_b1).2
      have hB_b1 := hR.1 b1 h_b1
      have hz_b1 := hB_b1.1
      refine lv_iload_n hx hb dX5_part_0 rfl (lv_at hl 1 rfl) ?_
      refine xt_i (As := [.int (xI (b1 : Int))]) (rest := []) ⟨hx, hb, hml, hown, hts⟩ hl.1 (c_X5_isBuilder l (b1 : Int) (by omega)) k_X5_isBuilder u_ml_RX5_70 rfl rfl (Nat.le_of_ble_eq_true rfl) ⟨Nat.le_of_ble_eq_true rfl, Nat.le_of_ble_eq_true rfl⟩ ⟨Nat.le_of_ble_eq_true rfl, Nat.le_of_ble_eq_true rfl⟩ dX5_part_1 ?_
      refine x_top (q1 := True) ⟨fun _ => trivial, fun _ => by omega⟩ ?_
      refine x_ifb_eq (tgt := 14) hx hb dX5_part_4 (by decide)  (fun c_4 => absurd trivial c_4) (fun c_4 => ?_)
      refine lv_iload_n hx hb dX5_part_7 rfl (lv_at hl 2 rfl) ?_
      refine xt_i (As := [.int (xI z2)]) (rest := []) ⟨hx, hb, hml, hown, hts⟩ hl.1 (c_X5_isText l z2 (by omega)) k_X5_isText u_ml_RX5_87 rfl rfl (Nat.le_of_ble_eq_true rfl) ⟨Nat.le_of_ble_eq_true rfl, Nat.le_of_ble_eq_true rfl⟩ ⟨Nat.le_of_ble_eq_true rfl, Nat.le_of_ble_eq_true rfl⟩ dX5_part_8 ?_
      refine x_top (q1 := False) ⟨fun h => absurd h (by omega), False.elim⟩ ?_
      refine x_ifb_ne (tgt := 18) hx hb dX5_part_11 (by decide)  (fun c_11 => absurd c_11 id) (fun c_11 => ?_)
      refine x_sipush hx hb dX5_part_14 (by decide +kernel) ?_
      exact xe_i hx hb hrt hlocks hP hS ((by unfold am_part; simp only [Int.toNat_natCast]; rw [sp_if_t (by omega)]; exact ⟨rfl, _, hM, hR, ho⟩)) dX5_part_17
  · rcases Classical.em (0 ≤ z2 ∧ z2 < 8) with hx_z2 | hx_z2
    · obtain ⟨t2, rfl⟩ : ∃ q : Nat, z2 = (q : Int) := ⟨z2.toNat, by omega⟩
      have h_t2 : t2 < 8 := by omega
      rcases hS_t2 : S.2.1 t2 with _ | r_t2
      · have hz_t2 : M.toldMany t2 = -1 := by have q := hR.2.1 t2 h_t2; rw [hS_t2] at q; exact q
        refine lv_iload_n hx hb dX5_part_0 rfl (lv_at hl 1 rfl) ?_
        refine xt_i (As := [.int (xI z1)]) (rest := []) ⟨hx, hb, hml, hown, hts⟩ hl.1 (c_X5_isBuilder l z1 (by omega)) k_X5_isBuilder u_ml_RX5_70 rfl rfl (Nat.le_of_ble_eq_true rfl) ⟨Nat.le_of_ble_eq_true rfl, Nat.le_of_ble_eq_true rfl⟩ ⟨Nat.le_of_ble_eq_true rfl, Nat.le_of_ble_eq_true rfl⟩ dX5_part_1 ?_
        refine x_top (q1 := False) ⟨fun h => absurd h (by omega), False.elim⟩ ?_
        refine x_ifb_eq (tgt := 14) hx hb dX5_part_4 (by decide)  (fun c_4 => ?_) (fun c_4 => absurd c_4 id)
        refine x_sipush hx hb dX5_part_14 (by decide +kernel) ?_
        exact xe_i hx hb hrt hlocks hP hS ((by unfold am_part; simp only [Int.toNat_natCast]; simp only [sp_told_n hS_t2]; rw [sp_if_t (by omega)]; exact ⟨rfl, _, hM, hR, ho⟩)) dX5_part_17
      · have hT_t2 : M.toldMany t2 = (r_t2.1 : Int) ∧ ∀ k : Nat, k < r_t2.1 → M.told (200 * t2 + k) = r_t2.2 k := by have q := hR.2.1 t2 h_t2; rw [hS_t2] at q; exact q
        have hz_t2 := hT_t2.1
        have hm_t2 := (hW.2.1 t2 r_t2 h_t2 hS_t2).1
        have hfb_t2 := (hW.2.1 t2 r_t2 h_t2 hS_t2).2
        refine lv_iload_n hx hb dX5_part_0 rfl (lv_at hl 1 rfl) ?_
        refine xt_i (As := [.int (xI z1)]) (rest := []) ⟨hx, hb, hml, hown, hts⟩ hl.1 (c_X5_isBuilder l z1 (by omega)) k_X5_isBuilder u_ml_RX5_70 rfl rfl (Nat.le_of_ble_eq_true rfl) ⟨Nat.le_of_ble_eq_true rfl, Nat.le_of_ble_eq_true rfl⟩ ⟨Nat.le_of_ble_eq_true rfl, Nat.le_of_ble_eq_true rfl⟩ dX5_part_1 ?_
        refine x_top (q1 := False) ⟨fun h => absurd h (by omega), False.elim⟩ ?_
        refine x_ifb_eq (tgt := 14) hx hb dX5_part_4 (by decide)  (fun c_4 => ?_) (fun c_4 => absurd c_4 id)
        refine x_sipush hx hb dX5_part_14 (by decide +kernel) ?_
        exact xe_i hx hb hrt hlocks hP hS ((by unfold am_part; simp only [Int.toNat_natCast]; simp only [sp_told_s hS_t2]; rw [sp_if_t (by omega)]; exact ⟨rfl, _, hM, hR, ho⟩)) dX5_part_17
    · refine lv_iload_n hx hb dX5_part_0 rfl (lv_at hl 1 rfl) ?_
      refine xt_i (As := [.int (xI z1)]) (rest := []) ⟨hx, hb, hml, hown, hts⟩ hl.1 (c_X5_isBuilder l z1 (by omega)) k_X5_isBuilder u_ml_RX5_70 rfl rfl (Nat.le_of_ble_eq_true rfl) ⟨Nat.le_of_ble_eq_true rfl, Nat.le_of_ble_eq_true rfl⟩ ⟨Nat.le_of_ble_eq_true rfl, Nat.le_of_ble_eq_true rfl⟩ dX5_part_1 ?_
      refine x_top (q1 := False) ⟨fun h => absurd h (by omega), False.elim⟩ ?_
      refine x_ifb_eq (tgt := 14) hx hb dX5_part_4 (by decide)  (fun c_4 => ?_) (fun c_4 => absurd c_4 id)
      refine x_sipush hx hb dX5_part_14 (by decide +kernel) ?_
      exact xe_i hx hb hrt hlocks hP hS ((by unfold am_part; rw [sp_if_t (by omega)]; exact ⟨rfl, _, hM, hR, ho⟩)) dX5_part_17

set_option maxRecDepth 20000 in
theorem c_X5_insert (l : Launch) (D : va_G) (cA : Nat → ClassId) (n : Nat) (ad : Nat → Nat) (en : Nat → va_E) (sz : Nat) (hn : 68 ≤ n) {M : MO} (hM : MW cA ad en M) {S : xSt} (hW : WF S) (hR : MR S M) (z1 : Int) (hz1 : -2147483648 ≤ z1 ∧ z1 ≤ 2147483647) (z2 : Int) (hz2 : -2147483648 ≤ z2 ∧ z2 ≤ 2147483647) (z3 : Int) (hz3 : -2147483648 ≤ z3 ∧ z3 ≤ 2147483647) : Met l yX5_insert (Cond.code yX5_insert cX5_insert 4 (some .int) :: xU) (xrm 2 45) (va_Pc [.ref (ad 53), .int (xI z1), .int (xI z2), .int (xI z3)] (xM D cA n ad en sz)) (va_Qi (fun r u => r = xI (am_insert S z1 z2 z3).1 ∧ ∃ M' : MO, MW cA ad u M' ∧ MR (am_insert S z1 z2 z3).2 M' ∧ xO 53 68 en u) (xE D n ad) (xA n ad sz)) 0 0 (xA n ad sz) := by
  refine xmet (by decide) (Nat.le_of_ble_eq_true rfl) (fun p e s mm args below meth c ls hx hb hrt hml hown hts hlocks hname hB hl => ?_)
  obtain ⟨⟨hP, hK, hN⟩, hsz, hDt⟩ := hB
  have hD : xD (xA n ad sz) n ad := xD_self hDt sz
  have hA : ∀ q : Nat, s.heap.size ≤ q → xA n ad sz q := fun q h => Or.inr (by rw [← hsz]; exact h)
  have hS : va_S (xA n ad sz) s.heap s.heap [] := va_S.rf
  have hown : s.vm.findClass RX5 = some mm.cls := hown
  have hl : lv_has ls 4 [(0, .ref (ad 53)), (1, .int (xI z1)), (2, .int (xI z2)), (3, .int (xI z3))] := hl
  have ho : xO 53 68 en en := xO.rf
  rcases Classical.em (0 ≤ z1 ∧ z1 < 4) with hx_z1 | hx_z1
  · obtain ⟨b1, rfl⟩ : ∃ q : Nat, z1 = (q : Int) := ⟨z1.toNat, by omega⟩
    have h_b1 : b1 < 4 := by omega
    rcases Classical.em (0 ≤ z3 ∧ z3 < 8) with hx_z3 | hx_z3
    · obtain ⟨t3, rfl⟩ : ∃ q : Nat, z3 = (q : Int) := ⟨z3.toNat, by omega⟩
      have h_t3 : t3 < 8 := by omega
      rcases hS_t3 : S.2.1 t3 with _ | r_t3
      · have hm_b1 := (hW.1 b1 h_b1).1
        have hfb_b1 := (hW.1 b1 h_b1).2
        have hB_b1 := hR.1 b1 h_b1
        have hz_b1 := hB_b1.1
        have hz_t3 : M.toldMany t3 = -1 := by have q := hR.2.1 t3 h_t3; rw [hS_t3] at q; exact q
        refine lv_iload_n hx hb dX5_insert_0 rfl (lv_at hl 1 rfl) ?_
        refine xt_i (As := [.int (xI (b1 : Int))]) (rest := []) ⟨hx, hb, hml, hown, hts⟩ hl.1 (c_X5_isBuilder l (b1 : Int) (by omega)) k_X5_isBuilder u_ml_RX5_70 rfl rfl (Nat.le_of_ble_eq_true rfl) ⟨Nat.le_of_ble_eq_true rfl, Nat.le_of_ble_eq_true rfl⟩ ⟨Nat.le_of_ble_eq_true rfl, Nat.le_of_ble_eq_true rfl⟩ dX5_insert_1 ?_
        refine x_top (q1 := True) ⟨fun _ => trivial, fun _ => by omega⟩ ?_
        refine x_ifb_eq (tgt := 14) hx hb dX5_insert_4 (by decide)  (fun c_4 => absurd trivial c_4) (fun c_4 => ?_)
        refine lv_iload_n hx hb dX5_insert_7 rfl (lv_at hl 3 rfl) ?_
        refine xt_i (As := [.int (xI (t3 : Int))]) (rest := []) ⟨hx, hb, hml, hown, hts⟩ hl.1 (c_X5_isText l (t3 : Int) (by omega)) k_X5_isText u_ml_RX5_87 rfl rfl (Nat.le_of_ble_eq_true rfl) ⟨Nat.le_of_ble_eq_true rfl, Nat.le_of_ble_eq_true rfl⟩ ⟨Nat.le_of_ble_eq_true rfl, Nat.le_of_ble_eq_true rfl⟩ dX5_insert_8 ?_
        refine x_top (q1 := True) ⟨fun _ => trivial, fun _ => by omega⟩ ?_
        refine x_ifb_ne (tgt := 18) hx hb dX5_insert_11 (by decide)  (fun c_11 => ?_) (fun c_11 => absurd trivial c_11)
        refine lv_iload_n hx hb dX5_insert_18 rfl (lv_at hl 2 rfl) ?_
        refine x_i2l hx hb dX5_insert_19 (by omega) ?_
        refine lv_lconst (v := xL 0) hx hb dX5_insert_20 (by decide +kernel) ?_
        refine lv_aload_n hx hb dX5_insert_21 rfl (lv_at hl 0 rfl) ?_
        refine x_get (T := TX5) (N := 17) hx hb hts uX5 hown hK hP (i := 53) (by omega) hM.1 rfl 1 (by decide) u_fl_RX5_13 rfl dX5_insert_22 ?_
        refine lv_iload_n hx hb dX5_insert_25 rfl (lv_at hl 1 rfl) ?_
        refine x_ild hx hb hK hP (i := 55) (by omega) hM.2.2.1 (x := ((S.1 b1).1 : Int)) (by omega) (congrArg xI hz_b1) dX5_insert_26 ?_
        refine x_i2l hx hb dX5_insert_27 (by omega) ?_
        refine xt_i (As := [.long (xL z2), .long (xL 0), .long (xL ((S.1 b1).1 : Int))]) (rest := []) ⟨hx, hb, hml, hown, hts⟩ hl.1 (c_X5_in l z2 0 ((S.1 b1).1 : Int) (by omega) (by omega) (by omega)) k_X5_in u_ml_RX5_54 rfl rfl (Nat.le_of_ble_eq_true rfl) ⟨Nat.le_of_ble_eq_true rfl, Nat.le_of_ble_eq_true rfl⟩ ⟨Nat.le_of_ble_eq_true rfl, Nat.le_of_ble_eq_true rfl⟩ dX5_insert_28 ?_
        refine x_ifb_ne (tgt := 38) hx hb dX5_insert_31 (by decide)  (fun c_31 => ?_) (fun c_31 => ?_)
        · obtain ⟨a2, hv_z2⟩ : ∃ q : Nat, z2 = (q : Int) := ⟨Int.toNat z2, by omega⟩
          have hl : lv_has ls 4 [(0, .ref (ad 53)), (1, .int (xI (b1 : Int))), (2, .int (xI (a2 : Int))), (3, .int (xI (t3 : Int)))] := by rw [← hv_z2]; exact hl
          refine lv_aload_n hx hb dX5_insert_38 rfl (lv_at hl 0 rfl) ?_
          refine lv_iload_n hx hb dX5_insert_39 rfl (lv_at hl 3 rfl) ?_
          refine xm_v (i := 53) (As := [.int (xI (t3 : Int))]) (rest := []) ⟨hx, hb, hml, hown, hts⟩ hl.1 (c_X5_layText_none l D cA n ad en _ hn hM t3 h_t3 hz_t3) k_X5_layText u_ml_RX5_90 hK hN hP (by omega) hM.1 rfl rfl rfl rfl (Nat.le_of_ble_eq_true rfl) ⟨Nat.le_of_ble_eq_true rfl, Nat.le_of_ble_eq_true rfl⟩ ⟨Nat.le_of_ble_eq_true rfl, Nat.le_of_ble_eq_true rfl⟩ dX5_insert_40 hD hS hA (fun en1 H locs hp1 hP hS => ?_)
          obtain ⟨F9, hF9, hM, ho2⟩ := hp1
          have hM : MW cA ad en1 (mO M.built M.builtMany M.told M.toldMany F9 ((4 : Nat) : Int) M.figures M.partText M.partFrom M.partMany M.parts M.cut M.cutMany M.isCut M.cutGives M.cutAt M.h) := hM
          have ho := ho.tr ho2
          refine lv_aload_n hx hb dX5_insert_43 rfl (lv_at hl 0 rfl) ?_
          refine lv_iload_n hx hb dX5_insert_44 rfl (lv_at hl 1 rfl) ?_
          refine lv_iload_n hx hb dX5_insert_45 rfl (lv_at hl 2 rfl) ?_
          refine lv_iload_n hx hb dX5_insert_46 rfl (lv_at hl 2 rfl) ?_
          refine xm_i (i := 53) (As := [.int (xI (b1 : Int)), .int (xI (a2 : Int)), .int (xI (a2 : Int))]) (rest := []) ⟨hx, hb, hml, hown, hts⟩ hl.1 (c_X5_edit l D cA n ad en1 _ hn hM b1 h_b1 a2 a2 (S.1 b1).1 hz_b1 hm_b1 (by omega) (by omega) 4 (show ((4 : Nat) : Int) = ((4 : Nat) : Int) from by omega) (by omega)) k_X5_edit u_ml_RX5_66 hK hN hP (by omega) (show en1 53 = .inr (5, [.ref (ad 54), .ref (ad 55), .ref (ad 56), .ref (ad 57), .ref (ad 58), .int (xI ((4 : Nat) : Int)), .ref (ad 59), .ref (ad 60), .ref (ad 61), .ref (ad 62), .int (xI M.parts), .ref (ad 63), .ref (ad 64), .ref (ad 65), .ref (ad 66), .ref (ad 67), .long M.h]) from hM.1) rfl rfl rfl rfl (Nat.le_of_ble_eq_true rfl) ⟨Nat.le_of_ble_eq_true rfl, Nat.le_of_ble_eq_true rfl⟩ ⟨Nat.le_of_ble_eq_true rfl, Nat.le_of_ble_eq_true rfl⟩ dX5_insert_47 hD hS hA (fun r2 en2 H locs hp2 hP hS => ?_)
          rcases hp2 with ⟨hfu, hrv, hu⟩ | ⟨hfu, z7, F7, hrv, hz7, hF7, hG7, hM, ho2⟩
          · subst hrv
            rw [hu] at hP
            exact xe_i hx hb hrt hlocks hP hS ((by unfold am_insert; simp only [Int.toNat_natCast]; simp only [sp_told_n hS_t3]; rw [sp_if_f (by omega), sp_if_f (by omega)]; (try rw [show Int.toNat z2 = a2 by omega]); have q9 := m_full hR (b := b1) (a := a2) (d := a2) (k9 := 4) (r0 := ((4, sp_four) : xRow)) (by omega) (by omega) (by first | rfl | omega | (dsimp only; omega)) hfu; exact ⟨q9.1, _, hM, q9.2, ho⟩)) dX5_insert_50
          · subst hrv
            have ho := ho.tr ho2
            have hM : MW cA ad en2 (mO F7 (sp_up M.builtMany b1 z7) M.told M.toldMany F9 ((4 : Nat) : Int) M.figures M.partText M.partFrom M.partMany M.parts M.cut M.cutMany M.isCut M.cutGives M.cutAt M.h) := hM
            exact xe_i hx hb hrt hlocks hP hS ((by unfold am_insert; simp only [Int.toNat_natCast]; simp only [sp_told_n hS_t3]; rw [sp_if_f (by omega), sp_if_f (by omega)]; (try rw [show Int.toNat z2 = a2 by omega]); have q9 := m_edt hR hW h_b1 (a := a2) (d := a2) (k9 := 4) (r0 := ((4, sp_four) : xRow)) (by omega) (by omega) (by first | rfl | omega | (dsimp only; omega)) hfu hz7 hF7 hG7 hF9; exact ⟨q9.1, _, hM, q9.2, ho⟩)) dX5_insert_50
        · refine x_sipush hx hb dX5_insert_34 (by decide +kernel) ?_
          exact xe_i hx hb hrt hlocks hP hS ((by unfold am_insert; simp only [Int.toNat_natCast]; simp only [sp_told_n hS_t3]; rw [sp_if_f (by omega), sp_if_t (by omega)]; exact ⟨rfl, _, hM, hR, ho⟩)) dX5_insert_37
      · have hm_b1 := (hW.1 b1 h_b1).1
        have hfb_b1 := (hW.1 b1 h_b1).2
        have hB_b1 := hR.1 b1 h_b1
        have hz_b1 := hB_b1.1
        have hT_t3 : M.toldMany t3 = (r_t3.1 : Int) ∧ ∀ k : Nat, k < r_t3.1 → M.told (200 * t3 + k) = r_t3.2 k := by have q := hR.2.1 t3 h_t3; rw [hS_t3] at q; exact q
        have hz_t3 := hT_t3.1
        have hm_t3 := (hW.2.1 t3 r_t3 h_t3 hS_t3).1
        have hfb_t3 := (hW.2.1 t3 r_t3 h_t3 hS_t3).2
        refine lv_iload_n hx hb dX5_insert_0 rfl (lv_at hl 1 rfl) ?_
        refine xt_i (As := [.int (xI (b1 : Int))]) (rest := []) ⟨hx, hb, hml, hown, hts⟩ hl.1 (c_X5_isBuilder l (b1 : Int) (by omega)) k_X5_isBuilder u_ml_RX5_70 rfl rfl (Nat.le_of_ble_eq_true rfl) ⟨Nat.le_of_ble_eq_true rfl, Nat.le_of_ble_eq_true rfl⟩ ⟨Nat.le_of_ble_eq_true rfl, Nat.le_of_ble_eq_true rfl⟩ dX5_insert_1 ?_
        refine x_top (q1 := True) ⟨fun _ => trivial, fun _ => by omega⟩ ?_
        refine x_ifb_eq (tgt := 14) hx hb dX5_insert_4 (by decide)  (fun c_4 => absurd trivial c_4) (fun c_4 => ?_)
        refine lv_iload_n hx hb dX5_insert_7 rfl (lv_at hl 3 rfl) ?_
        refine xt_i (As := [.int (xI (t3 : Int))]) (rest := []) ⟨hx, hb, hml, hown, hts⟩ hl.1 (c_X5_isText l (t3 : Int) (by omega)) k_X5_isText u_ml_RX5_87 rfl rfl (Nat.le_of_ble_eq_true rfl) ⟨Nat.le_of_ble_eq_true rfl, Nat.le_of_ble_eq_true rfl⟩ ⟨Nat.le_of_ble_eq_true rfl, Nat.le_of_ble_eq_true rfl⟩ dX5_insert_8 ?_
        refine x_top (q1 := True) ⟨fun _ => trivial, fun _ => by omega⟩ ?_
        refine x_ifb_ne (tgt := 18) hx hb dX5_insert_11 (by decide)  (fun c_11 => ?_) (fun c_11 => absurd trivial c_11)
        refine lv_iload_n hx hb dX5_insert_18 rfl (lv_at hl 2 rfl) ?_
        refine x_i2l hx hb dX5_insert_19 (by omega) ?_
        refine lv_lconst (v := xL 0) hx hb dX5_insert_20 (by decide +kernel) ?_
        refine lv_aload_n hx hb dX5_insert_21 rfl (lv_at hl 0 rfl) ?_
        refine x_get (T := TX5) (N := 17) hx hb hts uX5 hown hK hP (i := 53) (by omega) hM.1 rfl 1 (by decide) u_fl_RX5_13 rfl dX5_insert_22 ?_
        refine lv_iload_n hx hb dX5_insert_25 rfl (lv_at hl 1 rfl) ?_
        refine x_ild hx hb hK hP (i := 55) (by omega) hM.2.2.1 (x := ((S.1 b1).1 : Int)) (by omega) (congrArg xI hz_b1) dX5_insert_26 ?_
        refine x_i2l hx hb dX5_insert_27 (by omega) ?_
        refine xt_i (As := [.long (xL z2), .long (xL 0), .long (xL ((S.1 b1).1 : Int))]) (rest := []) ⟨hx, hb, hml, hown, hts⟩ hl.1 (c_X5_in l z2 0 ((S.1 b1).1 : Int) (by omega) (by omega) (by omega)) k_X5_in u_ml_RX5_54 rfl rfl (Nat.le_of_ble_eq_true rfl) ⟨Nat.le_of_ble_eq_true rfl, Nat.le_of_ble_eq_true rfl⟩ ⟨Nat.le_of_ble_eq_true rfl, Nat.le_of_ble_eq_true rfl⟩ dX5_insert_28 ?_
        refine x_ifb_ne (tgt := 38) hx hb dX5_insert_31 (by decide)  (fun c_31 => ?_) (fun c_31 => ?_)
        · obtain ⟨a2, hv_z2⟩ : ∃ q : Nat, z2 = (q : Int) := ⟨Int.toNat z2, by omega⟩
          have hl : lv_has ls 4 [(0, .ref (ad 53)), (1, .int (xI (b1 : Int))), (2, .int (xI (a2 : Int))), (3, .int (xI (t3 : Int)))] := by rw [← hv_z2]; exact hl
          refine lv_aload_n hx hb dX5_insert_38 rfl (lv_at hl 0 rfl) ?_
          refine lv_iload_n hx hb dX5_insert_39 rfl (lv_at hl 3 rfl) ?_
          refine xm_v (i := 53) (As := [.int (xI (t3 : Int))]) (rest := []) ⟨hx, hb, hml, hown, hts⟩ hl.1 (c_X5_layText_some l D cA n ad en _ hn hM t3 h_t3 (r := r_t3) hz_t3 hm_t3 hT_t3.2) k_X5_layText u_ml_RX5_90 hK hN hP (by omega) hM.1 rfl rfl rfl rfl (Nat.le_of_ble_eq_true rfl) ⟨Nat.le_of_ble_eq_true rfl, Nat.le_of_ble_eq_true rfl⟩ ⟨Nat.le_of_ble_eq_true rfl, Nat.le_of_ble_eq_true rfl⟩ dX5_insert_40 hD hS hA (fun en3 H locs hp3 hP hS => ?_)
          obtain ⟨F9, hF9, hM, ho2⟩ := hp3
          have hM : MW cA ad en3 (mO M.built M.builtMany M.told M.toldMany F9 (r_t3.1 : Int) M.figures M.partText M.partFrom M.partMany M.parts M.cut M.cutMany M.isCut M.cutGives M.cutAt M.h) := hM
          have ho := ho.tr ho2
          refine lv_aload_n hx hb dX5_insert_43 rfl (lv_at hl 0 rfl) ?_
          refine lv_iload_n hx hb dX5_insert_44 rfl (lv_at hl 1 rfl) ?_
          refine lv_iload_n hx hb dX5_insert_45 rfl (lv_at hl 2 rfl) ?_
          refine lv_iload_n hx hb dX5_insert_46 rfl (lv_at hl 2 rfl) ?_
          refine xm_i (i := 53) (As := [.int (xI (b1 : Int)), .int (xI (a2 : Int)), .int (xI (a2 : Int))]) (rest := []) ⟨hx, hb, hml, hown, hts⟩ hl.1 (c_X5_edit l D cA n ad en3 _ hn hM b1 h_b1 a2 a2 (S.1 b1).1 hz_b1 hm_b1 (by omega) (by omega) r_t3.1 (show (r_t3.1 : Int) = ((r_t3.1 : Nat) : Int) from by omega) (by omega)) k_X5_edit u_ml_RX5_66 hK hN hP (by omega) (show en3 53 = .inr (5, [.ref (ad 54), .ref (ad 55), .ref (ad 56), .ref (ad 57), .ref (ad 58), .int (xI (r_t3.1 : Int)), .ref (ad 59), .ref (ad 60), .ref (ad 61), .ref (ad 62), .int (xI M.parts), .ref (ad 63), .ref (ad 64), .ref (ad 65), .ref (ad 66), .ref (ad 67), .long M.h]) from hM.1) rfl rfl rfl rfl (Nat.le_of_ble_eq_true rfl) ⟨Nat.le_of_ble_eq_true rfl, Nat.le_of_ble_eq_true rfl⟩ ⟨Nat.le_of_ble_eq_true rfl, Nat.le_of_ble_eq_true rfl⟩ dX5_insert_47 hD hS hA (fun r4 en4 H locs hp4 hP hS => ?_)
          rcases hp4 with ⟨hfu, hrv, hu⟩ | ⟨hfu, z7, F7, hrv, hz7, hF7, hG7, hM, ho2⟩
          · subst hrv
            rw [hu] at hP
            exact xe_i hx hb hrt hlocks hP hS ((by unfold am_insert; simp only [Int.toNat_natCast]; simp only [sp_told_s hS_t3]; rw [sp_if_f (by omega), sp_if_f (by omega)]; (try rw [show Int.toNat z2 = a2 by omega]); have q9 := m_full hR (b := b1) (a := a2) (d := a2) (k9 := r_t3.1) (r0 := r_t3) (by omega) (by omega) (by first | rfl | omega | (dsimp only; omega)) hfu; exact ⟨q9.1, _, hM, q9.2, ho⟩)) dX5_insert_50
          · subst hrv
            have ho := ho.tr ho2
            have hM : MW cA ad en4 (mO F7 (sp_up M.builtMany b1 z7) M.told M.toldMany F9 (r_t3.1 : Int) M.figures M.partText M.partFrom M.partMany M.parts M.cut M.cutMany M.isCut M.cutGives M.cutAt M.h) := hM
            exact xe_i hx hb hrt hlocks hP hS ((by unfold am_insert; simp only [Int.toNat_natCast]; simp only [sp_told_s hS_t3]; rw [sp_if_f (by omega), sp_if_f (by omega)]; (try rw [show Int.toNat z2 = a2 by omega]); have q9 := m_edt hR hW h_b1 (a := a2) (d := a2) (k9 := r_t3.1) (r0 := r_t3) (by omega) (by omega) (by first | rfl | omega | (dsimp only; omega)) hfu hz7 hF7 hG7 hF9; exact ⟨q9.1, _, hM, q9.2, ho⟩)) dX5_insert_50
        · refine x_sipush hx hb dX5_insert_34 (by decide +kernel) ?_
          exact xe_i hx hb hrt hlocks hP hS ((by unfold am_insert; simp only [Int.toNat_natCast]; simp only [sp_told_s hS_t3]; rw [sp_if_f (by omega), sp_if_t (by omega)]; exact ⟨rfl, _, hM, hR, ho⟩)) dX5_insert_37
    · have hm_b1 := (hW.1 b1 h_b1).1
      have hfb_b1 := (hW.1 b1 h_b1).2
      have hB_b1 := hR.1 b1 h_b1
      have hz_b1 := hB_b1.1
      refine lv_iload_n hx hb dX5_insert_0 rfl (lv_at hl 1 rfl) ?_
      refine xt_i (As := [.int (xI (b1 : Int))]) (rest := []) ⟨hx, hb, hml, hown, hts⟩ hl.1 (c_X5_isBuilder l (b1 : Int) (by omega)) k_X5_isBuilder u_ml_RX5_70 rfl rfl (Nat.le_of_ble_eq_true rfl) ⟨Nat.le_of_ble_eq_true rfl, Nat.le_of_ble_eq_true rfl⟩ ⟨Nat.le_of_ble_eq_true rfl, Nat.le_of_ble_eq_true rfl⟩ dX5_insert_1 ?_
      refine x_top (q1 := True) ⟨fun _ => trivial, fun _ => by omega⟩ ?_
      refine x_ifb_eq (tgt := 14) hx hb dX5_insert_4 (by decide)  (fun c_4 => absurd trivial c_4) (fun c_4 => ?_)
      refine lv_iload_n hx hb dX5_insert_7 rfl (lv_at hl 3 rfl) ?_
      refine xt_i (As := [.int (xI z3)]) (rest := []) ⟨hx, hb, hml, hown, hts⟩ hl.1 (c_X5_isText l z3 (by omega)) k_X5_isText u_ml_RX5_87 rfl rfl (Nat.le_of_ble_eq_true rfl) ⟨Nat.le_of_ble_eq_true rfl, Nat.le_of_ble_eq_true rfl⟩ ⟨Nat.le_of_ble_eq_true rfl, Nat.le_of_ble_eq_true rfl⟩ dX5_insert_8 ?_
      refine x_top (q1 := False) ⟨fun h => absurd h (by omega), False.elim⟩ ?_
      refine x_ifb_ne (tgt := 18) hx hb dX5_insert_11 (by decide)  (fun c_11 => absurd c_11 id) (fun c_11 => ?_)
      refine x_sipush hx hb dX5_insert_14 (by decide +kernel) ?_
      exact xe_i hx hb hrt hlocks hP hS ((by unfold am_insert; simp only [Int.toNat_natCast]; rw [sp_if_t (by omega)]; exact ⟨rfl, _, hM, hR, ho⟩)) dX5_insert_17
  · rcases Classical.em (0 ≤ z3 ∧ z3 < 8) with hx_z3 | hx_z3
    · obtain ⟨t3, rfl⟩ : ∃ q : Nat, z3 = (q : Int) := ⟨z3.toNat, by omega⟩
      have h_t3 : t3 < 8 := by omega
      rcases hS_t3 : S.2.1 t3 with _ | r_t3
      · have hz_t3 : M.toldMany t3 = -1 := by have q := hR.2.1 t3 h_t3; rw [hS_t3] at q; exact q
        refine lv_iload_n hx hb dX5_insert_0 rfl (lv_at hl 1 rfl) ?_
        refine xt_i (As := [.int (xI z1)]) (rest := []) ⟨hx, hb, hml, hown, hts⟩ hl.1 (c_X5_isBuilder l z1 (by omega)) k_X5_isBuilder u_ml_RX5_70 rfl rfl (Nat.le_of_ble_eq_true rfl) ⟨Nat.le_of_ble_eq_true rfl, Nat.le_of_ble_eq_true rfl⟩ ⟨Nat.le_of_ble_eq_true rfl, Nat.le_of_ble_eq_true rfl⟩ dX5_insert_1 ?_
        refine x_top (q1 := False) ⟨fun h => absurd h (by omega), False.elim⟩ ?_
        refine x_ifb_eq (tgt := 14) hx hb dX5_insert_4 (by decide)  (fun c_4 => ?_) (fun c_4 => absurd c_4 id)
        refine x_sipush hx hb dX5_insert_14 (by decide +kernel) ?_
        exact xe_i hx hb hrt hlocks hP hS ((by unfold am_insert; simp only [Int.toNat_natCast]; simp only [sp_told_n hS_t3]; rw [sp_if_t (by omega)]; exact ⟨rfl, _, hM, hR, ho⟩)) dX5_insert_17
      · have hT_t3 : M.toldMany t3 = (r_t3.1 : Int) ∧ ∀ k : Nat, k < r_t3.1 → M.told (200 * t3 + k) = r_t3.2 k := by have q := hR.2.1 t3 h_t3; rw [hS_t3] at q; exact q
        have hz_t3 := hT_t3.1
        have hm_t3 := (hW.2.1 t3 r_t3 h_t3 hS_t3).1
        have hfb_t3 := (hW.2.1 t3 r_t3 h_t3 hS_t3).2
        refine lv_iload_n hx hb dX5_insert_0 rfl (lv_at hl 1 rfl) ?_
        refine xt_i (As := [.int (xI z1)]) (rest := []) ⟨hx, hb, hml, hown, hts⟩ hl.1 (c_X5_isBuilder l z1 (by omega)) k_X5_isBuilder u_ml_RX5_70 rfl rfl (Nat.le_of_ble_eq_true rfl) ⟨Nat.le_of_ble_eq_true rfl, Nat.le_of_ble_eq_true rfl⟩ ⟨Nat.le_of_ble_eq_true rfl, Nat.le_of_ble_eq_true rfl⟩ dX5_insert_1 ?_
        refine x_top (q1 := False) ⟨fun h => absurd h (by omega), False.elim⟩ ?_
        refine x_ifb_eq (tgt := 14) hx hb dX5_insert_4 (by decide)  (fun c_4 => ?_) (fun c_4 => absurd c_4 id)
        refine x_sipush hx hb dX5_insert_14 (by decide +kernel) ?_
        exact xe_i hx hb hrt hlocks hP hS ((by unfold am_insert; simp only [Int.toNat_natCast]; simp only [sp_told_s hS_t3]; rw [sp_if_t (by omega)]; exact ⟨rfl, _, hM, hR, ho⟩)) dX5_insert_17
    · refine lv_iload_n hx hb dX5_insert_0 rfl (lv_at hl 1 rfl) ?_
      refine xt_i (As := [.int (xI z1)]) (rest := []) ⟨hx, hb, hml, hown, hts⟩ hl.1 (c_X5_isBuilder l z1 (by omega)) k_X5_isBuilder u_ml_RX5_70 rfl rfl (Nat.le_of_ble_eq_true rfl) ⟨Nat.le_of_ble_eq_true rfl, Nat.le_of_ble_eq_true rfl⟩ ⟨Nat.le_of_ble_eq_true rfl, Nat.le_of_ble_eq_true rfl⟩ dX5_insert_1 ?_
      refine x_top (q1 := False) ⟨fun h => absurd h (by omega), False.elim⟩ ?_
      refine x_ifb_eq (tgt := 14) hx hb dX5_insert_4 (by decide)  (fun c_4 => ?_) (fun c_4 => absurd c_4 id)
      refine x_sipush hx hb dX5_insert_14 (by decide +kernel) ?_
      exact xe_i hx hb hrt hlocks hP hS ((by unfold am_insert; rw [sp_if_t (by omega)]; exact ⟨rfl, _, hM, hR, ho⟩)) dX5_insert_17

set_option maxRecDepth 20000 in
theorem c_X5_insertPart (l : Launch) (D : va_G) (cA : Nat → ClassId) (n : Nat) (ad : Nat → Nat) (en : Nat → va_E) (sz : Nat) (hn : 68 ≤ n) {M : MO} (hM : MW cA ad en M) {S : xSt} (hW : WF S) (hR : MR S M) (z1 : Int) (hz1 : -2147483648 ≤ z1 ∧ z1 ≤ 2147483647) (z2 : Int) (hz2 : -2147483648 ≤ z2 ∧ z2 ≤ 2147483647) (z3 : Int) (hz3 : -2147483648 ≤ z3 ∧ z3 ≤ 2147483647) (z4 : Int) (hz4 : -2147483648 ≤ z4 ∧ z4 ≤ 2147483647) (z5 : Int) (hz5 : -2147483648 ≤ z5 ∧ z5 ≤ 2147483647) : Met l yX5_insertPart (Cond.code yX5_insertPart cX5_insertPart 6 (some .int) :: xU) (xrm 2 45) (va_Pc [.ref (ad 53), .int (xI z1), .int (xI z2), .int (xI z3), .int (xI z4), .int (xI z5)] (xM D cA n ad en sz)) (va_Qi (fun r u => r = xI (am_insertPart S z1 z2 z3 z4 z5).1 ∧ ∃ M' : MO, MW cA ad u M' ∧ MR (am_insertPart S z1 z2 z3 z4 z5).2 M' ∧ xO 53 68 en u) (xE D n ad) (xA n ad sz)) 0 0 (xA n ad sz) := by
  refine xmet (by decide) (Nat.le_of_ble_eq_true rfl) (fun p e s mm args below meth c ls hx hb hrt hml hown hts hlocks hname hB hl => ?_)
  obtain ⟨⟨hP, hK, hN⟩, hsz, hDt⟩ := hB
  have hD : xD (xA n ad sz) n ad := xD_self hDt sz
  have hA : ∀ q : Nat, s.heap.size ≤ q → xA n ad sz q := fun q h => Or.inr (by rw [← hsz]; exact h)
  have hS : va_S (xA n ad sz) s.heap s.heap [] := va_S.rf
  have hown : s.vm.findClass RX5 = some mm.cls := hown
  have hl : lv_has ls 6 [(0, .ref (ad 53)), (1, .int (xI z1)), (2, .int (xI z2)), (3, .int (xI z3)), (4, .int (xI z4)), (5, .int (xI z5))] := hl
  have ho : xO 53 68 en en := xO.rf
  rcases Classical.em (0 ≤ z1 ∧ z1 < 4) with hx_z1 | hx_z1
  · obtain ⟨b1, rfl⟩ : ∃ q : Nat, z1 = (q : Int) := ⟨z1.toNat, by omega⟩
    have h_b1 : b1 < 4 := by omega
    rcases Classical.em (0 ≤ z3 ∧ z3 < 8) with hx_z3 | hx_z3
    · obtain ⟨t3, rfl⟩ : ∃ q : Nat, z3 = (q : Int) := ⟨z3.toNat, by omega⟩
      have h_t3 : t3 < 8 := by omega
      rcases hS_t3 : S.2.1 t3 with _ | r_t3
      · have hm_b1 := (hW.1 b1 h_b1).1
        have hfb_b1 := (hW.1 b1 h_b1).2
        have hB_b1 := hR.1 b1 h_b1
        have hz_b1 := hB_b1.1
        have hz_t3 : M.toldMany t3 = -1 := by have q := hR.2.1 t3 h_t3; rw [hS_t3] at q; exact q
        refine lv_iload_n hx hb dX5_insertPart_0 rfl (lv_at hl 1 rfl) ?_
        refine xt_i (As := [.int (xI (b1 : Int))]) (rest := []) ⟨hx, hb, hml, hown, hts⟩ hl.1 (c_X5_isBuilder l (b1 : Int) (by omega)) k_X5_isBuilder u_ml_RX5_70 rfl rfl (Nat.le_of_ble_eq_true rfl) ⟨Nat.le_of_ble_eq_true rfl, Nat.le_of_ble_eq_true rfl⟩ ⟨Nat.le_of_ble_eq_true rfl, Nat.le_of_ble_eq_true rfl⟩ dX5_insertPart_1 ?_
        refine x_top (q1 := True) ⟨fun _ => trivial, fun _ => by omega⟩ ?_
        refine x_ifb_eq (tgt := 14) hx hb dX5_insertPart_4 (by decide)  (fun c_4 => absurd trivial c_4) (fun c_4 => ?_)
        refine lv_iload_n hx hb dX5_insertPart_7 rfl (lv_at hl 3 rfl) ?_
        refine xt_i (As := [.int (xI (t3 : Int))]) (rest := []) ⟨hx, hb, hml, hown, hts⟩ hl.1 (c_X5_isText l (t3 : Int) (by omega)) k_X5_isText u_ml_RX5_87 rfl rfl (Nat.le_of_ble_eq_true rfl) ⟨Nat.le_of_ble_eq_true rfl, Nat.le_of_ble_eq_true rfl⟩ ⟨Nat.le_of_ble_eq_true rfl, Nat.le_of_ble_eq_true rfl⟩ dX5_insertPart_8 ?_
        refine x_top (q1 := True) ⟨fun _ => trivial, fun _ => by omega⟩ ?_
        refine x_ifb_ne (tgt := 18) hx hb dX5_insertPart_11 (by decide)  (fun c_11 => ?_) (fun c_11 => absurd trivial c_11)
        refine lv_aload_n hx hb dX5_insertPart_18 rfl (lv_at hl 0 rfl) ?_
        refine lv_iload_n hx hb dX5_insertPart_19 rfl (lv_at hl 3 rfl) ?_
        refine xm_v (i := 53) (As := [.int (xI (t3 : Int))]) (rest := []) ⟨hx, hb, hml, hown, hts⟩ hl.1 (c_X5_layText_none l D cA n ad en _ hn hM t3 h_t3 hz_t3) k_X5_layText u_ml_RX5_90 hK hN hP (by omega) hM.1 rfl rfl rfl rfl (Nat.le_of_ble_eq_true rfl) ⟨Nat.le_of_ble_eq_true rfl, Nat.le_of_ble_eq_true rfl⟩ ⟨Nat.le_of_ble_eq_true rfl, Nat.le_of_ble_eq_true rfl⟩ dX5_insertPart_20 hD hS hA (fun en1 H locs hp1 hP hS => ?_)
        obtain ⟨F9, hF9, hM, ho2⟩ := hp1
        have hM : MW cA ad en1 (mO M.built M.builtMany M.told M.toldMany F9 ((4 : Nat) : Int) M.figures M.partText M.partFrom M.partMany M.parts M.cut M.cutMany M.isCut M.cutGives M.cutAt M.h) := hM
        have ho := ho.tr ho2
        refine lv_iload_n hx hb dX5_insertPart_23 rfl (lv_at hl 2 rfl) ?_
        refine x_i2l hx hb dX5_insertPart_24 (by omega) ?_
        refine lv_lconst (v := xL 0) hx hb dX5_insertPart_25 (by decide +kernel) ?_
        refine lv_aload_n hx hb dX5_insertPart_26 rfl (lv_at hl 0 rfl) ?_
        refine x_get (T := TX5) (N := 17) hx hb hts uX5 hown hK hP (i := 53) (by omega) (show en1 53 = .inr (5, [.ref (ad 54), .ref (ad 55), .ref (ad 56), .ref (ad 57), .ref (ad 58), .int (xI ((4 : Nat) : Int)), .ref (ad 59), .ref (ad 60), .ref (ad 61), .ref (ad 62), .int (xI M.parts), .ref (ad 63), .ref (ad 64), .ref (ad 65), .ref (ad 66), .ref (ad 67), .long M.h]) from hM.1) rfl 1 (by decide) u_fl_RX5_13 rfl dX5_insertPart_27 ?_
        refine lv_iload_n hx hb dX5_insertPart_30 rfl (lv_at hl 1 rfl) ?_
        refine x_ild hx hb hK hP (i := 55) (by omega) hM.2.2.1 (x := ((S.1 b1).1 : Int)) (by omega) (congrArg xI hz_b1) dX5_insertPart_31 ?_
        refine x_i2l hx hb dX5_insertPart_32 (by omega) ?_
        refine xt_i (As := [.long (xL z2), .long (xL 0), .long (xL ((S.1 b1).1 : Int))]) (rest := []) ⟨hx, hb, hml, hown, hts⟩ hl.1 (c_X5_in l z2 0 ((S.1 b1).1 : Int) (by omega) (by omega) (by omega)) k_X5_in u_ml_RX5_54 rfl rfl (Nat.le_of_ble_eq_true rfl) ⟨Nat.le_of_ble_eq_true rfl, Nat.le_of_ble_eq_true rfl⟩ ⟨Nat.le_of_ble_eq_true rfl, Nat.le_of_ble_eq_true rfl⟩ dX5_insertPart_33 ?_
        refine x_ifb_eq (tgt := 60) hx hb dX5_insertPart_36 (by decide)  (fun c_36 => ?_) (fun c_36 => ?_)
        · refine x_sipush hx hb dX5_insertPart_60 (by decide +kernel) ?_
          exact xe_i hx hb hrt hlocks hP hS ((by unfold am_insertPart; simp only [Int.toNat_natCast]; simp only [sp_told_n hS_t3]; rw [sp_if_f (by omega), sp_if_t (by omega)]; exact ⟨rfl, _, hM, hR, ho⟩)) dX5_insertPart_63
        · refine lv_iload hx hb dX5_insertPart_39 (lv_at hl 4 rfl) ?_
          refine x_if_lt (tgt := 60) hx hb dX5_insertPart_41 (by decide) (by omega) (fun c_41 => ?_) (fun c_41 => ?_)
          · refine x_sipush hx hb dX5_insertPart_60 (by decide +kernel) ?_
            exact xe_i hx hb hrt hlocks hP hS ((by unfold am_insertPart; simp only [Int.toNat_natCast]; simp only [sp_told_n hS_t3]; rw [sp_if_f (by omega), sp_if_t (by omega)]; exact ⟨rfl, _, hM, hR, ho⟩)) dX5_insertPart_63
          · refine lv_iload hx hb dX5_insertPart_44 (lv_at hl 5 rfl) ?_
            refine lv_aload_n hx hb dX5_insertPart_46 rfl (lv_at hl 0 rfl) ?_
            refine x_get (T := TX5) (N := 17) hx hb hts uX5 hown hK hP (i := 53) (by omega) (show en1 53 = .inr (5, [.ref (ad 54), .ref (ad 55), .ref (ad 56), .ref (ad 57), .ref (ad 58), .int (xI ((4 : Nat) : Int)), .ref (ad 59), .ref (ad 60), .ref (ad 61), .ref (ad 62), .int (xI M.parts), .ref (ad 63), .ref (ad 64), .ref (ad 65), .ref (ad 66), .ref (ad 67), .long M.h]) from hM.1) rfl 5 (by decide) u_fl_RX5_62 rfl dX5_insertPart_47 ?_
            refine x_icmp_gt (tgt := 60) hx hb dX5_insertPart_50 (by decide) (by omega) (fun c_50 => ?_) (fun c_50 => ?_)
            · refine x_sipush hx hb dX5_insertPart_60 (by decide +kernel) ?_
              exact xe_i hx hb hrt hlocks hP hS ((by unfold am_insertPart; simp only [Int.toNat_natCast]; simp only [sp_told_n hS_t3]; rw [sp_if_f (by omega), sp_if_t (by omega)]; exact ⟨rfl, _, hM, hR, ho⟩)) dX5_insertPart_63
            · refine lv_iload hx hb dX5_insertPart_53 (lv_at hl 4 rfl) ?_
              refine lv_iload hx hb dX5_insertPart_55 (lv_at hl 5 rfl) ?_
              refine x_icmp_le (tgt := 64) hx hb dX5_insertPart_57 (by decide) (by omega) (fun c_57 => ?_) (fun c_57 => ?_)
              · obtain ⟨a4, hv_z4⟩ : ∃ q : Nat, z4 = (q : Int) := ⟨Int.toNat z4, by omega⟩
                obtain ⟨a5, hv_z5⟩ : ∃ q : Nat, z5 = (q : Int) := ⟨Int.toNat z5, by omega⟩
                obtain ⟨a2, hv_z2⟩ : ∃ q : Nat, z2 = (q : Int) := ⟨Int.toNat z2, by omega⟩
                have hl : lv_has ls 6 [(0, .ref (ad 53)), (1, .int (xI (b1 : Int))), (2, .int (xI (a2 : Int))), (3, .int (xI (t3 : Int))), (4, .int (xI (a4 : Int))), (5, .int (xI (a5 : Int)))] := by rw [← hv_z4, ← hv_z5, ← hv_z2]; exact hl
                refine lv_aload_n hx hb dX5_insertPart_64 rfl (lv_at hl 0 rfl) ?_
                refine lv_iload hx hb dX5_insertPart_65 (lv_at hl 4 rfl) ?_
                refine lv_iload hx hb dX5_insertPart_67 (lv_at hl 5 rfl) ?_
                refine xm_v (i := 53) (As := [.int (xI (a4 : Int)), .int (xI (a5 : Int))]) (rest := []) ⟨hx, hb, hml, hown, hts⟩ hl.1 (c_X5_clip l D cA n ad en1 _ hn hM a4 a5 (by omega) (by omega)) k_X5_clip u_ml_RX5_93 hK hN hP (by omega) (show en1 53 = .inr (5, [.ref (ad 54), .ref (ad 55), .ref (ad 56), .ref (ad 57), .ref (ad 58), .int (xI ((4 : Nat) : Int)), .ref (ad 59), .ref (ad 60), .ref (ad 61), .ref (ad 62), .int (xI M.parts), .ref (ad 63), .ref (ad 64), .ref (ad 65), .ref (ad 66), .ref (ad 67), .long M.h]) from hM.1) rfl rfl rfl rfl (Nat.le_of_ble_eq_true rfl) ⟨Nat.le_of_ble_eq_true rfl, Nat.le_of_ble_eq_true rfl⟩ ⟨Nat.le_of_ble_eq_true rfl, Nat.le_of_ble_eq_true rfl⟩ dX5_insertPart_69 hD hS hA (fun en2 H locs hp2 hP hS => ?_)
                obtain ⟨Fc, hFc, hM, ho2⟩ := hp2
                have hM : MW cA ad en2 (mO M.built M.builtMany M.told M.toldMany Fc ((a5 : Int) - (a4 : Int)) M.figures M.partText M.partFrom M.partMany M.parts M.cut M.cutMany M.isCut M.cutGives M.cutAt M.h) := hM
                have ho := ho.tr ho2
                have hFc : ∀ k : Nat, k < a5 - a4 → Fc k = F9 (a4 + k) := hFc
                have hFd : ∀ k : Nat, k < a5 - a4 → Fc k = sp_four (a4 + k) := fun k hk => (hFc k hk).trans (hF9 (a4 + k) (by omega))
                refine lv_aload_n hx hb dX5_insertPart_72 rfl (lv_at hl 0 rfl) ?_
                refine lv_iload_n hx hb dX5_insertPart_73 rfl (lv_at hl 1 rfl) ?_
                refine lv_iload_n hx hb dX5_insertPart_74 rfl (lv_at hl 2 rfl) ?_
                refine lv_iload_n hx hb dX5_insertPart_75 rfl (lv_at hl 2 rfl) ?_
                refine xm_i (i := 53) (As := [.int (xI (b1 : Int)), .int (xI (a2 : Int)), .int (xI (a2 : Int))]) (rest := []) ⟨hx, hb, hml, hown, hts⟩ hl.1 (c_X5_edit l D cA n ad en2 _ hn hM b1 h_b1 a2 a2 (S.1 b1).1 hz_b1 hm_b1 (by omega) (by omega) (a5 - a4) (show ((a5 : Int) - (a4 : Int)) = (((a5 - a4) : Nat) : Int) from by omega) (by omega)) k_X5_edit u_ml_RX5_66 hK hN hP (by omega) (show en2 53 = .inr (5, [.ref (ad 54), .ref (ad 55), .ref (ad 56), .ref (ad 57), .ref (ad 58), .int (xI ((a5 : Int) - (a4 : Int))), .ref (ad 59), .ref (ad 60), .ref (ad 61), .ref (ad 62), .int (xI M.parts), .ref (ad 63), .ref (ad 64), .ref (ad 65), .ref (ad 66), .ref (ad 67), .long M.h]) from hM.1) rfl rfl rfl rfl (Nat.le_of_ble_eq_true rfl) ⟨Nat.le_of_ble_eq_true rfl, Nat.le_of_ble_eq_true rfl⟩ ⟨Nat.le_of_ble_eq_true rfl, Nat.le_of_ble_eq_true rfl⟩ dX5_insertPart_76 hD hS hA (fun r3 en3 H locs hp3 hP hS => ?_)
                rcases hp3 with ⟨hfu, hrv, hu⟩ | ⟨hfu, z7, F7, hrv, hz7, hF7, hG7, hM, ho2⟩
                · subst hrv
                  rw [hu] at hP
                  exact xe_i hx hb hrt hlocks hP hS ((by unfold am_insertPart; simp only [Int.toNat_natCast]; simp only [sp_told_n hS_t3]; rw [sp_if_f (by omega), sp_if_f (by omega)]; (try rw [show Int.toNat z4 = a4 by omega]); (try rw [show Int.toNat z5 = a5 by omega]); (try rw [show Int.toNat z2 = a2 by omega]); have q9 := m_full hR (b := b1) (a := a2) (d := a2) (k9 := (a5 - a4)) (r0 := ((Int.toNat (z5 - z4), fun q => sp_four (a4 + q)) : xRow)) (by omega) (by omega) (by first | rfl | omega | (dsimp only; omega)) hfu; exact ⟨q9.1, _, hM, q9.2, ho⟩)) dX5_insertPart_79
                · subst hrv
                  have ho := ho.tr ho2
                  have hM : MW cA ad en3 (mO F7 (sp_up M.builtMany b1 z7) M.told M.toldMany Fc ((a5 : Int) - (a4 : Int)) M.figures M.partText M.partFrom M.partMany M.parts M.cut M.cutMany M.isCut M.cutGives M.cutAt M.h) := hM
                  exact xe_i hx hb hrt hlocks hP hS ((by unfold am_insertPart; simp only [Int.toNat_natCast]; simp only [sp_told_n hS_t3]; rw [sp_if_f (by omega), sp_if_f (by omega)]; (try rw [show Int.toNat z4 = a4 by omega]); (try rw [show Int.toNat z5 = a5 by omega]); (try rw [show Int.toNat z2 = a2 by omega]); have q9 := m_edt hR hW h_b1 (a := a2) (d := a2) (k9 := (a5 - a4)) (r0 := ((Int.toNat (z5 - z4), fun q => sp_four (a4 + q)) : xRow)) (by omega) (by omega) (by first | rfl | omega | (dsimp only; omega)) hfu hz7 hF7 hG7 hFd; exact ⟨q9.1, _, hM, q9.2, ho⟩)) dX5_insertPart_79
              · refine x_sipush hx hb dX5_insertPart_60 (by decide +kernel) ?_
                exact xe_i hx hb hrt hlocks hP hS ((by unfold am_insertPart; simp only [Int.toNat_natCast]; simp only [sp_told_n hS_t3]; rw [sp_if_f (by omega), sp_if_t (by omega)]; exact ⟨rfl, _, hM, hR, ho⟩)) dX5_insertPart_63
      · have hm_b1 := (hW.1 b1 h_b1).1
        have hfb_b1 := (hW.1 b1 h_b1).2
        have hB_b1 := hR.1 b1 h_b1
        have hz_b1 := hB_b1.1
        have hT_t3 : M.toldMany t3 = (r_t3.1 : Int) ∧ ∀ k : Nat, k < r_t3.1 → M.told (200 * t3 + k) = r_t3.2 k := by have q := hR.2.1 t3 h_t3; rw [hS_t3] at q; exact q
        have hz_t3 := hT_t3.1
        have hm_t3 := (hW.2.1 t3 r_t3 h_t3 hS_t3).1
        have hfb_t3 := (hW.2.1 t3 r_t3 h_t3 hS_t3).2
        refine lv_iload_n hx hb dX5_insertPart_0 rfl (lv_at hl 1 rfl) ?_
        refine xt_i (As := [.int (xI (b1 : Int))]) (rest := []) ⟨hx, hb, hml, hown, hts⟩ hl.1 (c_X5_isBuilder l (b1 : Int) (by omega)) k_X5_isBuilder u_ml_RX5_70 rfl rfl (Nat.le_of_ble_eq_true rfl) ⟨Nat.le_of_ble_eq_true rfl, Nat.le_of_ble_eq_true rfl⟩ ⟨Nat.le_of_ble_eq_true rfl, Nat.le_of_ble_eq_true rfl⟩ dX5_insertPart_1 ?_
        refine x_top (q1 := True) ⟨fun _ => trivial, fun _ => by omega⟩ ?_
        refine x_ifb_eq (tgt := 14) hx hb dX5_insertPart_4 (by decide)  (fun c_4 => absurd trivial c_4) (fun c_4 => ?_)
        refine lv_iload_n hx hb dX5_insertPart_7 rfl (lv_at hl 3 rfl) ?_
        refine xt_i (As := [.int (xI (t3 : Int))]) (rest := []) ⟨hx, hb, hml, hown, hts⟩ hl.1 (c_X5_isText l (t3 : Int) (by omega)) k_X5_isText u_ml_RX5_87 rfl rfl (Nat.le_of_ble_eq_true rfl) ⟨Nat.le_of_ble_eq_true rfl, Nat.le_of_ble_eq_true rfl⟩ ⟨Nat.le_of_ble_eq_true rfl, Nat.le_of_ble_eq_true rfl⟩ dX5_insertPart_8 ?_
        refine x_top (q1 := True) ⟨fun _ => trivial, fun _ => by omega⟩ ?_
        refine x_ifb_ne (tgt := 18) hx hb dX5_insertPart_11 (by decide)  (fun c_11 => ?_) (fun c_11 => absurd trivial c_11)
        refine lv_aload_n hx hb dX5_insertPart_18 rfl (lv_at hl 0 rfl) ?_
        refine lv_iload_n hx hb dX5_insertPart_19 rfl (lv_at hl 3 rfl) ?_
        refine xm_v (i := 53) (As := [.int (xI (t3 : Int))]) (rest := []) ⟨hx, hb, hml, hown, hts⟩ hl.1 (c_X5_layText_some l D cA n ad en _ hn hM t3 h_t3 (r := r_t3) hz_t3 hm_t3 hT_t3.2) k_X5_layText u_ml_RX5_90 hK hN hP (by omega) hM.1 rfl rfl rfl rfl (Nat.le_of_ble_eq_true rfl) ⟨Nat.le_of_ble_eq_true rfl, Nat.le_of_ble_eq_true rfl⟩ ⟨Nat.le_of_ble_eq_true rfl, Nat.le_of_ble_eq_true rfl⟩ dX5_insertPart_20 hD hS hA (fun en4 H locs hp4 hP hS => ?_)
        obtain ⟨F9, hF9, hM, ho2⟩ := hp4
        have hM : MW cA ad en4 (mO M.built M.builtMany M.told M.toldMany F9 (r_t3.1 : Int) M.figures M.partText M.partFrom M.partMany M.parts M.cut M.cutMany M.isCut M.cutGives M.cutAt M.h) := hM
        have ho := ho.tr ho2
        refine lv_iload_n hx hb dX5_insertPart_23 rfl (lv_at hl 2 rfl) ?_
        refine x_i2l hx hb dX5_insertPart_24 (by omega) ?_
        refine lv_lconst (v := xL 0) hx hb dX5_insertPart_25 (by decide +kernel) ?_
        refine lv_aload_n hx hb dX5_insertPart_26 rfl (lv_at hl 0 rfl) ?_
        refine x_get (T := TX5) (N := 17) hx hb hts uX5 hown hK hP (i := 53) (by omega) (show en4 53 = .inr (5, [.ref (ad 54), .ref (ad 55), .ref (ad 56), .ref (ad 57), .ref (ad 58), .int (xI (r_t3.1 : Int)), .ref (ad 59), .ref (ad 60), .ref (ad 61), .ref (ad 62), .int (xI M.parts), .ref (ad 63), .ref (ad 64), .ref (ad 65), .ref (ad 66), .ref (ad 67), .long M.h]) from hM.1) rfl 1 (by decide) u_fl_RX5_13 rfl dX5_insertPart_27 ?_
        refine lv_iload_n hx hb dX5_insertPart_30 rfl (lv_at hl 1 rfl) ?_
        refine x_ild hx hb hK hP (i := 55) (by omega) hM.2.2.1 (x := ((S.1 b1).1 : Int)) (by omega) (congrArg xI hz_b1) dX5_insertPart_31 ?_
        refine x_i2l hx hb dX5_insertPart_32 (by omega) ?_
        refine xt_i (As := [.long (xL z2), .long (xL 0), .long (xL ((S.1 b1).1 : Int))]) (rest := []) ⟨hx, hb, hml, hown, hts⟩ hl.1 (c_X5_in l z2 0 ((S.1 b1).1 : Int) (by omega) (by omega) (by omega)) k_X5_in u_ml_RX5_54 rfl rfl (Nat.le_of_ble_eq_true rfl) ⟨Nat.le_of_ble_eq_true rfl, Nat.le_of_ble_eq_true rfl⟩ ⟨Nat.le_of_ble_eq_true rfl, Nat.le_of_ble_eq_true rfl⟩ dX5_insertPart_33 ?_
        refine x_ifb_eq (tgt := 60) hx hb dX5_insertPart_36 (by decide)  (fun c_36 => ?_) (fun c_36 => ?_)
        · refine x_sipush hx hb dX5_insertPart_60 (by decide +kernel) ?_
          exact xe_i hx hb hrt hlocks hP hS ((by unfold am_insertPart; simp only [Int.toNat_natCast]; simp only [sp_told_s hS_t3]; rw [sp_if_f (by omega), sp_if_t (by omega)]; exact ⟨rfl, _, hM, hR, ho⟩)) dX5_insertPart_63
        · refine lv_iload hx hb dX5_insertPart_39 (lv_at hl 4 rfl) ?_
          refine x_if_lt (tgt := 60) hx hb dX5_insertPart_41 (by decide) (by omega) (fun c_41 => ?_) (fun c_41 => ?_)
          · refine x_sipush hx hb dX5_insertPart_60 (by decide +kernel) ?_
            exact xe_i hx hb hrt hlocks hP hS ((by unfold am_insertPart; simp only [Int.toNat_natCast]; simp only [sp_told_s hS_t3]; rw [sp_if_f (by omega), sp_if_t (by omega)]; exact ⟨rfl, _, hM, hR, ho⟩)) dX5_insertPart_63
          · refine lv_iload hx hb dX5_insertPart_44 (lv_at hl 5 rfl) ?_
            refine lv_aload_n hx hb dX5_insertPart_46 rfl (lv_at hl 0 rfl) ?_
            refine x_get (T := TX5) (N := 17) hx hb hts uX5 hown hK hP (i := 53) (by omega) (show en4 53 = .inr (5, [.ref (ad 54), .ref (ad 55), .ref (ad 56), .ref (ad 57), .ref (ad 58), .int (xI (r_t3.1 : Int)), .ref (ad 59), .ref (ad 60), .ref (ad 61), .ref (ad 62), .int (xI M.parts), .ref (ad 63), .ref (ad 64), .ref (ad 65), .ref (ad 66), .ref (ad 67), .long M.h]) from hM.1) rfl 5 (by decide) u_fl_RX5_62 rfl dX5_insertPart_47 ?_
            refine x_icmp_gt (tgt := 60) hx hb dX5_insertPart_50 (by decide) (by omega) (fun c_50 => ?_) (fun c_50 => ?_)
            · refine x_sipush hx hb dX5_insertPart_60 (by decide +kernel) ?_
              exact xe_i hx hb hrt hlocks hP hS ((by unfold am_insertPart; simp only [Int.toNat_natCast]; simp only [sp_told_s hS_t3]; rw [sp_if_f (by omega), sp_if_t (by omega)]; exact ⟨rfl, _, hM, hR, ho⟩)) dX5_insertPart_63
            · refine lv_iload hx hb dX5_insertPart_53 (lv_at hl 4 rfl) ?_
              refine lv_iload hx hb dX5_insertPart_55 (lv_at hl 5 rfl) ?_
              refine x_icmp_le (tgt := 64) hx hb dX5_insertPart_57 (by decide) (by omega) (fun c_57 => ?_) (fun c_57 => ?_)
              · obtain ⟨a4, hv_z4⟩ : ∃ q : Nat, z4 = (q : Int) := ⟨Int.toNat z4, by omega⟩
                obtain ⟨a5, hv_z5⟩ : ∃ q : Nat, z5 = (q : Int) := ⟨Int.toNat z5, by omega⟩
                obtain ⟨a2, hv_z2⟩ : ∃ q : Nat, z2 = (q : Int) := ⟨Int.toNat z2, by omega⟩
                have hl : lv_has ls 6 [(0, .ref (ad 53)), (1, .int (xI (b1 : Int))), (2, .int (xI (a2 : Int))), (3, .int (xI (t3 : Int))), (4, .int (xI (a4 : Int))), (5, .int (xI (a5 : Int)))] := by rw [← hv_z4, ← hv_z5, ← hv_z2]; exact hl
                refine lv_aload_n hx hb dX5_insertPart_64 rfl (lv_at hl 0 rfl) ?_
                refine lv_iload hx hb dX5_insertPart_65 (lv_at hl 4 rfl) ?_
                refine lv_iload hx hb dX5_insertPart_67 (lv_at hl 5 rfl) ?_
                refine xm_v (i := 53) (As := [.int (xI (a4 : Int)), .int (xI (a5 : Int))]) (rest := []) ⟨hx, hb, hml, hown, hts⟩ hl.1 (c_X5_clip l D cA n ad en4 _ hn hM a4 a5 (by omega) (by omega)) k_X5_clip u_ml_RX5_93 hK hN hP (by omega) (show en4 53 = .inr (5, [.ref (ad 54), .ref (ad 55), .ref (ad 56), .ref (ad 57), .ref (ad 58), .int (xI (r_t3.1 : Int)), .ref (ad 59), .ref (ad 60), .ref (ad 61), .ref (ad 62), .int (xI M.parts), .ref (ad 63), .ref (ad 64), .ref (ad 65), .ref (ad 66), .ref (ad 67), .long M.h]) from hM.1) rfl rfl rfl rfl (Nat.le_of_ble_eq_true rfl) ⟨Nat.le_of_ble_eq_true rfl, Nat.le_of_ble_eq_true rfl⟩ ⟨Nat.le_of_ble_eq_true rfl, Nat.le_of_ble_eq_true rfl⟩ dX5_insertPart_69 hD hS hA (fun en5 H locs hp5 hP hS => ?_)
                obtain ⟨Fc, hFc, hM, ho2⟩ := hp5
                have hM : MW cA ad en5 (mO M.built M.builtMany M.told M.toldMany Fc ((a5 : Int) - (a4 : Int)) M.figures M.partText M.partFrom M.partMany M.parts M.cut M.cutMany M.isCut M.cutGives M.cutAt M.h) := hM
                have ho := ho.tr ho2
                have hFc : ∀ k : Nat, k < a5 - a4 → Fc k = F9 (a4 + k) := hFc
                have hFd : ∀ k : Nat, k < a5 - a4 → Fc k = r_t3.2 (a4 + k) := fun k hk => (hFc k hk).trans (hF9 (a4 + k) (by omega))
                refine lv_aload_n hx hb dX5_insertPart_72 rfl (lv_at hl 0 rfl) ?_
                refine lv_iload_n hx hb dX5_insertPart_73 rfl (lv_at hl 1 rfl) ?_
                refine lv_iload_n hx hb dX5_insertPart_74 rfl (lv_at hl 2 rfl) ?_
                refine lv_iload_n hx hb dX5_insertPart_75 rfl (lv_at hl 2 rfl) ?_
                refine xm_i (i := 53) (As := [.int (xI (b1 : Int)), .int (xI (a2 : Int)), .int (xI (a2 : Int))]) (rest := []) ⟨hx, hb, hml, hown, hts⟩ hl.1 (c_X5_edit l D cA n ad en5 _ hn hM b1 h_b1 a2 a2 (S.1 b1).1 hz_b1 hm_b1 (by omega) (by omega) (a5 - a4) (show ((a5 : Int) - (a4 : Int)) = (((a5 - a4) : Nat) : Int) from by omega) (by omega)) k_X5_edit u_ml_RX5_66 hK hN hP (by omega) (show en5 53 = .inr (5, [.ref (ad 54), .ref (ad 55), .ref (ad 56), .ref (ad 57), .ref (ad 58), .int (xI ((a5 : Int) - (a4 : Int))), .ref (ad 59), .ref (ad 60), .ref (ad 61), .ref (ad 62), .int (xI M.parts), .ref (ad 63), .ref (ad 64), .ref (ad 65), .ref (ad 66), .ref (ad 67), .long M.h]) from hM.1) rfl rfl rfl rfl (Nat.le_of_ble_eq_true rfl) ⟨Nat.le_of_ble_eq_true rfl, Nat.le_of_ble_eq_true rfl⟩ ⟨Nat.le_of_ble_eq_true rfl, Nat.le_of_ble_eq_true rfl⟩ dX5_insertPart_76 hD hS hA (fun r6 en6 H locs hp6 hP hS => ?_)
                rcases hp6 with ⟨hfu, hrv, hu⟩ | ⟨hfu, z7, F7, hrv, hz7, hF7, hG7, hM, ho2⟩
                · subst hrv
                  rw [hu] at hP
                  exact xe_i hx hb hrt hlocks hP hS ((by unfold am_insertPart; simp only [Int.toNat_natCast]; simp only [sp_told_s hS_t3]; rw [sp_if_f (by omega), sp_if_f (by omega)]; (try rw [show Int.toNat z4 = a4 by omega]); (try rw [show Int.toNat z5 = a5 by omega]); (try rw [show Int.toNat z2 = a2 by omega]); have q9 := m_full hR (b := b1) (a := a2) (d := a2) (k9 := (a5 - a4)) (r0 := ((Int.toNat (z5 - z4), fun q => r_t3.2 (a4 + q)) : xRow)) (by omega) (by omega) (by first | rfl | omega | (dsimp only; omega)) hfu; exact ⟨q9.1, _, hM, q9.2, ho⟩)) dX5_insertPart_79
                · subst hrv
                  have ho := ho.tr ho2
                  have hM : MW cA ad en6 (mO F7 (sp_up M.builtMany b1 z7) M.told M.toldMany Fc ((a5 : Int) - (a4 : Int)) M.figures M.partText M.partFrom M.partMany M.parts M.cut M.cutMany M.isCut M.cutGives M.cutAt M.h) := hM
                  exact xe_i hx hb hrt hlocks hP hS ((by unfold am_insertPart; simp only [Int.toNat_natCast]; simp only [sp_told_s hS_t3]; rw [sp_if_f (by omega), sp_if_f (by omega)]; (try rw [show Int.toNat z4 = a4 by omega]); (try rw [show Int.toNat z5 = a5 by omega]); (try rw [show Int.toNat z2 = a2 by omega]); have q9 := m_edt hR hW h_b1 (a := a2) (d := a2) (k9 := (a5 - a4)) (r0 := ((Int.toNat (z5 - z4), fun q => r_t3.2 (a4 + q)) : xRow)) (by omega) (by omega) (by first | rfl | omega | (dsimp only; omega)) hfu hz7 hF7 hG7 hFd; exact ⟨q9.1, _, hM, q9.2, ho⟩)) dX5_insertPart_79
              · refine x_sipush hx hb dX5_insertPart_60 (by decide +kernel) ?_
                exact xe_i hx hb hrt hlocks hP hS ((by unfold am_insertPart; simp only [Int.toNat_natCast]; simp only [sp_told_s hS_t3]; rw [sp_if_f (by omega), sp_if_t (by omega)]; exact ⟨rfl, _, hM, hR, ho⟩)) dX5_insertPart_63
    · have hm_b1 := (hW.1 b1 h_b1).1
      have hfb_b1 := (hW.1 b1 h_b1).2
      have hB_b1 := hR.1 b1 h_b1
      have hz_b1 := hB_b1.1
      refine lv_iload_n hx hb dX5_insertPart_0 rfl (lv_at hl 1 rfl) ?_
      refine xt_i (As := [.int (xI (b1 : Int))]) (rest := []) ⟨hx, hb, hml, hown, hts⟩ hl.1 (c_X5_isBuilder l (b1 : Int) (by omega)) k_X5_isBuilder u_ml_RX5_70 rfl rfl (Nat.le_of_ble_eq_true rfl) ⟨Nat.le_of_ble_eq_true rfl, Nat.le_of_ble_eq_true rfl⟩ ⟨Nat.le_of_ble_eq_true rfl, Nat.le_of_ble_eq_true rfl⟩ dX5_insertPart_1 ?_
      refine x_top (q1 := True) ⟨fun _ => trivial, fun _ => by omega⟩ ?_
      refine x_ifb_eq (tgt := 14) hx hb dX5_insertPart_4 (by decide)  (fun c_4 => absurd trivial c_4) (fun c_4 => ?_)
      refine lv_iload_n hx hb dX5_insertPart_7 rfl (lv_at hl 3 rfl) ?_
      refine xt_i (As := [.int (xI z3)]) (rest := []) ⟨hx, hb, hml, hown, hts⟩ hl.1 (c_X5_isText l z3 (by omega)) k_X5_isText u_ml_RX5_87 rfl rfl (Nat.le_of_ble_eq_true rfl) ⟨Nat.le_of_ble_eq_true rfl, Nat.le_of_ble_eq_true rfl⟩ ⟨Nat.le_of_ble_eq_true rfl, Nat.le_of_ble_eq_true rfl⟩ dX5_insertPart_8 ?_
      refine x_top (q1 := False) ⟨fun h => absurd h (by omega), False.elim⟩ ?_
      refine x_ifb_ne (tgt := 18) hx hb dX5_insertPart_11 (by decide)  (fun c_11 => absurd c_11 id) (fun c_11 => ?_)
      refine x_sipush hx hb dX5_insertPart_14 (by decide +kernel) ?_
      exact xe_i hx hb hrt hlocks hP hS ((by unfold am_insertPart; simp only [Int.toNat_natCast]; rw [sp_if_t (by omega)]; exact ⟨rfl, _, hM, hR, ho⟩)) dX5_insertPart_17
  · rcases Classical.em (0 ≤ z3 ∧ z3 < 8) with hx_z3 | hx_z3
    · obtain ⟨t3, rfl⟩ : ∃ q : Nat, z3 = (q : Int) := ⟨z3.toNat, by omega⟩
      have h_t3 : t3 < 8 := by omega
      rcases hS_t3 : S.2.1 t3 with _ | r_t3
      · have hz_t3 : M.toldMany t3 = -1 := by have q := hR.2.1 t3 h_t3; rw [hS_t3] at q; exact q
        refine lv_iload_n hx hb dX5_insertPart_0 rfl (lv_at hl 1 rfl) ?_
        refine xt_i (As := [.int (xI z1)]) (rest := []) ⟨hx, hb, hml, hown, hts⟩ hl.1 (c_X5_isBuilder l z1 (by omega)) k_X5_isBuilder u_ml_RX5_70 rfl rfl (Nat.le_of_ble_eq_true rfl) ⟨Nat.le_of_ble_eq_true rfl, Nat.le_of_ble_eq_true rfl⟩ ⟨Nat.le_of_ble_eq_true rfl, Nat.le_of_ble_eq_true rfl⟩ dX5_insertPart_1 ?_
        refine x_top (q1 := False) ⟨fun h => absurd h (by omega), False.elim⟩ ?_
        refine x_ifb_eq (tgt := 14) hx hb dX5_insertPart_4 (by decide)  (fun c_4 => ?_) (fun c_4 => absurd c_4 id)
        refine x_sipush hx hb dX5_insertPart_14 (by decide +kernel) ?_
        exact xe_i hx hb hrt hlocks hP hS ((by unfold am_insertPart; simp only [Int.toNat_natCast]; simp only [sp_told_n hS_t3]; rw [sp_if_t (by omega)]; exact ⟨rfl, _, hM, hR, ho⟩)) dX5_insertPart_17
      · have hT_t3 : M.toldMany t3 = (r_t3.1 : Int) ∧ ∀ k : Nat, k < r_t3.1 → M.told (200 * t3 + k) = r_t3.2 k := by have q := hR.2.1 t3 h_t3; rw [hS_t3] at q; exact q
        have hz_t3 := hT_t3.1
        have hm_t3 := (hW.2.1 t3 r_t3 h_t3 hS_t3).1
        have hfb_t3 := (hW.2.1 t3 r_t3 h_t3 hS_t3).2
        refine lv_iload_n hx hb dX5_insertPart_0 rfl (lv_at hl 1 rfl) ?_
        refine xt_i (As := [.int (xI z1)]) (rest := []) ⟨hx, hb, hml, hown, hts⟩ hl.1 (c_X5_isBuilder l z1 (by omega)) k_X5_isBuilder u_ml_RX5_70 rfl rfl (Nat.le_of_ble_eq_true rfl) ⟨Nat.le_of_ble_eq_true rfl, Nat.le_of_ble_eq_true rfl⟩ ⟨Nat.le_of_ble_eq_true rfl, Nat.le_of_ble_eq_true rfl⟩ dX5_insertPart_1 ?_
        refine x_top (q1 := False) ⟨fun h => absurd h (by omega), False.elim⟩ ?_
        refine x_ifb_eq (tgt := 14) hx hb dX5_insertPart_4 (by decide)  (fun c_4 => ?_) (fun c_4 => absurd c_4 id)
        refine x_sipush hx hb dX5_insertPart_14 (by decide +kernel) ?_
        exact xe_i hx hb hrt hlocks hP hS ((by unfold am_insertPart; simp only [Int.toNat_natCast]; simp only [sp_told_s hS_t3]; rw [sp_if_t (by omega)]; exact ⟨rfl, _, hM, hR, ho⟩)) dX5_insertPart_17
    · refine lv_iload_n hx hb dX5_insertPart_0 rfl (lv_at hl 1 rfl) ?_
      refine xt_i (As := [.int (xI z1)]) (rest := []) ⟨hx, hb, hml, hown, hts⟩ hl.1 (c_X5_isBuilder l z1 (by omega)) k_X5_isBuilder u_ml_RX5_70 rfl rfl (Nat.le_of_ble_eq_true rfl) ⟨Nat.le_of_ble_eq_true rfl, Nat.le_of_ble_eq_true rfl⟩ ⟨Nat.le_of_ble_eq_true rfl, Nat.le_of_ble_eq_true rfl⟩ dX5_insertPart_1 ?_
      refine x_top (q1 := False) ⟨fun h => absurd h (by omega), False.elim⟩ ?_
      refine x_ifb_eq (tgt := 14) hx hb dX5_insertPart_4 (by decide)  (fun c_4 => ?_) (fun c_4 => absurd c_4 id)
      refine x_sipush hx hb dX5_insertPart_14 (by decide +kernel) ?_
      exact xe_i hx hb hrt hlocks hP hS ((by unfold am_insertPart; rw [sp_if_t (by omega)]; exact ⟨rfl, _, hM, hR, ho⟩)) dX5_insertPart_17

set_option maxRecDepth 20000 in
theorem c_X5_insertSign (l : Launch) (D : va_G) (cA : Nat → ClassId) (n : Nat) (ad : Nat → Nat) (en : Nat → va_E) (sz : Nat) (hn : 68 ≤ n) {M : MO} (hM : MW cA ad en M) {S : xSt} (hW : WF S) (hR : MR S M) (z1 : Int) (hz1 : -2147483648 ≤ z1 ∧ z1 ≤ 2147483647) (z2 : Int) (hz2 : -2147483648 ≤ z2 ∧ z2 ≤ 2147483647) (z3 : Int) (hz3 : -2147483648 ≤ z3 ∧ z3 ≤ 2147483647) : Met l yX5_insertSign (Cond.code yX5_insertSign cX5_insertSign 4 (some .int) :: xU) (xrm 2 45) (va_Pc [.ref (ad 53), .int (xI z1), .int (xI z2), .int (xI z3)] (xM D cA n ad en sz)) (va_Qi (fun r u => r = xI (am_insertSign S z1 z2 z3).1 ∧ ∃ M' : MO, MW cA ad u M' ∧ MR (am_insertSign S z1 z2 z3).2 M' ∧ xO 53 68 en u) (xE D n ad) (xA n ad sz)) 0 0 (xA n ad sz) := by
  refine xmet (by decide) (Nat.le_of_ble_eq_true rfl) (fun p e s mm args below meth c ls hx hb hrt hml hown hts hlocks hname hB hl => ?_)
  obtain ⟨⟨hP, hK, hN⟩, hsz, hDt⟩ := hB
  have hD : xD (xA n ad sz) n ad := xD_self hDt sz
  have hA : ∀ q : Nat, s.heap.size ≤ q → xA n ad sz q := fun q h => Or.inr (by rw [← hsz]; exact h)
  have hS : va_S (xA n ad sz) s.heap s.heap [] := va_S.rf
  have hown : s.vm.findClass RX5 = some mm.cls := hown
  have hl : lv_has ls 4 [(0, .ref (ad 53)), (1, .int (xI z1)), (2, .int (xI z2)), (3, .int (xI z3))] := hl
  have ho : xO 53 68 en en := xO.rf
  rcases Classical.em (0 ≤ z1 ∧ z1 < 4) with hx_z1 | hx_z1
  · obtain ⟨b1, rfl⟩ : ∃ q : Nat, z1 = (q : Int) := ⟨z1.toNat, by omega⟩
    have h_b1 : b1 < 4 := by omega
    have hm_b1 := (hW.1 b1 h_b1).1
    have hfb_b1 := (hW.1 b1 h_b1).2
    have hB_b1 := hR.1 b1 h_b1
    have hz_b1 := hB_b1.1
    refine lv_iload_n hx hb dX5_insertSign_0 rfl (lv_at hl 1 rfl) ?_
    refine xt_i (As := [.int (xI (b1 : Int))]) (rest := []) ⟨hx, hb, hml, hown, hts⟩ hl.1 (c_X5_isBuilder l (b1 : Int) (by omega)) k_X5_isBuilder u_ml_RX5_70 rfl rfl (Nat.le_of_ble_eq_true rfl) ⟨Nat.le_of_ble_eq_true rfl, Nat.le_of_ble_eq_true rfl⟩ ⟨Nat.le_of_ble_eq_true rfl, Nat.le_of_ble_eq_true rfl⟩ dX5_insertSign_1 ?_
    refine x_top (q1 := True) ⟨fun _ => trivial, fun _ => by omega⟩ ?_
    refine x_ifb_ne (tgt := 11) hx hb dX5_insertSign_4 (by decide)  (fun c_4 => ?_) (fun c_4 => absurd trivial c_4)
    refine lv_iload_n hx hb dX5_insertSign_11 rfl (lv_at hl 3 rfl) ?_
    refine xt_i (As := [.int (xI z3)]) (rest := []) ⟨hx, hb, hml, hown, hts⟩ hl.1 (c_X5_isSign l z3 (by omega)) k_X5_isSign u_ml_RX5_74 rfl rfl (Nat.le_of_ble_eq_true rfl) ⟨Nat.le_of_ble_eq_true rfl, Nat.le_of_ble_eq_true rfl⟩ ⟨Nat.le_of_ble_eq_true rfl, Nat.le_of_ble_eq_true rfl⟩ dX5_insertSign_12 ?_
    refine x_ifb_ne (tgt := 22) hx hb dX5_insertSign_15 (by decide)  (fun c_15 => ?_) (fun c_15 => ?_)
    · refine lv_iload_n hx hb dX5_insertSign_22 rfl (lv_at hl 2 rfl) ?_
      refine x_i2l hx hb dX5_insertSign_23 (by omega) ?_
      refine lv_lconst (v := xL 0) hx hb dX5_insertSign_24 (by decide +kernel) ?_
      refine lv_aload_n hx hb dX5_insertSign_25 rfl (lv_at hl 0 rfl) ?_
      refine x_get (T := TX5) (N := 17) hx hb hts uX5 hown hK hP (i := 53) (by omega) hM.1 rfl 1 (by decide) u_fl_RX5_13 rfl dX5_insertSign_26 ?_
      refine lv_iload_n hx hb dX5_insertSign_29 rfl (lv_at hl 1 rfl) ?_
      refine x_ild hx hb hK hP (i := 55) (by omega) hM.2.2.1 (x := ((S.1 b1).1 : Int)) (by omega) (congrArg xI hz_b1) dX5_insertSign_30 ?_
      refine x_i2l hx hb dX5_insertSign_31 (by omega) ?_
      refine xt_i (As := [.long (xL z2), .long (xL 0), .long (xL ((S.1 b1).1 : Int))]) (rest := []) ⟨hx, hb, hml, hown, hts⟩ hl.1 (c_X5_in l z2 0 ((S.1 b1).1 : Int) (by omega) (by omega) (by omega)) k_X5_in u_ml_RX5_54 rfl rfl (Nat.le_of_ble_eq_true rfl) ⟨Nat.le_of_ble_eq_true rfl, Nat.le_of_ble_eq_true rfl⟩ ⟨Nat.le_of_ble_eq_true rfl, Nat.le_of_ble_eq_true rfl⟩ dX5_insertSign_32 ?_
      refine x_ifb_ne (tgt := 42) hx hb dX5_insertSign_35 (by decide)  (fun c_35 => ?_) (fun c_35 => ?_)
      · obtain ⟨a2, hv_z2⟩ : ∃ q : Nat, z2 = (q : Int) := ⟨Int.toNat z2, by omega⟩
        have hl : lv_has ls 4 [(0, .ref (ad 53)), (1, .int (xI (b1 : Int))), (2, .int (xI (a2 : Int))), (3, .int (xI z3))] := by rw [← hv_z2]; exact hl
        refine lv_aload_n hx hb dX5_insertSign_42 rfl (lv_at hl 0 rfl) ?_
        refine lv_iload_n hx hb dX5_insertSign_43 rfl (lv_at hl 3 rfl) ?_
        refine xm_v (i := 53) (As := [.int (xI z3)]) (rest := []) ⟨hx, hb, hml, hown, hts⟩ hl.1 (c_X5_laySign l D cA n ad en _ hn hM z3) k_X5_laySign u_ml_RX5_77 hK hN hP (by omega) hM.1 rfl rfl rfl rfl (Nat.le_of_ble_eq_true rfl) ⟨Nat.le_of_ble_eq_true rfl, Nat.le_of_ble_eq_true rfl⟩ ⟨Nat.le_of_ble_eq_true rfl, Nat.le_of_ble_eq_true rfl⟩ dX5_insertSign_44 hD hS hA (fun en1 H locs hp1 hP hS => ?_)
        obtain ⟨hM, ho2⟩ := hp1
        have hM : MW cA ad en1 (mO M.built M.builtMany M.told M.toldMany (sp_up M.row 0 z3) 1 M.figures M.partText M.partFrom M.partMany M.parts M.cut M.cutMany M.isCut M.cutGives M.cutAt M.h) := hM
        have ho := ho.tr ho2
        refine lv_aload_n hx hb dX5_insertSign_47 rfl (lv_at hl 0 rfl) ?_
        refine lv_iload_n hx hb dX5_insertSign_48 rfl (lv_at hl 1 rfl) ?_
        refine lv_iload_n hx hb dX5_insertSign_49 rfl (lv_at hl 2 rfl) ?_
        refine lv_iload_n hx hb dX5_insertSign_50 rfl (lv_at hl 2 rfl) ?_
        refine xm_i (i := 53) (As := [.int (xI (b1 : Int)), .int (xI (a2 : Int)), .int (xI (a2 : Int))]) (rest := []) ⟨hx, hb, hml, hown, hts⟩ hl.1 (c_X5_edit l D cA n ad en1 _ hn hM b1 h_b1 a2 a2 (S.1 b1).1 hz_b1 hm_b1 (by omega) (by omega) 1 (show 1 = ((1 : Nat) : Int) from by omega) (by omega)) k_X5_edit u_ml_RX5_66 hK hN hP (by omega) (show en1 53 = .inr (5, [.ref (ad 54), .ref (ad 55), .ref (ad 56), .ref (ad 57), .ref (ad 58), .int (xI 1), .ref (ad 59), .ref (ad 60), .ref (ad 61), .ref (ad 62), .int (xI M.parts), .ref (ad 63), .ref (ad 64), .ref (ad 65), .ref (ad 66), .ref (ad 67), .long M.h]) from hM.1) rfl rfl rfl rfl (Nat.le_of_ble_eq_true rfl) ⟨Nat.le_of_ble_eq_true rfl, Nat.le_of_ble_eq_true rfl⟩ ⟨Nat.le_of_ble_eq_true rfl, Nat.le_of_ble_eq_true rfl⟩ dX5_insertSign_51 hD hS hA (fun r2 en2 H locs hp2 hP hS => ?_)
        rcases hp2 with ⟨hfu, hrv, hu⟩ | ⟨hfu, z7, F7, hrv, hz7, hF7, hG7, hM, ho2⟩
        · subst hrv
          rw [hu] at hP
          exact xe_i hx hb hrt hlocks hP hS ((by unfold am_insertSign; simp only [Int.toNat_natCast]; rw [sp_if_f (by omega), sp_if_f (by omega), sp_if_f (by omega)]; (try rw [show Int.toNat z2 = a2 by omega]); have q9 := m_full hR (b := b1) (a := a2) (d := a2) (k9 := 1) (r0 := ((1, fun _ => z3) : xRow)) (by omega) (by omega) (by first | rfl | omega | (dsimp only; omega)) hfu; exact ⟨q9.1, _, hM, q9.2, ho⟩)) dX5_insertSign_54
        · subst hrv
          have ho := ho.tr ho2
          have hM : MW cA ad en2 (mO F7 (sp_up M.builtMany b1 z7) M.told M.toldMany (sp_up M.row 0 z3) 1 M.figures M.partText M.partFrom M.partMany M.parts M.cut M.cutMany M.isCut M.cutGives M.cutAt M.h) := hM
          exact xe_i hx hb hrt hlocks hP hS ((by unfold am_insertSign; simp only [Int.toNat_natCast]; rw [sp_if_f (by omega), sp_if_f (by omega), sp_if_f (by omega)]; (try rw [show Int.toNat z2 = a2 by omega]); have q9 := m_edt hR hW h_b1 (a := a2) (d := a2) (k9 := 1) (r0 := ((1, fun _ => z3) : xRow)) (by omega) (by omega) (by first | rfl | omega | (dsimp only; omega)) hfu hz7 hF7 hG7 (fun k hk => by rw [show k = 0 by omega]; exact sp_up_s M.row 0 z3); exact ⟨q9.1, _, hM, q9.2, ho⟩)) dX5_insertSign_54
      · refine x_sipush hx hb dX5_insertSign_38 (by decide +kernel) ?_
        exact xe_i hx hb hrt hlocks hP hS ((by unfold am_insertSign; simp only [Int.toNat_natCast]; rw [sp_if_f (by omega), sp_if_f (by omega), sp_if_t (by omega)]; exact ⟨rfl, _, hM, hR, ho⟩)) dX5_insertSign_41
    · refine x_sipush hx hb dX5_insertSign_18 (by decide +kernel) ?_
      exact xe_i hx hb hrt hlocks hP hS ((by unfold am_insertSign; simp only [Int.toNat_natCast]; rw [sp_if_f (by omega), sp_if_t (by omega)]; exact ⟨rfl, _, hM, hR, ho⟩)) dX5_insertSign_21
  · refine lv_iload_n hx hb dX5_insertSign_0 rfl (lv_at hl 1 rfl) ?_
    refine xt_i (As := [.int (xI z1)]) (rest := []) ⟨hx, hb, hml, hown, hts⟩ hl.1 (c_X5_isBuilder l z1 (by omega)) k_X5_isBuilder u_ml_RX5_70 rfl rfl (Nat.le_of_ble_eq_true rfl) ⟨Nat.le_of_ble_eq_true rfl, Nat.le_of_ble_eq_true rfl⟩ ⟨Nat.le_of_ble_eq_true rfl, Nat.le_of_ble_eq_true rfl⟩ dX5_insertSign_1 ?_
    refine x_top (q1 := False) ⟨fun h => absurd h (by omega), False.elim⟩ ?_
    refine x_ifb_ne (tgt := 11) hx hb dX5_insertSign_4 (by decide)  (fun c_4 => absurd c_4 id) (fun c_4 => ?_)
    refine x_sipush hx hb dX5_insertSign_7 (by decide +kernel) ?_
    exact xe_i hx hb hrt hlocks hP hS ((by unfold am_insertSign; rw [sp_if_t (by omega)]; exact ⟨rfl, _, hM, hR, ho⟩)) dX5_insertSign_10

set_option maxRecDepth 20000 in
theorem c_X5_delete (l : Launch) (D : va_G) (cA : Nat → ClassId) (n : Nat) (ad : Nat → Nat) (en : Nat → va_E) (sz : Nat) (hn : 68 ≤ n) {M : MO} (hM : MW cA ad en M) {S : xSt} (hW : WF S) (hR : MR S M) (z1 : Int) (hz1 : -2147483648 ≤ z1 ∧ z1 ≤ 2147483647) (z2 : Int) (hz2 : -2147483648 ≤ z2 ∧ z2 ≤ 2147483647) (z3 : Int) (hz3 : -2147483648 ≤ z3 ∧ z3 ≤ 2147483647) : Met l yX5_delete (Cond.code yX5_delete cX5_delete 4 (some .int) :: xU) (xrm 2 48) (va_Pc [.ref (ad 53), .int (xI z1), .int (xI z2), .int (xI z3)] (xM D cA n ad en sz)) (va_Qi (fun r u => r = xI (am_delete S z1 z2 z3).1 ∧ ∃ M' : MO, MW cA ad u M' ∧ MR (am_delete S z1 z2 z3).2 M' ∧ xO 53 68 en u) (xE D n ad) (xA n ad sz)) 0 0 (xA n ad sz) := by
  refine xmet (by decide) (Nat.le_of_ble_eq_true rfl) (fun p e s mm args below meth c ls hx hb hrt hml hown hts hlocks hname hB hl => ?_)
  obtain ⟨⟨hP, hK, hN⟩, hsz, hDt⟩ := hB
  have hD : xD (xA n ad sz) n ad := xD_self hDt sz
  have hA : ∀ q : Nat, s.heap.size ≤ q → xA n ad sz q := fun q h => Or.inr (by rw [← hsz]; exact h)
  have hS : va_S (xA n ad sz) s.heap s.heap [] := va_S.rf
  have hown : s.vm.findClass RX5 = some mm.cls := hown
  have hl : lv_has ls 4 [(0, .ref (ad 53)), (1, .int (xI z1)), (2, .int (xI z2)), (3, .int (xI z3))] := hl
  have ho : xO 53 68 en en := xO.rf
  rcases Classical.em (0 ≤ z1 ∧ z1 < 4) with hx_z1 | hx_z1
  · obtain ⟨b1, rfl⟩ : ∃ q : Nat, z1 = (q : Int) := ⟨z1.toNat, by omega⟩
    have h_b1 : b1 < 4 := by omega
    have hm_b1 := (hW.1 b1 h_b1).1
    have hfb_b1 := (hW.1 b1 h_b1).2
    have hB_b1 := hR.1 b1 h_b1
    have hz_b1 := hB_b1.1
    refine lv_iload_n hx hb dX5_delete_0 rfl (lv_at hl 1 rfl) ?_
    refine xt_i (As := [.int (xI (b1 : Int))]) (rest := []) ⟨hx, hb, hml, hown, hts⟩ hl.1 (c_X5_isBuilder l (b1 : Int) (by omega)) k_X5_isBuilder u_ml_RX5_70 rfl rfl (Nat.le_of_ble_eq_true rfl) ⟨Nat.le_of_ble_eq_true rfl, Nat.le_of_ble_eq_true rfl⟩ ⟨Nat.le_of_ble_eq_true rfl, Nat.le_of_ble_eq_true rfl⟩ dX5_delete_1 ?_
    refine x_top (q1 := True) ⟨fun _ => trivial, fun _ => by omega⟩ ?_
    refine x_ifb_ne (tgt := 11) hx hb dX5_delete_4 (by decide)  (fun c_4 => ?_) (fun c_4 => absurd trivial c_4)
    refine lv_aload_n hx hb dX5_delete_11 rfl (lv_at hl 0 rfl) ?_
    refine lv_iload_n hx hb dX5_delete_12 rfl (lv_at hl 1 rfl) ?_
    refine lv_iload_n hx hb dX5_delete_13 rfl (lv_at hl 2 rfl) ?_
    refine lv_iload_n hx hb dX5_delete_14 rfl (lv_at hl 3 rfl) ?_
    refine xv_i (i := 53) (As := [.int (xI (b1 : Int)), .int (xI z2), .int (xI z3)]) (rest := []) ⟨hx, hb, hml, hown, hts⟩ hl.1 (c_X5_canDrop l D cA n ad en hn hM b1 h_b1 z2 z3 (by omega) (by omega) (S.1 b1).1 hz_b1 hm_b1) k_X5_canDrop u_ml_RX5_99 hK hN hP (by omega) hM.1 rfl rfl rfl rfl (Nat.le_of_ble_eq_true rfl) ⟨Nat.le_of_ble_eq_true rfl, Nat.le_of_ble_eq_true rfl⟩ ⟨Nat.le_of_ble_eq_true rfl, Nat.le_of_ble_eq_true rfl⟩ dX5_delete_15 ?_
    refine x_ifb_ne (tgt := 25) hx hb dX5_delete_18 (by decide)  (fun c_18 => ?_) (fun c_18 => ?_)
    · obtain ⟨a2, hv_z2⟩ : ∃ q : Nat, z2 = (q : Int) := ⟨Int.toNat z2, by omega⟩
      have hl : lv_has ls 4 [(0, .ref (ad 53)), (1, .int (xI (b1 : Int))), (2, .int (xI (a2 : Int))), (3, .int (xI z3))] := by rw [← hv_z2]; exact hl
      refine lv_aload_n hx hb dX5_delete_25 rfl (lv_at hl 0 rfl) ?_
      refine x_iconst hx hb dX5_delete_26 ?_
      refine x_put (T := TX5) (N := 17) (ty := .int) hx hb hts uX5 tyX5 tyX5_ok nmX5 hown hK hP hD hS (i := 53) (by omega) hM.1 rfl 5 (by decide) u_fl_RX5_62 rfl (by decide +kernel) rfl rfl (by show 5 < 17; decide) dX5_delete_27 (fun H locs hP hS => ?_)
      obtain ⟨en1, he1⟩ : ∃ z, z = va_up en 53 (.inr (5, [.ref (ad 54), .ref (ad 55), .ref (ad 56), .ref (ad 57), .ref (ad 58), .int (xI 0), .ref (ad 59), .ref (ad 60), .ref (ad 61), .ref (ad 62), .int (xI M.parts), .ref (ad 63), .ref (ad 64), .ref (ad 65), .ref (ad 66), .ref (ad 67), .long M.h])) := ⟨_, rfl⟩
      have hP : va_P D vwCl (xw n ad en1) H := by rw [he1]; exact hP
      have hM : MW cA ad en1 (mO M.built M.builtMany M.told M.toldMany M.row 0 M.figures M.partText M.partFrom M.partMany M.parts M.cut M.cutMany M.isCut M.cutGives M.cutAt M.h) := by rw [he1]; exact hM.s_rowMany 0
      have ho : xO 53 68 en en1 := by rw [he1]; exact ho.up (by omega) (by omega)
      refine lv_aload_n hx hb dX5_delete_30 rfl (lv_at hl 0 rfl) ?_
      refine lv_iload_n hx hb dX5_delete_31 rfl (lv_at hl 1 rfl) ?_
      refine lv_iload_n hx hb dX5_delete_32 rfl (lv_at hl 2 rfl) ?_
      refine lv_aload_n hx hb dX5_delete_33 rfl (lv_at hl 0 rfl) ?_
      refine lv_iload_n hx hb dX5_delete_34 rfl (lv_at hl 1 rfl) ?_
      refine lv_iload_n hx hb dX5_delete_35 rfl (lv_at hl 3 rfl) ?_
      refine xv_i (i := 53) (As := [.int (xI (b1 : Int)), .int (xI z3)]) (rest := [.int (xI (a2 : Int)), .int (xI (b1 : Int)), .ref (ad 53)]) ⟨hx, hb, hml, hown, hts⟩ hl.1 (c_X5_endOf l D cA n ad en1 hn hM b1 h_b1 z3 (by omega) (S.1 b1).1 hz_b1 hm_b1) k_X5_endOf u_ml_RX5_103 hK hN hP (by omega) (show en1 53 = .inr (5, [.ref (ad 54), .ref (ad 55), .ref (ad 56), .ref (ad 57), .ref (ad 58), .int (xI 0), .ref (ad 59), .ref (ad 60), .ref (ad 61), .ref (ad 62), .int (xI M.parts), .ref (ad 63), .ref (ad 64), .ref (ad 65), .ref (ad 66), .ref (ad 67), .long M.h]) from hM.1) rfl rfl rfl rfl (Nat.le_of_ble_eq_true rfl) ⟨Nat.le_of_ble_eq_true rfl, Nat.le_of_ble_eq_true rfl⟩ ⟨Nat.le_of_ble_eq_true rfl, Nat.le_of_ble_eq_true rfl⟩ dX5_delete_36 ?_
      obtain ⟨d3, hd3⟩ : ∃ q : Nat, min z3 ((S.1 b1).1 : Int) = (q : Int) := ⟨Int.toNat (min z3 ((S.1 b1).1 : Int)), by omega⟩
      refine x_to ((d3 : Int)) (hd3) ?_
      refine xm_i (i := 53) (As := [.int (xI (b1 : Int)), .int (xI (a2 : Int)), .int (xI (d3 : Int))]) (rest := []) ⟨hx, hb, hml, hown, hts⟩ hl.1 (c_X5_edit l D cA n ad en1 _ hn hM b1 h_b1 a2 d3 (S.1 b1).1 hz_b1 hm_b1 (by omega) (by omega) 0 (show 0 = ((0 : Nat) : Int) from by omega) (by omega)) k_X5_edit u_ml_RX5_66 hK hN hP (by omega) (show en1 53 = .inr (5, [.ref (ad 54), .ref (ad 55), .ref (ad 56), .ref (ad 57), .ref (ad 58), .int (xI 0), .ref (ad 59), .ref (ad 60), .ref (ad 61), .ref (ad 62), .int (xI M.parts), .ref (ad 63), .ref (ad 64), .ref (ad 65), .ref (ad 66), .ref (ad 67), .long M.h]) from hM.1) rfl rfl rfl rfl (Nat.le_of_ble_eq_true rfl) ⟨Nat.le_of_ble_eq_true rfl, Nat.le_of_ble_eq_true rfl⟩ ⟨Nat.le_of_ble_eq_true rfl, Nat.le_of_ble_eq_true rfl⟩ dX5_delete_39 hD hS hA (fun r2 en2 H locs hp2 hP hS => ?_)
      rcases hp2 with ⟨hfu, hrv, hu⟩ | ⟨hfu, z7, F7, hrv, hz7, hF7, hG7, hM, ho2⟩
      · subst hrv
        rw [hu] at hP
        exact xe_i hx hb hrt hlocks hP hS ((by unfold am_delete; simp only [Int.toNat_natCast]; rw [sp_if_f (by omega), sp_if_f (by omega)]; (try rw [show Int.toNat z2 = a2 by omega]); (try rw [show Int.toNat (min z3 ((S.1 b1).1 : Int)) = d3 by omega]); have q9 := m_full hR (b := b1) (a := a2) (d := d3) (k9 := 0) (r0 := ((0, fun _ => 0) : xRow)) (by omega) (by omega) (by first | rfl | omega | (dsimp only; omega)) hfu; exact ⟨q9.1, _, hM, q9.2, ho⟩)) dX5_delete_42
      · subst hrv
        have ho := ho.tr ho2
        have hM : MW cA ad en2 (mO F7 (sp_up M.builtMany b1 z7) M.told M.toldMany M.row 0 M.figures M.partText M.partFrom M.partMany M.parts M.cut M.cutMany M.isCut M.cutGives M.cutAt M.h) := hM
        exact xe_i hx hb hrt hlocks hP hS ((by unfold am_delete; simp only [Int.toNat_natCast]; rw [sp_if_f (by omega), sp_if_f (by omega)]; (try rw [show Int.toNat z2 = a2 by omega]); (try rw [show Int.toNat (min z3 ((S.1 b1).1 : Int)) = d3 by omega]); have q9 := m_edt hR hW h_b1 (a := a2) (d := d3) (k9 := 0) (r0 := ((0, fun _ => 0) : xRow)) (by omega) (by omega) (by first | rfl | omega | (dsimp only; omega)) hfu hz7 hF7 hG7 (fun k hk => absurd hk (Nat.not_lt_zero _)); exact ⟨q9.1, _, hM, q9.2, ho⟩)) dX5_delete_42
    · refine x_sipush hx hb dX5_delete_21 (by decide +kernel) ?_
      exact xe_i hx hb hrt hlocks hP hS ((by unfold am_delete; simp only [Int.toNat_natCast]; rw [sp_if_f (by omega), sp_if_t (by omega)]; exact ⟨rfl, _, hM, hR, ho⟩)) dX5_delete_24
  · refine lv_iload_n hx hb dX5_delete_0 rfl (lv_at hl 1 rfl) ?_
    refine xt_i (As := [.int (xI z1)]) (rest := []) ⟨hx, hb, hml, hown, hts⟩ hl.1 (c_X5_isBuilder l z1 (by omega)) k_X5_isBuilder u_ml_RX5_70 rfl rfl (Nat.le_of_ble_eq_true rfl) ⟨Nat.le_of_ble_eq_true rfl, Nat.le_of_ble_eq_true rfl⟩ ⟨Nat.le_of_ble_eq_true rfl, Nat.le_of_ble_eq_true rfl⟩ dX5_delete_1 ?_
    refine x_top (q1 := False) ⟨fun h => absurd h (by omega), False.elim⟩ ?_
    refine x_ifb_ne (tgt := 11) hx hb dX5_delete_4 (by decide)  (fun c_4 => absurd c_4 id) (fun c_4 => ?_)
    refine x_sipush hx hb dX5_delete_7 (by decide +kernel) ?_
    exact xe_i hx hb hrt hlocks hP hS ((by unfold am_delete; rw [sp_if_t (by omega)]; exact ⟨rfl, _, hM, hR, ho⟩)) dX5_delete_10

set_option maxRecDepth 20000 in
theorem c_X5_deleteAt (l : Launch) (D : va_G) (cA : Nat → ClassId) (n : Nat) (ad : Nat → Nat) (en : Nat → va_E) (sz : Nat) (hn : 68 ≤ n) {M : MO} (hM : MW cA ad en M) {S : xSt} (hW : WF S) (hR : MR S M) (z1 : Int) (hz1 : -2147483648 ≤ z1 ∧ z1 ≤ 2147483647) (z2 : Int) (hz2 : -2147483648 ≤ z2 ∧ z2 ≤ 2147483647) : Met l yX5_deleteAt (Cond.code yX5_deleteAt cX5_deleteAt 3 (some .int) :: xU) (xrm 2 45) (va_Pc [.ref (ad 53), .int (xI z1), .int (xI z2)] (xM D cA n ad en sz)) (va_Qi (fun r u => r = xI (am_deleteAt S z1 z2).1 ∧ ∃ M' : MO, MW cA ad u M' ∧ MR (am_deleteAt S z1 z2).2 M' ∧ xO 53 68 en u) (xE D n ad) (xA n ad sz)) 0 0 (xA n ad sz) := by
  refine xmet (by decide) (Nat.le_of_ble_eq_true rfl) (fun p e s mm args below meth c ls hx hb hrt hml hown hts hlocks hname hB hl => ?_)
  obtain ⟨⟨hP, hK, hN⟩, hsz, hDt⟩ := hB
  have hD : xD (xA n ad sz) n ad := xD_self hDt sz
  have hA : ∀ q : Nat, s.heap.size ≤ q → xA n ad sz q := fun q h => Or.inr (by rw [← hsz]; exact h)
  have hS : va_S (xA n ad sz) s.heap s.heap [] := va_S.rf
  have hown : s.vm.findClass RX5 = some mm.cls := hown
  have hl : lv_has ls 3 [(0, .ref (ad 53)), (1, .int (xI z1)), (2, .int (xI z2))] := hl
  have ho : xO 53 68 en en := xO.rf
  rcases Classical.em (0 ≤ z1 ∧ z1 < 4) with hx_z1 | hx_z1
  · obtain ⟨b1, rfl⟩ : ∃ q : Nat, z1 = (q : Int) := ⟨z1.toNat, by omega⟩
    have h_b1 : b1 < 4 := by omega
    have hm_b1 := (hW.1 b1 h_b1).1
    have hfb_b1 := (hW.1 b1 h_b1).2
    have hB_b1 := hR.1 b1 h_b1
    have hz_b1 := hB_b1.1
    refine lv_iload_n hx hb dX5_deleteAt_0 rfl (lv_at hl 1 rfl) ?_
    refine xt_i (As := [.int (xI (b1 : Int))]) (rest := []) ⟨hx, hb, hml, hown, hts⟩ hl.1 (c_X5_isBuilder l (b1 : Int) (by omega)) k_X5_isBuilder u_ml_RX5_70 rfl rfl (Nat.le_of_ble_eq_true rfl) ⟨Nat.le_of_ble_eq_true rfl, Nat.le_of_ble_eq_true rfl⟩ ⟨Nat.le_of_ble_eq_true rfl, Nat.le_of_ble_eq_true rfl⟩ dX5_deleteAt_1 ?_
    refine x_top (q1 := True) ⟨fun _ => trivial, fun _ => by omega⟩ ?_
    refine x_ifb_ne (tgt := 11) hx hb dX5_deleteAt_4 (by decide)  (fun c_4 => ?_) (fun c_4 => absurd trivial c_4)
    refine lv_iload_n hx hb dX5_deleteAt_11 rfl (lv_at hl 2 rfl) ?_
    refine x_i2l hx hb dX5_deleteAt_12 (by omega) ?_
    refine lv_lconst (v := xL 0) hx hb dX5_deleteAt_13 (by decide +kernel) ?_
    refine lv_aload_n hx hb dX5_deleteAt_14 rfl (lv_at hl 0 rfl) ?_
    refine x_get (T := TX5) (N := 17) hx hb hts uX5 hown hK hP (i := 53) (by omega) hM.1 rfl 1 (by decide) u_fl_RX5_13 rfl dX5_deleteAt_15 ?_
    refine lv_iload_n hx hb dX5_deleteAt_18 rfl (lv_at hl 1 rfl) ?_
    refine x_ild hx hb hK hP (i := 55) (by omega) hM.2.2.1 (x := ((S.1 b1).1 : Int)) (by omega) (congrArg xI hz_b1) dX5_deleteAt_19 ?_
    refine x_iconst hx hb dX5_deleteAt_20 ?_
    refine x_isub hx hb dX5_deleteAt_21 ?_
    refine x_i2l hx hb dX5_deleteAt_22 (by omega) ?_
    refine xt_i (As := [.long (xL z2), .long (xL 0), .long (xL (((S.1 b1).1 : Int) - 1))]) (rest := []) ⟨hx, hb, hml, hown, hts⟩ hl.1 (c_X5_in l z2 0 (((S.1 b1).1 : Int) - 1) (by omega) (by omega) (by omega)) k_X5_in u_ml_RX5_54 rfl rfl (Nat.le_of_ble_eq_true rfl) ⟨Nat.le_of_ble_eq_true rfl, Nat.le_of_ble_eq_true rfl⟩ ⟨Nat.le_of_ble_eq_true rfl, Nat.le_of_ble_eq_true rfl⟩ dX5_deleteAt_23 ?_
    refine x_ifb_ne (tgt := 33) hx hb dX5_deleteAt_26 (by decide)  (fun c_26 => ?_) (fun c_26 => ?_)
    · obtain ⟨a2, hv_z2⟩ : ∃ q : Nat, z2 = (q : Int) := ⟨Int.toNat z2, by omega⟩
      have hl : lv_has ls 3 [(0, .ref (ad 53)), (1, .int (xI (b1 : Int))), (2, .int (xI (a2 : Int)))] := by rw [← hv_z2]; exact hl
      refine lv_aload_n hx hb dX5_deleteAt_33 rfl (lv_at hl 0 rfl) ?_
      refine x_iconst hx hb dX5_deleteAt_34 ?_
      refine x_put (T := TX5) (N := 17) (ty := .int) hx hb hts uX5 tyX5 tyX5_ok nmX5 hown hK hP hD hS (i := 53) (by omega) hM.1 rfl 5 (by decide) u_fl_RX5_62 rfl (by decide +kernel) rfl rfl (by show 5 < 17; decide) dX5_deleteAt_35 (fun H locs hP hS => ?_)
      obtain ⟨en1, he1⟩ : ∃ z, z = va_up en 53 (.inr (5, [.ref (ad 54), .ref (ad 55), .ref (ad 56), .ref (ad 57), .ref (ad 58), .int (xI 0), .ref (ad 59), .ref (ad 60), .ref (ad 61), .ref (ad 62), .int (xI M.parts), .ref (ad 63), .ref (ad 64), .ref (ad 65), .ref (ad 66), .ref (ad 67), .long M.h])) := ⟨_, rfl⟩
      have hP : va_P D vwCl (xw n ad en1) H := by rw [he1]; exact hP
      have hM : MW cA ad en1 (mO M.built M.builtMany M.told M.toldMany M.row 0 M.figures M.partText M.partFrom M.partMany M.parts M.cut M.cutMany M.isCut M.cutGives M.cutAt M.h) := by rw [he1]; exact hM.s_rowMany 0
      have ho : xO 53 68 en en1 := by rw [he1]; exact ho.up (by omega) (by omega)
      refine lv_aload_n hx hb dX5_deleteAt_38 rfl (lv_at hl 0 rfl) ?_
      refine lv_iload_n hx hb dX5_deleteAt_39 rfl (lv_at hl 1 rfl) ?_
      refine lv_iload_n hx hb dX5_deleteAt_40 rfl (lv_at hl 2 rfl) ?_
      refine lv_iload_n hx hb dX5_deleteAt_41 rfl (lv_at hl 2 rfl) ?_
      refine x_iconst hx hb dX5_deleteAt_42 ?_
      refine x_iadd hx hb dX5_deleteAt_43 ?_
      refine xm_i (i := 53) (As := [.int (xI (b1 : Int)), .int (xI (a2 : Int)), .int (xI ((a2 : Int) + 1))]) (rest := []) ⟨hx, hb, hml, hown, hts⟩ hl.1 (c_X5_edit l D cA n ad en1 _ hn hM b1 h_b1 a2 (a2 + 1) (S.1 b1).1 hz_b1 hm_b1 (by omega) (by omega) 0 (show 0 = ((0 : Nat) : Int) from by omega) (by omega)) k_X5_edit u_ml_RX5_66 hK hN hP (by omega) (show en1 53 = .inr (5, [.ref (ad 54), .ref (ad 55), .ref (ad 56), .ref (ad 57), .ref (ad 58), .int (xI 0), .ref (ad 59), .ref (ad 60), .ref (ad 61), .ref (ad 62), .int (xI M.parts), .ref (ad 63), .ref (ad 64), .ref (ad 65), .ref (ad 66), .ref (ad 67), .long M.h]) from hM.1) rfl rfl rfl rfl (Nat.le_of_ble_eq_true rfl) ⟨Nat.le_of_ble_eq_true rfl, Nat.le_of_ble_eq_true rfl⟩ ⟨Nat.le_of_ble_eq_true rfl, Nat.le_of_ble_eq_true rfl⟩ dX5_deleteAt_44 hD hS hA (fun r2 en2 H locs hp2 hP hS => ?_)
      rcases hp2 with ⟨hfu, hrv, hu⟩ | ⟨hfu, z7, F7, hrv, hz7, hF7, hG7, hM, ho2⟩
      · subst hrv
        rw [hu] at hP
        exact xe_i hx hb hrt hlocks hP hS ((by unfold am_deleteAt; simp only [Int.toNat_natCast]; rw [sp_if_f (by omega), sp_if_f (by omega)]; (try rw [show Int.toNat z2 = a2 by omega]); have q9 := m_full hR (b := b1) (a := a2) (d := (a2 + 1)) (k9 := 0) (r0 := ((0, fun _ => 0) : xRow)) (by omega) (by omega) (by first | rfl | omega | (dsimp only; omega)) hfu; exact ⟨q9.1, _, hM, q9.2, ho⟩)) dX5_deleteAt_47
      · subst hrv
        have ho := ho.tr ho2
        have hM : MW cA ad en2 (mO F7 (sp_up M.builtMany b1 z7) M.told M.toldMany M.row 0 M.figures M.partText M.partFrom M.partMany M.parts M.cut M.cutMany M.isCut M.cutGives M.cutAt M.h) := hM
        exact xe_i hx hb hrt hlocks hP hS ((by unfold am_deleteAt; simp only [Int.toNat_natCast]; rw [sp_if_f (by omega), sp_if_f (by omega)]; (try rw [show Int.toNat z2 = a2 by omega]); have q9 := m_edt hR hW h_b1 (a := a2) (d := (a2 + 1)) (k9 := 0) (r0 := ((0, fun _ => 0) : xRow)) (by omega) (by omega) (by first | rfl | omega | (dsimp only; omega)) hfu hz7 hF7 hG7 (fun k hk => absurd hk (Nat.not_lt_zero _)); exact ⟨q9.1, _, hM, q9.2, ho⟩)) dX5_deleteAt_47
    · refine x_sipush hx hb dX5_deleteAt_29 (by decide +kernel) ?_
      exact xe_i hx hb hrt hlocks hP hS ((by unfold am_deleteAt; simp only [Int.toNat_natCast]; rw [sp_if_f (by omega), sp_if_t (by omega)]; exact ⟨rfl, _, hM, hR, ho⟩)) dX5_deleteAt_32
  · refine lv_iload_n hx hb dX5_deleteAt_0 rfl (lv_at hl 1 rfl) ?_
    refine xt_i (As := [.int (xI z1)]) (rest := []) ⟨hx, hb, hml, hown, hts⟩ hl.1 (c_X5_isBuilder l z1 (by omega)) k_X5_isBuilder u_ml_RX5_70 rfl rfl (Nat.le_of_ble_eq_true rfl) ⟨Nat.le_of_ble_eq_true rfl, Nat.le_of_ble_eq_true rfl⟩ ⟨Nat.le_of_ble_eq_true rfl, Nat.le_of_ble_eq_true rfl⟩ dX5_deleteAt_1 ?_
    refine x_top (q1 := False) ⟨fun h => absurd h (by omega), False.elim⟩ ?_
    refine x_ifb_ne (tgt := 11) hx hb dX5_deleteAt_4 (by decide)  (fun c_4 => absurd c_4 id) (fun c_4 => ?_)
    refine x_sipush hx hb dX5_deleteAt_7 (by decide +kernel) ?_
    exact xe_i hx hb hrt hlocks hP hS ((by unfold am_deleteAt; rw [sp_if_t (by omega)]; exact ⟨rfl, _, hM, hR, ho⟩)) dX5_deleteAt_10

set_option maxRecDepth 20000 in
theorem c_X5_replace (l : Launch) (D : va_G) (cA : Nat → ClassId) (n : Nat) (ad : Nat → Nat) (en : Nat → va_E) (sz : Nat) (hn : 68 ≤ n) {M : MO} (hM : MW cA ad en M) {S : xSt} (hW : WF S) (hR : MR S M) (z1 : Int) (hz1 : -2147483648 ≤ z1 ∧ z1 ≤ 2147483647) (z2 : Int) (hz2 : -2147483648 ≤ z2 ∧ z2 ≤ 2147483647) (z3 : Int) (hz3 : -2147483648 ≤ z3 ∧ z3 ≤ 2147483647) (z4 : Int) (hz4 : -2147483648 ≤ z4 ∧ z4 ≤ 2147483647) : Met l yX5_replace (Cond.code yX5_replace cX5_replace 5 (some .int) :: xU) (xrm 2 48) (va_Pc [.ref (ad 53), .int (xI z1), .int (xI z2), .int (xI z3), .int (xI z4)] (xM D cA n ad en sz)) (va_Qi (fun r u => r = xI (am_replace S z1 z2 z3 z4).1 ∧ ∃ M' : MO, MW cA ad u M' ∧ MR (am_replace S z1 z2 z3 z4).2 M' ∧ xO 53 68 en u) (xE D n ad) (xA n ad sz)) 0 0 (xA n ad sz) := by
  refine xmet (by decide) (Nat.le_of_ble_eq_true rfl) (fun p e s mm args below meth c ls hx hb hrt hml hown hts hlocks hname hB hl => ?_)
  obtain ⟨⟨hP, hK, hN⟩, hsz, hDt⟩ := hB
  have hD : xD (xA n ad sz) n ad := xD_self hDt sz
  have hA : ∀ q : Nat, s.heap.size ≤ q → xA n ad sz q := fun q h => Or.inr (by rw [← hsz]; exact h)
  have hS : va_S (xA n ad sz) s.heap s.heap [] := va_S.rf
  have hown : s.vm.findClass RX5 = some mm.cls := hown
  have hl : lv_has ls 5 [(0, .ref (ad 53)), (1, .int (xI z1)), (2, .int (xI z2)), (3, .int (xI z3)), (4, .int (xI z4))] := hl
  have ho : xO 53 68 en en := xO.rf
  rcases Classical.em (0 ≤ z1 ∧ z1 < 4) with hx_z1 | hx_z1
  · obtain ⟨b1, rfl⟩ : ∃ q : Nat, z1 = (q : Int) := ⟨z1.toNat, by omega⟩
    have h_b1 : b1 < 4 := by omega
    rcases Classical.em (0 ≤ z4 ∧ z4 < 8) with hx_z4 | hx_z4
    · obtain ⟨t4, rfl⟩ : ∃ q : Nat, z4 = (q : Int) := ⟨z4.toNat, by omega⟩
      have h_t4 : t4 < 8 := by omega
      rcases hS_t4 : S.2.1 t4 with _ | r_t4
      · have hm_b1 := (hW.1 b1 h_b1).1
        have hfb_b1 := (hW.1 b1 h_b1).2
        have hB_b1 := hR.1 b1 h_b1
        have hz_b1 := hB_b1.1
        have hz_t4 : M.toldMany t4 = -1 := by have q := hR.2.1 t4 h_t4; rw [hS_t4] at q; exact q
        refine lv_iload_n hx hb dX5_replace_0 rfl (lv_at hl 1 rfl) ?_
        refine xt_i (As := [.int (xI (b1 : Int))]) (rest := []) ⟨hx, hb, hml, hown, hts⟩ hl.1 (c_X5_isBuilder l (b1 : Int) (by omega)) k_X5_isBuilder u_ml_RX5_70 rfl rfl (Nat.le_of_ble_eq_true rfl) ⟨Nat.le_of_ble_eq_true rfl, Nat.le_of_ble_eq_true rfl⟩ ⟨Nat.le_of_ble_eq_true rfl, Nat.le_of_ble_eq_true rfl⟩ dX5_replace_1 ?_
        refine x_top (q1 := True) ⟨fun _ => trivial, fun _ => by omega⟩ ?_
        refine x_ifb_eq (tgt := 15) hx hb dX5_replace_4 (by decide)  (fun c_4 => absurd trivial c_4) (fun c_4 => ?_)
        refine lv_iload hx hb dX5_replace_7 (lv_at hl 4 rfl) ?_
        refine xt_i (As := [.int (xI (t4 : Int))]) (rest := []) ⟨hx, hb, hml, hown, hts⟩ hl.1 (c_X5_isText l (t4 : Int) (by omega)) k_X5_isText u_ml_RX5_87 rfl rfl (Nat.le_of_ble_eq_true rfl) ⟨Nat.le_of_ble_eq_true rfl, Nat.le_of_ble_eq_true rfl⟩ ⟨Nat.le_of_ble_eq_true rfl, Nat.le_of_ble_eq_true rfl⟩ dX5_replace_9 ?_
        refine x_top (q1 := True) ⟨fun _ => trivial, fun _ => by omega⟩ ?_
        refine x_ifb_ne (tgt := 19) hx hb dX5_replace_12 (by decide)  (fun c_12 => ?_) (fun c_12 => absurd trivial c_12)
        refine lv_aload_n hx hb dX5_replace_19 rfl (lv_at hl 0 rfl) ?_
        refine x_get (T := TX5) (N := 17) hx hb hts uX5 hown hK hP (i := 53) (by omega) hM.1 rfl 3 (by decide) u_fl_RX5_19 rfl dX5_replace_20 ?_
        refine lv_iload hx hb dX5_replace_23 (lv_at hl 4 rfl) ?_
        refine x_ild hx hb hK hP (i := 57) (by omega) hM.2.2.2.2.1 (x := -1) (by omega) (congrArg xI hz_t4) dX5_replace_25 ?_
        refine x_if_ge (tgt := 33) hx hb dX5_replace_26 (by decide) (by omega) (fun c_26 => absurd c_26 (by omega)) (fun c_26 => ?_)
        refine x_sipush hx hb dX5_replace_29 (by decide +kernel) ?_
        exact xe_i hx hb hrt hlocks hP hS ((by unfold am_replace; simp only [Int.toNat_natCast]; rw [sp_if_f (by omega), sp_if_t (by simp [hS_t4])]; exact ⟨rfl, _, hM, hR, ho⟩)) dX5_replace_32
      · have hm_b1 := (hW.1 b1 h_b1).1
        have hfb_b1 := (hW.1 b1 h_b1).2
        have hB_b1 := hR.1 b1 h_b1
        have hz_b1 := hB_b1.1
        have hT_t4 : M.toldMany t4 = (r_t4.1 : Int) ∧ ∀ k : Nat, k < r_t4.1 → M.told (200 * t4 + k) = r_t4.2 k := by have q := hR.2.1 t4 h_t4; rw [hS_t4] at q; exact q
        have hz_t4 := hT_t4.1
        have hm_t4 := (hW.2.1 t4 r_t4 h_t4 hS_t4).1
        have hfb_t4 := (hW.2.1 t4 r_t4 h_t4 hS_t4).2
        refine lv_iload_n hx hb dX5_replace_0 rfl (lv_at hl 1 rfl) ?_
        refine xt_i (As := [.int (xI (b1 : Int))]) (rest := []) ⟨hx, hb, hml, hown, hts⟩ hl.1 (c_X5_isBuilder l (b1 : Int) (by omega)) k_X5_isBuilder u_ml_RX5_70 rfl rfl (Nat.le_of_ble_eq_true rfl) ⟨Nat.le_of_ble_eq_true rfl, Nat.le_of_ble_eq_true rfl⟩ ⟨Nat.le_of_ble_eq_true rfl, Nat.le_of_ble_eq_true rfl⟩ dX5_replace_1 ?_
        refine x_top (q1 := True) ⟨fun _ => trivial, fun _ => by omega⟩ ?_
        refine x_ifb_eq (tgt := 15) hx hb dX5_replace_4 (by decide)  (fun c_4 => absurd trivial c_4) (fun c_4 => ?_)
        refine lv_iload hx hb dX5_replace_7 (lv_at hl 4 rfl) ?_
        refine xt_i (As := [.int (xI (t4 : Int))]) (rest := []) ⟨hx, hb, hml, hown, hts⟩ hl.1 (c_X5_isText l (t4 : Int) (by omega)) k_X5_isText u_ml_RX5_87 rfl rfl (Nat.le_of_ble_eq_true rfl) ⟨Nat.le_of_ble_eq_true rfl, Nat.le_of_ble_eq_true rfl⟩ ⟨Nat.le_of_ble_eq_true rfl, Nat.le_of_ble_eq_true rfl⟩ dX5_replace_9 ?_
        refine x_top (q1 := True) ⟨fun _ => trivial, fun _ => by omega⟩ ?_
        refine x_ifb_ne (tgt := 19) hx hb dX5_replace_12 (by decide)  (fun c_12 => ?_) (fun c_12 => absurd trivial c_12)
        refine lv_aload_n hx hb dX5_replace_19 rfl (lv_at hl 0 rfl) ?_
        refine x_get (T := TX5) (N := 17) hx hb hts uX5 hown hK hP (i := 53) (by omega) hM.1 rfl 3 (by decide) u_fl_RX5_19 rfl dX5_replace_20 ?_
        refine lv_iload hx hb dX5_replace_23 (lv_at hl 4 rfl) ?_
        refine x_ild hx hb hK hP (i := 57) (by omega) hM.2.2.2.2.1 (x := (r_t4.1 : Int)) (by omega) (congrArg xI hz_t4) dX5_replace_25 ?_
        refine x_if_ge (tgt := 33) hx hb dX5_replace_26 (by decide) (by omega) (fun c_26 => ?_) (fun c_26 => absurd c_26 (by omega))
        refine lv_aload_n hx hb dX5_replace_33 rfl (lv_at hl 0 rfl) ?_
        refine lv_iload_n hx hb dX5_replace_34 rfl (lv_at hl 1 rfl) ?_
        refine lv_iload_n hx hb dX5_replace_35 rfl (lv_at hl 2 rfl) ?_
        refine lv_iload_n hx hb dX5_replace_36 rfl (lv_at hl 3 rfl) ?_
        refine xv_i (i := 53) (As := [.int (xI (b1 : Int)), .int (xI z2), .int (xI z3)]) (rest := []) ⟨hx, hb, hml, hown, hts⟩ hl.1 (c_X5_canDrop l D cA n ad en hn hM b1 h_b1 z2 z3 (by omega) (by omega) (S.1 b1).1 hz_b1 hm_b1) k_X5_canDrop u_ml_RX5_99 hK hN hP (by omega) hM.1 rfl rfl rfl rfl (Nat.le_of_ble_eq_true rfl) ⟨Nat.le_of_ble_eq_true rfl, Nat.le_of_ble_eq_true rfl⟩ ⟨Nat.le_of_ble_eq_true rfl, Nat.le_of_ble_eq_true rfl⟩ dX5_replace_37 ?_
        refine x_ifb_ne (tgt := 47) hx hb dX5_replace_40 (by decide)  (fun c_40 => ?_) (fun c_40 => ?_)
        · obtain ⟨a2, hv_z2⟩ : ∃ q : Nat, z2 = (q : Int) := ⟨Int.toNat z2, by omega⟩
          have hl : lv_has ls 5 [(0, .ref (ad 53)), (1, .int (xI (b1 : Int))), (2, .int (xI (a2 : Int))), (3, .int (xI z3)), (4, .int (xI (t4 : Int)))] := by rw [← hv_z2]; exact hl
          refine lv_aload_n hx hb dX5_replace_47 rfl (lv_at hl 0 rfl) ?_
          refine lv_iload hx hb dX5_replace_48 (lv_at hl 4 rfl) ?_
          refine xm_v (i := 53) (As := [.int (xI (t4 : Int))]) (rest := []) ⟨hx, hb, hml, hown, hts⟩ hl.1 (c_X5_layText_some l D cA n ad en _ hn hM t4 h_t4 (r := r_t4) hz_t4 hm_t4 hT_t4.2) k_X5_layText u_ml_RX5_90 hK hN hP (by omega) hM.1 rfl rfl rfl rfl (Nat.le_of_ble_eq_true rfl) ⟨Nat.le_of_ble_eq_true rfl, Nat.le_of_ble_eq_true rfl⟩ ⟨Nat.le_of_ble_eq_true rfl, Nat.le_of_ble_eq_true rfl⟩ dX5_replace_50 hD hS hA (fun en1 H locs hp1 hP hS => ?_)
          obtain ⟨F9, hF9, hM, ho2⟩ := hp1
          have hM : MW cA ad en1 (mO M.built M.builtMany M.told M.toldMany F9 (r_t4.1 : Int) M.figures M.partText M.partFrom M.partMany M.parts M.cut M.cutMany M.isCut M.cutGives M.cutAt M.h) := hM
          have ho := ho.tr ho2
          refine lv_aload_n hx hb dX5_replace_53 rfl (lv_at hl 0 rfl) ?_
          refine lv_iload_n hx hb dX5_replace_54 rfl (lv_at hl 1 rfl) ?_
          refine lv_iload_n hx hb dX5_replace_55 rfl (lv_at hl 2 rfl) ?_
          refine lv_aload_n hx hb dX5_replace_56 rfl (lv_at hl 0 rfl) ?_
          refine lv_iload_n hx hb dX5_replace_57 rfl (lv_at hl 1 rfl) ?_
          refine lv_iload_n hx hb dX5_replace_58 rfl (lv_at hl 3 rfl) ?_
          refine xv_i (i := 53) (As := [.int (xI (b1 : Int)), .int (xI z3)]) (rest := [.int (xI (a2 : Int)), .int (xI (b1 : Int)), .ref (ad 53)]) ⟨hx, hb, hml, hown, hts⟩ hl.1 (c_X5_endOf l D cA n ad en1 hn hM b1 h_b1 z3 (by omega) (S.1 b1).1 hz_b1 hm_b1) k_X5_endOf u_ml_RX5_103 hK hN hP (by omega) (show en1 53 = .inr (5, [.ref (ad 54), .ref (ad 55), .ref (ad 56), .ref (ad 57), .ref (ad 58), .int (xI (r_t4.1 : Int)), .ref (ad 59), .ref (ad 60), .ref (ad 61), .ref (ad 62), .int (xI M.parts), .ref (ad 63), .ref (ad 64), .ref (ad 65), .ref (ad 66), .ref (ad 67), .long M.h]) from hM.1) rfl rfl rfl rfl (Nat.le_of_ble_eq_true rfl) ⟨Nat.le_of_ble_eq_true rfl, Nat.le_of_ble_eq_true rfl⟩ ⟨Nat.le_of_ble_eq_true rfl, Nat.le_of_ble_eq_true rfl⟩ dX5_replace_59 ?_
          obtain ⟨d3, hd3⟩ : ∃ q : Nat, min z3 ((S.1 b1).1 : Int) = (q : Int) := ⟨Int.toNat (min z3 ((S.1 b1).1 : Int)), by omega⟩
          refine x_to ((d3 : Int)) (hd3) ?_
          refine xm_i (i := 53) (As := [.int (xI (b1 : Int)), .int (xI (a2 : Int)), .int (xI (d3 : Int))]) (rest := []) ⟨hx, hb, hml, hown, hts⟩ hl.1 (c_X5_edit l D cA n ad en1 _ hn hM b1 h_b1 a2 d3 (S.1 b1).1 hz_b1 hm_b1 (by omega) (by omega) r_t4.1 (show (r_t4.1 : Int) = ((r_t4.1 : Nat) : Int) from by omega) (by omega)) k_X5_edit u_ml_RX5_66 hK hN hP (by omega) (show en1 53 = .inr (5, [.ref (ad 54), .ref (ad 55), .ref (ad 56), .ref (ad 57), .ref (ad 58), .int (xI (r_t4.1 : Int)), .ref (ad 59), .ref (ad 60), .ref (ad 61), .ref (ad 62), .int (xI M.parts), .ref (ad 63), .ref (ad 64), .ref (ad 65), .ref (ad 66), .ref (ad 67), .long M.h]) from hM.1) rfl rfl rfl rfl (Nat.le_of_ble_eq_true rfl) ⟨Nat.le_of_ble_eq_true rfl, Nat.le_of_ble_eq_true rfl⟩ ⟨Nat.le_of_ble_eq_true rfl, Nat.le_of_ble_eq_true rfl⟩ dX5_replace_62 hD hS hA (fun r2 en2 H locs hp2 hP hS => ?_)
          rcases hp2 with ⟨hfu, hrv, hu⟩ | ⟨hfu, z7, F7, hrv, hz7, hF7, hG7, hM, ho2⟩
          · subst hrv
            rw [hu] at hP
            exact xe_i hx hb hrt hlocks hP hS ((by unfold am_replace; simp only [Int.toNat_natCast]; simp only [sp_get_s hS_t4]; rw [sp_if_f (by omega), sp_if_f (by simp [hS_t4]), sp_if_f (by omega)]; (try rw [show Int.toNat z2 = a2 by omega]); (try rw [show Int.toNat (min z3 ((S.1 b1).1 : Int)) = d3 by omega]); have q9 := m_full hR (b := b1) (a := a2) (d := d3) (k9 := r_t4.1) (r0 := r_t4) (by omega) (by omega) (by first | rfl | omega | (dsimp only; omega)) hfu; exact ⟨q9.1, _, hM, q9.2, ho⟩)) dX5_replace_65
          · subst hrv
            have ho := ho.tr ho2
            have hM : MW cA ad en2 (mO F7 (sp_up M.builtMany b1 z7) M.told M.toldMany F9 (r_t4.1 : Int) M.figures M.partText M.partFrom M.partMany M.parts M.cut M.cutMany M.isCut M.cutGives M.cutAt M.h) := hM
            exact xe_i hx hb hrt hlocks hP hS ((by unfold am_replace; simp only [Int.toNat_natCast]; simp only [sp_get_s hS_t4]; rw [sp_if_f (by omega), sp_if_f (by simp [hS_t4]), sp_if_f (by omega)]; (try rw [show Int.toNat z2 = a2 by omega]); (try rw [show Int.toNat (min z3 ((S.1 b1).1 : Int)) = d3 by omega]); have q9 := m_edt hR hW h_b1 (a := a2) (d := d3) (k9 := r_t4.1) (r0 := r_t4) (by omega) (by omega) (by first | rfl | omega | (dsimp only; omega)) hfu hz7 hF7 hG7 hF9; exact ⟨q9.1, _, hM, q9.2, ho⟩)) dX5_replace_65
        · refine x_sipush hx hb dX5_replace_43 (by decide +kernel) ?_
          exact xe_i hx hb hrt hlocks hP hS ((by unfold am_replace; simp only [Int.toNat_natCast]; simp only [sp_get_s hS_t4]; rw [sp_if_f (by omega), sp_if_f (by simp [hS_t4]), sp_if_t (by omega)]; exact ⟨rfl, _, hM, hR, ho⟩)) dX5_replace_46
    · have hm_b1 := (hW.1 b1 h_b1).1
      have hfb_b1 := (hW.1 b1 h_b1).2
      have hB_b1 := hR.1 b1 h_b1
      have hz_b1 := hB_b1.1
      refine lv_iload_n hx hb dX5_replace_0 rfl (lv_at hl 1 rfl) ?_
      refine xt_i (As := [.int (xI (b1 : Int))]) (rest := []) ⟨hx, hb, hml, hown, hts⟩ hl.1 (c_X5_isBuilder l (b1 : Int) (by omega)) k_X5_isBuilder u_ml_RX5_70 rfl rfl (Nat.le_of_ble_eq_true rfl) ⟨Nat.le_of_ble_eq_true rfl, Nat.le_of_ble_eq_true rfl⟩ ⟨Nat.le_of_ble_eq_true rfl, Nat.le_of_ble_eq_true rfl⟩ dX5_replace_1 ?_
      refine x_top (q1 := True) ⟨fun _ => trivial, fun _ => by omega⟩ ?_
      refine x_ifb_eq (tgt := 15) hx hb dX5_replace_4 (by decide)  (fun c_4 => absurd trivial c_4) (fun c_4 => ?_)
      refine lv_iload hx hb dX5_replace_7 (lv_at hl 4 rfl) ?_
      refine xt_i (As := [.int (xI z4)]) (rest := []) ⟨hx, hb, hml, hown, hts⟩ hl.1 (c_X5_isText l z4 (by omega)) k_X5_isText u_ml_RX5_87 rfl rfl (Nat.le_of_ble_eq_true rfl) ⟨Nat.le_of_ble_eq_true rfl, Nat.le_of_ble_eq_true rfl⟩ ⟨Nat.le_of_ble_eq_true rfl, Nat.le_of_ble_eq_true rfl⟩ dX5_replace_9 ?_
      refine x_top (q1 := False) ⟨fun h => absurd h (by omega), False.elim⟩ ?_
      refine x_ifb_ne (tgt := 19) hx hb dX5_replace_12 (by decide)  (fun c_12 => absurd c_12 id) (fun c_12 => ?_)
      refine x_sipush hx hb dX5_replace_15 (by decide +kernel) ?_
      exact xe_i hx hb hrt hlocks hP hS ((by unfold am_replace; simp only [Int.toNat_natCast]; rw [sp_if_t (by omega)]; exact ⟨rfl, _, hM, hR, ho⟩)) dX5_replace_18
  · rcases Classical.em (0 ≤ z4 ∧ z4 < 8) with hx_z4 | hx_z4
    · obtain ⟨t4, rfl⟩ : ∃ q : Nat, z4 = (q : Int) := ⟨z4.toNat, by omega⟩
      have h_t4 : t4 < 8 := by omega
      rcases hS_t4 : S.2.1 t4 with _ | r_t4
      · have hz_t4 : M.toldMany t4 = -1 := by have q := hR.2.1 t4 h_t4; rw [hS_t4] at q; exact q
        refine lv_iload_n hx hb dX5_replace_0 rfl (lv_at hl 1 rfl) ?_
        refine xt_i (As := [.int (xI z1)]) (rest := []) ⟨hx, hb, hml, hown, hts⟩ hl.1 (c_X5_isBuilder l z1 (by omega)) k_X5_isBuilder u_ml_RX5_70 rfl rfl (Nat.le_of_ble_eq_true rfl) ⟨Nat.le_of_ble_eq_true rfl, Nat.le_of_ble_eq_true rfl⟩ ⟨Nat.le_of_ble_eq_true rfl, Nat.le_of_ble_eq_true rfl⟩ dX5_replace_1 ?_
        refine x_top (q1 := False) ⟨fun h => absurd h (by omega), False.elim⟩ ?_
        refine x_ifb_eq (tgt := 15) hx hb dX5_replace_4 (by decide)  (fun c_4 => ?_) (fun c_4 => absurd c_4 id)
        refine x_sipush hx hb dX5_replace_15 (by decide +kernel) ?_
        exact xe_i hx hb hrt hlocks hP hS ((by unfold am_replace; simp only [Int.toNat_natCast]; rw [sp_if_t (by omega)]; exact ⟨rfl, _, hM, hR, ho⟩)) dX5_replace_18
      · have hT_t4 : M.toldMany t4 = (r_t4.1 : Int) ∧ ∀ k : Nat, k < r_t4.1 → M.told (200 * t4 + k) = r_t4.2 k := by have q := hR.2.1 t4 h_t4; rw [hS_t4] at q; exact q
        have hz_t4 := hT_t4.1
        have hm_t4 := (hW.2.1 t4 r_t4 h_t4 hS_t4).1
        have hfb_t4 := (hW.2.1 t4 r_t4 h_t4 hS_t4).2
        refine lv_iload_n hx hb dX5_replace_0 rfl (lv_at hl 1 rfl) ?_
        refine xt_i (As := [.int (xI z1)]) (rest := []) ⟨hx, hb, hml, hown, hts⟩ hl.1 (c_X5_isBuilder l z1 (by omega)) k_X5_isBuilder u_ml_RX5_70 rfl rfl (Nat.le_of_ble_eq_true rfl) ⟨Nat.le_of_ble_eq_true rfl, Nat.le_of_ble_eq_true rfl⟩ ⟨Nat.le_of_ble_eq_true rfl, Nat.le_of_ble_eq_true rfl⟩ dX5_replace_1 ?_
        refine x_top (q1 := False) ⟨fun h => absurd h (by omega), False.elim⟩ ?_
        refine x_ifb_eq (tgt := 15) hx hb dX5_replace_4 (by decide)  (fun c_4 => ?_) (fun c_4 => absurd c_4 id)
        refine x_sipush hx hb dX5_replace_15 (by decide +kernel) ?_
        exact xe_i hx hb hrt hlocks hP hS ((by unfold am_replace; simp only [Int.toNat_natCast]; simp only [sp_get_s hS_t4]; rw [sp_if_t (by omega)]; exact ⟨rfl, _, hM, hR, ho⟩)) dX5_replace_18
    · refine lv_iload_n hx hb dX5_replace_0 rfl (lv_at hl 1 rfl) ?_
      refine xt_i (As := [.int (xI z1)]) (rest := []) ⟨hx, hb, hml, hown, hts⟩ hl.1 (c_X5_isBuilder l z1 (by omega)) k_X5_isBuilder u_ml_RX5_70 rfl rfl (Nat.le_of_ble_eq_true rfl) ⟨Nat.le_of_ble_eq_true rfl, Nat.le_of_ble_eq_true rfl⟩ ⟨Nat.le_of_ble_eq_true rfl, Nat.le_of_ble_eq_true rfl⟩ dX5_replace_1 ?_
      refine x_top (q1 := False) ⟨fun h => absurd h (by omega), False.elim⟩ ?_
      refine x_ifb_eq (tgt := 15) hx hb dX5_replace_4 (by decide)  (fun c_4 => ?_) (fun c_4 => absurd c_4 id)
      refine x_sipush hx hb dX5_replace_15 (by decide +kernel) ?_
      exact xe_i hx hb hrt hlocks hP hS ((by unfold am_replace; rw [sp_if_t (by omega)]; exact ⟨rfl, _, hM, hR, ho⟩)) dX5_replace_18
